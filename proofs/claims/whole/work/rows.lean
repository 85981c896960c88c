section
-- ===== PART A: goes FIRST, ahead of the names: the tables' words, and 'selects' of the private methods out of them =====
/-- a private method of a class that the tables say can be made, by its rows of tables_1 -/
def lw_okq (q : MethodName × Nat) : Prop := (q.1.cls ≠ "java/lang/invoke/MethodHandle" ∧ q.1.cls ≠ "java/lang/invoke/VarHandle") ∧ Cond.instantiable q.1.cls q.2 ∈ tables_1 ∧ Cond.privateMethod q.1 ∈ tables_1 ∧ Cond.instanceMethod q.1 ∈ tables_1
theorem lw_p0 : lw_okq (⟨"ShipStores$MenuText", "accepts", "(I)Z"⟩, 6) := ⟨⟨by decide +kernel, by decide +kernel⟩, List.mem_of_getElem? (i := 266) (by decide +kernel), List.mem_of_getElem? (i := 333) (by decide +kernel), List.mem_of_getElem? (i := 334) (by decide +kernel)⟩
theorem lw_p1 : lw_okq (⟨"ShipStores$MenuText", "comesTo", "(I)Z"⟩, 6) := ⟨⟨by decide +kernel, by decide +kernel⟩, List.mem_of_getElem? (i := 266) (by decide +kernel), List.mem_of_getElem? (i := 337) (by decide +kernel), List.mem_of_getElem? (i := 338) (by decide +kernel)⟩
theorem lw_p2 : lw_okq (⟨"ShipStores$MenuText", "acceptsKind", "(I)Z"⟩, 6) := ⟨⟨by decide +kernel, by decide +kernel⟩, List.mem_of_getElem? (i := 266) (by decide +kernel), List.mem_of_getElem? (i := 341) (by decide +kernel), List.mem_of_getElem? (i := 342) (by decide +kernel)⟩
theorem lw_p3 : lw_okq (⟨"ShipStores$MenuText", "slot", "()I"⟩, 6) := ⟨⟨by decide +kernel, by decide +kernel⟩, List.mem_of_getElem? (i := 266) (by decide +kernel), List.mem_of_getElem? (i := 348) (by decide +kernel), List.mem_of_getElem? (i := 349) (by decide +kernel)⟩
theorem lw_p4 : lw_okq (⟨"ShipStores$MenuText", "beginsMenu", "()Z"⟩, 6) := ⟨⟨by decide +kernel, by decide +kernel⟩, List.mem_of_getElem? (i := 266) (by decide +kernel), List.mem_of_getElem? (i := 363) (by decide +kernel), List.mem_of_getElem? (i := 364) (by decide +kernel)⟩
theorem lw_p5 : lw_okq (⟨"ShipStores$MenuText", "acceptsAmount", "(I)Z"⟩, 6) := ⟨⟨by decide +kernel, by decide +kernel⟩, List.mem_of_getElem? (i := 266) (by decide +kernel), List.mem_of_getElem? (i := 367) (by decide +kernel), List.mem_of_getElem? (i := 368) (by decide +kernel)⟩
theorem lw_p6 : lw_okq (⟨"ShipStores$MenuText", "acceptsSeparator", "(I)Z"⟩, 6) := ⟨⟨by decide +kernel, by decide +kernel⟩, List.mem_of_getElem? (i := 266) (by decide +kernel), List.mem_of_getElem? (i := 371) (by decide +kernel), List.mem_of_getElem? (i := 372) (by decide +kernel)⟩
theorem lw_p7 : lw_okq (⟨"ShipStores$MenuText", "acceptsSubstitute", "(I)Z"⟩, 6) := ⟨⟨by decide +kernel, by decide +kernel⟩, List.mem_of_getElem? (i := 266) (by decide +kernel), List.mem_of_getElem? (i := 375) (by decide +kernel), List.mem_of_getElem? (i := 376) (by decide +kernel)⟩
theorem lw_p8 : lw_okq (⟨"java/lang/Throwable", "fillInStackTrace", "(I)Ljava/lang/Throwable;"⟩, 6) := ⟨⟨by decide +kernel, by decide +kernel⟩, List.mem_of_getElem? (i := 449) (by decide +kernel), List.mem_of_getElem? (i := 447) (by decide +kernel), List.mem_of_getElem? (i := 448) (by decide +kernel)⟩
theorem lw_p9 : lw_okq (⟨"ShipStores", "requireLot", "(I)V"⟩, 4) := ⟨⟨by decide +kernel, by decide +kernel⟩, List.mem_of_getElem? (i := 22) (by decide +kernel), List.mem_of_getElem? (i := 483) (by decide +kernel), List.mem_of_getElem? (i := 484) (by decide +kernel)⟩
theorem lw_p10 : lw_okq (⟨"ShipStores", "requireKind", "(I)V"⟩, 4) := ⟨⟨by decide +kernel, by decide +kernel⟩, List.mem_of_getElem? (i := 22) (by decide +kernel), List.mem_of_getElem? (i := 548) (by decide +kernel), List.mem_of_getElem? (i := 549) (by decide +kernel)⟩
theorem lw_p11 : lw_okq (⟨"ShipStores$Ship", "passDay", "()V"⟩, 11) := ⟨⟨by decide +kernel, by decide +kernel⟩, List.mem_of_getElem? (i := 30) (by decide +kernel), List.mem_of_getElem? (i := 602) (by decide +kernel), List.mem_of_getElem? (i := 603) (by decide +kernel)⟩
theorem lw_p12 : lw_okq (⟨"ShipStores$Ship", "serveItem", "(I)I"⟩, 11) := ⟨⟨by decide +kernel, by decide +kernel⟩, List.mem_of_getElem? (i := 30) (by decide +kernel), List.mem_of_getElem? (i := 615) (by decide +kernel), List.mem_of_getElem? (i := 616) (by decide +kernel)⟩
theorem lw_p13 : lw_okq (⟨"ShipStores$Ship", "eatOf", "(II)I"⟩, 11) := ⟨⟨by decide +kernel, by decide +kernel⟩, List.mem_of_getElem? (i := 30) (by decide +kernel), List.mem_of_getElem? (i := 624) (by decide +kernel), List.mem_of_getElem? (i := 625) (by decide +kernel)⟩
theorem lw_p14 : lw_okq (⟨"ShipStores$Ship", "nextToEat", "(I)I"⟩, 11) := ⟨⟨by decide +kernel, by decide +kernel⟩, List.mem_of_getElem? (i := 30) (by decide +kernel), List.mem_of_getElem? (i := 628) (by decide +kernel), List.mem_of_getElem? (i := 629) (by decide +kernel)⟩
theorem lw_p15 : lw_okq (⟨"ShipStores$Ship", "ageLots", "()V"⟩, 11) := ⟨⟨by decide +kernel, by decide +kernel⟩, List.mem_of_getElem? (i := 30) (by decide +kernel), List.mem_of_getElem? (i := 641) (by decide +kernel), List.mem_of_getElem? (i := 642) (by decide +kernel)⟩
def lw_privs_1 : List (MethodName × Nat) := [(⟨"ShipStores$MenuText", "accepts", "(I)Z"⟩, 6), (⟨"ShipStores$MenuText", "comesTo", "(I)Z"⟩, 6), (⟨"ShipStores$MenuText", "acceptsKind", "(I)Z"⟩, 6), (⟨"ShipStores$MenuText", "slot", "()I"⟩, 6), (⟨"ShipStores$MenuText", "beginsMenu", "()Z"⟩, 6), (⟨"ShipStores$MenuText", "acceptsAmount", "(I)Z"⟩, 6), (⟨"ShipStores$MenuText", "acceptsSeparator", "(I)Z"⟩, 6), (⟨"ShipStores$MenuText", "acceptsSubstitute", "(I)Z"⟩, 6), (⟨"java/lang/Throwable", "fillInStackTrace", "(I)Ljava/lang/Throwable;"⟩, 6), (⟨"ShipStores", "requireLot", "(I)V"⟩, 4), (⟨"ShipStores", "requireKind", "(I)V"⟩, 4), (⟨"ShipStores$Ship", "passDay", "()V"⟩, 11), (⟨"ShipStores$Ship", "serveItem", "(I)I"⟩, 11), (⟨"ShipStores$Ship", "eatOf", "(II)I"⟩, 11), (⟨"ShipStores$Ship", "nextToEat", "(I)I"⟩, 11), (⟨"ShipStores$Ship", "ageLots", "()V"⟩, 11)]
theorem lw_r1 : ∀ q ∈ lw_privs_1, lw_okq q := List.forall_mem_cons.mpr ⟨lw_p0, List.forall_mem_cons.mpr ⟨lw_p1, List.forall_mem_cons.mpr ⟨lw_p2, List.forall_mem_cons.mpr ⟨lw_p3, List.forall_mem_cons.mpr ⟨lw_p4, List.forall_mem_cons.mpr ⟨lw_p5, List.forall_mem_cons.mpr ⟨lw_p6, List.forall_mem_cons.mpr ⟨lw_p7, List.forall_mem_cons.mpr ⟨lw_p8, List.forall_mem_cons.mpr ⟨lw_p9, List.forall_mem_cons.mpr ⟨lw_p10, List.forall_mem_cons.mpr ⟨lw_p11, List.forall_mem_cons.mpr ⟨lw_p12, List.forall_mem_cons.mpr ⟨lw_p13, List.forall_mem_cons.mpr ⟨lw_p14, List.forall_mem_cons.mpr ⟨lw_p15, fun _ h => absurd h List.not_mem_nil⟩⟩⟩⟩⟩⟩⟩⟩⟩⟩⟩⟩⟩⟩⟩⟩
theorem lw_p16 : lw_okq (⟨"ShipStores$Lots", "copyLot", "(II)V"⟩, 5) := ⟨⟨by decide +kernel, by decide +kernel⟩, List.mem_of_getElem? (i := 108) (by decide +kernel), List.mem_of_getElem? (i := 653) (by decide +kernel), List.mem_of_getElem? (i := 654) (by decide +kernel)⟩
theorem lw_p17 : lw_okq (⟨"ShipStores", "requirePort", "(I)V"⟩, 4) := ⟨⟨by decide +kernel, by decide +kernel⟩, List.mem_of_getElem? (i := 22) (by decide +kernel), List.mem_of_getElem? (i := 673) (by decide +kernel), List.mem_of_getElem? (i := 674) (by decide +kernel)⟩
theorem lw_p18 : lw_okq (⟨"ShipStores", "outcomeOfTrial", "(I)I"⟩, 4) := ⟨⟨by decide +kernel, by decide +kernel⟩, List.mem_of_getElem? (i := 22) (by decide +kernel), List.mem_of_getElem? (i := 698) (by decide +kernel), List.mem_of_getElem? (i := 699) (by decide +kernel)⟩
theorem lw_p19 : lw_okq (⟨"ShipStores$History", "stateAt", "(I)LShipStores$Ship;"⟩, 3) := ⟨⟨by decide +kernel, by decide +kernel⟩, List.mem_of_getElem? (i := 246) (by decide +kernel), List.mem_of_getElem? (i := 742) (by decide +kernel), List.mem_of_getElem? (i := 743) (by decide +kernel)⟩
theorem lw_p20 : lw_okq (⟨"ShipStores$Ports", "copyPort", "(II)V"⟩, 4) := ⟨⟨by decide +kernel, by decide +kernel⟩, List.mem_of_getElem? (i := 142) (by decide +kernel), List.mem_of_getElem? (i := 799) (by decide +kernel), List.mem_of_getElem? (i := 800) (by decide +kernel)⟩
theorem lw_p21 : lw_okq (⟨"ShipStoresModel", "save", "()V"⟩, 13) := ⟨⟨by decide +kernel, by decide +kernel⟩, List.mem_of_getElem? (i := 997) (by decide +kernel), List.mem_of_getElem? (i := 1057) (by decide +kernel), List.mem_of_getElem? (i := 1058) (by decide +kernel)⟩
theorem lw_p22 : lw_okq (⟨"ShipStoresModel", "inStore", "(I)I"⟩, 13) := ⟨⟨by decide +kernel, by decide +kernel⟩, List.mem_of_getElem? (i := 997) (by decide +kernel), List.mem_of_getElem? (i := 1071) (by decide +kernel), List.mem_of_getElem? (i := 1072) (by decide +kernel)⟩
theorem lw_p23 : lw_okq (⟨"ShipStoresModel", "of", "(II)I"⟩, 13) := ⟨⟨by decide +kernel, by decide +kernel⟩, List.mem_of_getElem? (i := 997) (by decide +kernel), List.mem_of_getElem? (i := 1075) (by decide +kernel), List.mem_of_getElem? (i := 1076) (by decide +kernel)⟩
theorem lw_p24 : lw_okq (⟨"ShipStoresModel", "portOf", "(I)I"⟩, 13) := ⟨⟨by decide +kernel, by decide +kernel⟩, List.mem_of_getElem? (i := 997) (by decide +kernel), List.mem_of_getElem? (i := 1096) (by decide +kernel), List.mem_of_getElem? (i := 1097) (by decide +kernel)⟩
theorem lw_p25 : lw_okq (⟨"ShipStoresModel", "isPort", "(I)Z"⟩, 13) := ⟨⟨by decide +kernel, by decide +kernel⟩, List.mem_of_getElem? (i := 997) (by decide +kernel), List.mem_of_getElem? (i := 1104) (by decide +kernel), List.mem_of_getElem? (i := 1105) (by decide +kernel)⟩
theorem lw_p26 : lw_okq (⟨"ShipStoresModel", "isKind", "(I)Z"⟩, 13) := ⟨⟨by decide +kernel, by decide +kernel⟩, List.mem_of_getElem? (i := 997) (by decide +kernel), List.mem_of_getElem? (i := 1112) (by decide +kernel), List.mem_of_getElem? (i := 1113) (by decide +kernel)⟩
theorem lw_p27 : lw_okq (⟨"ShipStoresModel", "refusal", "(III)I"⟩, 13) := ⟨⟨by decide +kernel, by decide +kernel⟩, List.mem_of_getElem? (i := 997) (by decide +kernel), List.mem_of_getElem? (i := 1123) (by decide +kernel), List.mem_of_getElem? (i := 1124) (by decide +kernel)⟩
theorem lw_p28 : lw_okq (⟨"ShipStoresModel", "lifeIn", "(III)I"⟩, 13) := ⟨⟨by decide +kernel, by decide +kernel⟩, List.mem_of_getElem? (i := 997) (by decide +kernel), List.mem_of_getElem? (i := 1127) (by decide +kernel), List.mem_of_getElem? (i := 1128) (by decide +kernel)⟩
theorem lw_p29 : lw_okq (⟨"ShipStoresModel", "tally", "(III)V"⟩, 13) := ⟨⟨by decide +kernel, by decide +kernel⟩, List.mem_of_getElem? (i := 997) (by decide +kernel), List.mem_of_getElem? (i := 1131) (by decide +kernel), List.mem_of_getElem? (i := 1132) (by decide +kernel)⟩
theorem lw_p30 : lw_okq (⟨"ShipStoresModel", "putLot", "(IIII)V"⟩, 13) := ⟨⟨by decide +kernel, by decide +kernel⟩, List.mem_of_getElem? (i := 997) (by decide +kernel), List.mem_of_getElem? (i := 1135) (by decide +kernel), List.mem_of_getElem? (i := 1136) (by decide +kernel)⟩
theorem lw_p31 : lw_okq (⟨"ShipStoresModel", "isLot", "(I)Z"⟩, 13) := ⟨⟨by decide +kernel, by decide +kernel⟩, List.mem_of_getElem? (i := 997) (by decide +kernel), List.mem_of_getElem? (i := 1143) (by decide +kernel), List.mem_of_getElem? (i := 1144) (by decide +kernel)⟩
def lw_privs_2 : List (MethodName × Nat) := [(⟨"ShipStores$Lots", "copyLot", "(II)V"⟩, 5), (⟨"ShipStores", "requirePort", "(I)V"⟩, 4), (⟨"ShipStores", "outcomeOfTrial", "(I)I"⟩, 4), (⟨"ShipStores$History", "stateAt", "(I)LShipStores$Ship;"⟩, 3), (⟨"ShipStores$Ports", "copyPort", "(II)V"⟩, 4), (⟨"ShipStoresModel", "save", "()V"⟩, 13), (⟨"ShipStoresModel", "inStore", "(I)I"⟩, 13), (⟨"ShipStoresModel", "of", "(II)I"⟩, 13), (⟨"ShipStoresModel", "portOf", "(I)I"⟩, 13), (⟨"ShipStoresModel", "isPort", "(I)Z"⟩, 13), (⟨"ShipStoresModel", "isKind", "(I)Z"⟩, 13), (⟨"ShipStoresModel", "refusal", "(III)I"⟩, 13), (⟨"ShipStoresModel", "lifeIn", "(III)I"⟩, 13), (⟨"ShipStoresModel", "tally", "(III)V"⟩, 13), (⟨"ShipStoresModel", "putLot", "(IIII)V"⟩, 13), (⟨"ShipStoresModel", "isLot", "(I)Z"⟩, 13)]
theorem lw_r2 : ∀ q ∈ lw_privs_2, lw_okq q := List.forall_mem_cons.mpr ⟨lw_p16, List.forall_mem_cons.mpr ⟨lw_p17, List.forall_mem_cons.mpr ⟨lw_p18, List.forall_mem_cons.mpr ⟨lw_p19, List.forall_mem_cons.mpr ⟨lw_p20, List.forall_mem_cons.mpr ⟨lw_p21, List.forall_mem_cons.mpr ⟨lw_p22, List.forall_mem_cons.mpr ⟨lw_p23, List.forall_mem_cons.mpr ⟨lw_p24, List.forall_mem_cons.mpr ⟨lw_p25, List.forall_mem_cons.mpr ⟨lw_p26, List.forall_mem_cons.mpr ⟨lw_p27, List.forall_mem_cons.mpr ⟨lw_p28, List.forall_mem_cons.mpr ⟨lw_p29, List.forall_mem_cons.mpr ⟨lw_p30, List.forall_mem_cons.mpr ⟨lw_p31, fun _ h => absurd h List.not_mem_nil⟩⟩⟩⟩⟩⟩⟩⟩⟩⟩⟩⟩⟩⟩⟩⟩
theorem lw_p32 : lw_okq (⟨"ShipStoresModel", "dropEmpty", "()V"⟩, 13) := ⟨⟨by decide +kernel, by decide +kernel⟩, List.mem_of_getElem? (i := 997) (by decide +kernel), List.mem_of_getElem? (i := 1151) (by decide +kernel), List.mem_of_getElem? (i := 1152) (by decide +kernel)⟩
theorem lw_p33 : lw_okq (⟨"ShipStoresModel", "rations", "()I"⟩, 13) := ⟨⟨by decide +kernel, by decide +kernel⟩, List.mem_of_getElem? (i := 997) (by decide +kernel), List.mem_of_getElem? (i := 1155) (by decide +kernel), List.mem_of_getElem? (i := 1156) (by decide +kernel)⟩
theorem lw_p34 : lw_okq (⟨"ShipStoresModel", "all", "(I)I"⟩, 13) := ⟨⟨by decide +kernel, by decide +kernel⟩, List.mem_of_getElem? (i := 997) (by decide +kernel), List.mem_of_getElem? (i := 1163) (by decide +kernel), List.mem_of_getElem? (i := 1164) (by decide +kernel)⟩
theorem lw_p35 : lw_okq (⟨"ShipStoresModel", "passDays", "(I)V"⟩, 13) := ⟨⟨by decide +kernel, by decide +kernel⟩, List.mem_of_getElem? (i := 997) (by decide +kernel), List.mem_of_getElem? (i := 1167) (by decide +kernel), List.mem_of_getElem? (i := 1168) (by decide +kernel)⟩
theorem lw_p36 : lw_okq (⟨"ShipStoresModel", "passDay", "()V"⟩, 13) := ⟨⟨by decide +kernel, by decide +kernel⟩, List.mem_of_getElem? (i := 997) (by decide +kernel), List.mem_of_getElem? (i := 1171) (by decide +kernel), List.mem_of_getElem? (i := 1172) (by decide +kernel)⟩
theorem lw_p37 : lw_okq (⟨"ShipStoresModel", "serve", "()Z"⟩, 13) := ⟨⟨by decide +kernel, by decide +kernel⟩, List.mem_of_getElem? (i := 997) (by decide +kernel), List.mem_of_getElem? (i := 1175) (by decide +kernel), List.mem_of_getElem? (i := 1176) (by decide +kernel)⟩
theorem lw_p38 : lw_okq (⟨"ShipStoresModel", "daysLeft", "(I)I"⟩, 13) := ⟨⟨by decide +kernel, by decide +kernel⟩, List.mem_of_getElem? (i := 997) (by decide +kernel), List.mem_of_getElem? (i := 1179) (by decide +kernel), List.mem_of_getElem? (i := 1180) (by decide +kernel)⟩
theorem lw_p39 : lw_okq (⟨"ShipStoresModel", "ages", "(III)I"⟩, 13) := ⟨⟨by decide +kernel, by decide +kernel⟩, List.mem_of_getElem? (i := 997) (by decide +kernel), List.mem_of_getElem? (i := 1183) (by decide +kernel), List.mem_of_getElem? (i := 1184) (by decide +kernel)⟩
theorem lw_p40 : lw_okq (⟨"ShipStoresModel", "eat", "(II)I"⟩, 13) := ⟨⟨by decide +kernel, by decide +kernel⟩, List.mem_of_getElem? (i := 997) (by decide +kernel), List.mem_of_getElem? (i := 1187) (by decide +kernel), List.mem_of_getElem? (i := 1188) (by decide +kernel)⟩
theorem lw_p41 : lw_okq (⟨"ShipStoresModel", "nextLot", "(I)I"⟩, 13) := ⟨⟨by decide +kernel, by decide +kernel⟩, List.mem_of_getElem? (i := 997) (by decide +kernel), List.mem_of_getElem? (i := 1191) (by decide +kernel), List.mem_of_getElem? (i := 1192) (by decide +kernel)⟩
theorem lw_p42 : lw_okq (⟨"ShipStoresModel", "age", "()V"⟩, 13) := ⟨⟨by decide +kernel, by decide +kernel⟩, List.mem_of_getElem? (i := 997) (by decide +kernel), List.mem_of_getElem? (i := 1195) (by decide +kernel), List.mem_of_getElem? (i := 1196) (by decide +kernel)⟩
theorem lw_p43 : lw_okq (⟨"ShipStoresModel", "rightLength", "()I"⟩, 13) := ⟨⟨by decide +kernel, by decide +kernel⟩, List.mem_of_getElem? (i := 997) (by decide +kernel), List.mem_of_getElem? (i := 1211) (by decide +kernel), List.mem_of_getElem? (i := 1212) (by decide +kernel)⟩
theorem lw_p44 : lw_okq (⟨"ShipStoresModel", "takes", "(I)Z"⟩, 13) := ⟨⟨by decide +kernel, by decide +kernel⟩, List.mem_of_getElem? (i := 997) (by decide +kernel), List.mem_of_getElem? (i := 1215) (by decide +kernel), List.mem_of_getElem? (i := 1216) (by decide +kernel)⟩
theorem lw_p45 : lw_okq (⟨"ShipStoresModel", "takesItem", "(I)Z"⟩, 13) := ⟨⟨by decide +kernel, by decide +kernel⟩, List.mem_of_getElem? (i := 997) (by decide +kernel), List.mem_of_getElem? (i := 1219) (by decide +kernel), List.mem_of_getElem? (i := 1220) (by decide +kernel)⟩
theorem lw_p46 : lw_okq (⟨"ShipStoresModel", "goesOn", "(I)Z"⟩, 13) := ⟨⟨by decide +kernel, by decide +kernel⟩, List.mem_of_getElem? (i := 997) (by decide +kernel), List.mem_of_getElem? (i := 1223) (by decide +kernel), List.mem_of_getElem? (i := 1224) (by decide +kernel)⟩
theorem lw_p47 : lw_okq (⟨"ShipStoresModel", "areKinds", "()Z"⟩, 13) := ⟨⟨by decide +kernel, by decide +kernel⟩, List.mem_of_getElem? (i := 997) (by decide +kernel), List.mem_of_getElem? (i := 1231) (by decide +kernel), List.mem_of_getElem? (i := 1232) (by decide +kernel)⟩
def lw_privs_3 : List (MethodName × Nat) := [(⟨"ShipStoresModel", "dropEmpty", "()V"⟩, 13), (⟨"ShipStoresModel", "rations", "()I"⟩, 13), (⟨"ShipStoresModel", "all", "(I)I"⟩, 13), (⟨"ShipStoresModel", "passDays", "(I)V"⟩, 13), (⟨"ShipStoresModel", "passDay", "()V"⟩, 13), (⟨"ShipStoresModel", "serve", "()Z"⟩, 13), (⟨"ShipStoresModel", "daysLeft", "(I)I"⟩, 13), (⟨"ShipStoresModel", "ages", "(III)I"⟩, 13), (⟨"ShipStoresModel", "eat", "(II)I"⟩, 13), (⟨"ShipStoresModel", "nextLot", "(I)I"⟩, 13), (⟨"ShipStoresModel", "age", "()V"⟩, 13), (⟨"ShipStoresModel", "rightLength", "()I"⟩, 13), (⟨"ShipStoresModel", "takes", "(I)Z"⟩, 13), (⟨"ShipStoresModel", "takesItem", "(I)Z"⟩, 13), (⟨"ShipStoresModel", "goesOn", "(I)Z"⟩, 13), (⟨"ShipStoresModel", "areKinds", "()Z"⟩, 13)]
theorem lw_r3 : ∀ q ∈ lw_privs_3, lw_okq q := List.forall_mem_cons.mpr ⟨lw_p32, List.forall_mem_cons.mpr ⟨lw_p33, List.forall_mem_cons.mpr ⟨lw_p34, List.forall_mem_cons.mpr ⟨lw_p35, List.forall_mem_cons.mpr ⟨lw_p36, List.forall_mem_cons.mpr ⟨lw_p37, List.forall_mem_cons.mpr ⟨lw_p38, List.forall_mem_cons.mpr ⟨lw_p39, List.forall_mem_cons.mpr ⟨lw_p40, List.forall_mem_cons.mpr ⟨lw_p41, List.forall_mem_cons.mpr ⟨lw_p42, List.forall_mem_cons.mpr ⟨lw_p43, List.forall_mem_cons.mpr ⟨lw_p44, List.forall_mem_cons.mpr ⟨lw_p45, List.forall_mem_cons.mpr ⟨lw_p46, List.forall_mem_cons.mpr ⟨lw_p47, fun _ h => absurd h List.not_mem_nil⟩⟩⟩⟩⟩⟩⟩⟩⟩⟩⟩⟩⟩⟩⟩⟩
theorem lw_p48 : lw_okq (⟨"ShipStoresModel", "lotNow", "(II)I"⟩, 13) := ⟨⟨by decide +kernel, by decide +kernel⟩, List.mem_of_getElem? (i := 997) (by decide +kernel), List.mem_of_getElem? (i := 1243) (by decide +kernel), List.mem_of_getElem? (i := 1244) (by decide +kernel)⟩
theorem lw_p49 : lw_okq (⟨"ShipStoresModel", "placeOf", "(I)I"⟩, 13) := ⟨⟨by decide +kernel, by decide +kernel⟩, List.mem_of_getElem? (i := 997) (by decide +kernel), List.mem_of_getElem? (i := 1247) (by decide +kernel), List.mem_of_getElem? (i := 1248) (by decide +kernel)⟩
theorem lw_p50 : lw_okq (⟨"ShipStoresModel", "storeNow", "(II)I"⟩, 13) := ⟨⟨by decide +kernel, by decide +kernel⟩, List.mem_of_getElem? (i := 997) (by decide +kernel), List.mem_of_getElem? (i := 1255) (by decide +kernel), List.mem_of_getElem? (i := 1256) (by decide +kernel)⟩
theorem lw_p51 : lw_okq (⟨"ShipStoresModel", "lotsWith", "(II)I"⟩, 13) := ⟨⟨by decide +kernel, by decide +kernel⟩, List.mem_of_getElem? (i := 997) (by decide +kernel), List.mem_of_getElem? (i := 1259) (by decide +kernel), List.mem_of_getElem? (i := 1260) (by decide +kernel)⟩
theorem lw_p52 : lw_okq (⟨"ShipStoresModel", "kindNow", "(II)I"⟩, 13) := ⟨⟨by decide +kernel, by decide +kernel⟩, List.mem_of_getElem? (i := 997) (by decide +kernel), List.mem_of_getElem? (i := 1267) (by decide +kernel), List.mem_of_getElem? (i := 1268) (by decide +kernel)⟩
theorem lw_p53 : lw_okq (⟨"ShipStoresModel", "inLots", "(I)I"⟩, 13) := ⟨⟨by decide +kernel, by decide +kernel⟩, List.mem_of_getElem? (i := 997) (by decide +kernel), List.mem_of_getElem? (i := 1271) (by decide +kernel), List.mem_of_getElem? (i := 1272) (by decide +kernel)⟩
theorem lw_p54 : lw_okq (⟨"ShipStoresModel", "menuNow", "(III)I"⟩, 13) := ⟨⟨by decide +kernel, by decide +kernel⟩, List.mem_of_getElem? (i := 997) (by decide +kernel), List.mem_of_getElem? (i := 1283) (by decide +kernel), List.mem_of_getElem? (i := 1284) (by decide +kernel)⟩
theorem lw_p55 : lw_okq (⟨"ShipStoresModel", "counted", "(I)I"⟩, 13) := ⟨⟨by decide +kernel, by decide +kernel⟩, List.mem_of_getElem? (i := 997) (by decide +kernel), List.mem_of_getElem? (i := 1291) (by decide +kernel), List.mem_of_getElem? (i := 1292) (by decide +kernel)⟩
theorem lw_p56 : lw_okq (⟨"ShipStoresModel", "nextPort", "()I"⟩, 13) := ⟨⟨by decide +kernel, by decide +kernel⟩, List.mem_of_getElem? (i := 997) (by decide +kernel), List.mem_of_getElem? (i := 1295) (by decide +kernel), List.mem_of_getElem? (i := 1296) (by decide +kernel)⟩
theorem lw_p57 : lw_okq (⟨"ShipStoresModel", "ahead", "(II)I"⟩, 13) := ⟨⟨by decide +kernel, by decide +kernel⟩, List.mem_of_getElem? (i := 997) (by decide +kernel), List.mem_of_getElem? (i := 1310) (by decide +kernel), List.mem_of_getElem? (i := 1311) (by decide +kernel)⟩
theorem lw_p58 : lw_okq (⟨"ShipStoresModel", "shortNow", "(I)I"⟩, 13) := ⟨⟨by decide +kernel, by decide +kernel⟩, List.mem_of_getElem? (i := 997) (by decide +kernel), List.mem_of_getElem? (i := 1322) (by decide +kernel), List.mem_of_getElem? (i := 1323) (by decide +kernel)⟩
theorem lw_p59 : lw_okq (⟨"ShipStoresModel", "firstShort", "(II)I"⟩, 13) := ⟨⟨by decide +kernel, by decide +kernel⟩, List.mem_of_getElem? (i := 997) (by decide +kernel), List.mem_of_getElem? (i := 1326) (by decide +kernel), List.mem_of_getElem? (i := 1327) (by decide +kernel)⟩
theorem lw_p60 : lw_okq (⟨"ShipStoresModel", "bestNow", "(I)I"⟩, 13) := ⟨⟨by decide +kernel, by decide +kernel⟩, List.mem_of_getElem? (i := 997) (by decide +kernel), List.mem_of_getElem? (i := 1334) (by decide +kernel), List.mem_of_getElem? (i := 1335) (by decide +kernel)⟩
theorem lw_p61 : lw_okq (⟨"ShipStoresModel", "meanNow", "()D"⟩, 13) := ⟨⟨by decide +kernel, by decide +kernel⟩, List.mem_of_getElem? (i := 997) (by decide +kernel), List.mem_of_getElem? (i := 1350) (by decide +kernel), List.mem_of_getElem? (i := 1351) (by decide +kernel)⟩
theorem lw_p62 : lw_okq (⟨"ShipStoresModel", "mix", "(J)V"⟩, 13) := ⟨⟨by decide +kernel, by decide +kernel⟩, List.mem_of_getElem? (i := 997) (by decide +kernel), List.mem_of_getElem? (i := 1359) (by decide +kernel), List.mem_of_getElem? (i := 1360) (by decide +kernel)⟩
theorem lw_p63 : lw_okq (⟨"ShipStoresModel", "mixKinds", "()V"⟩, 13) := ⟨⟨by decide +kernel, by decide +kernel⟩, List.mem_of_getElem? (i := 997) (by decide +kernel), List.mem_of_getElem? (i := 1364) (by decide +kernel), List.mem_of_getElem? (i := 1365) (by decide +kernel)⟩
def lw_privs_4 : List (MethodName × Nat) := [(⟨"ShipStoresModel", "lotNow", "(II)I"⟩, 13), (⟨"ShipStoresModel", "placeOf", "(I)I"⟩, 13), (⟨"ShipStoresModel", "storeNow", "(II)I"⟩, 13), (⟨"ShipStoresModel", "lotsWith", "(II)I"⟩, 13), (⟨"ShipStoresModel", "kindNow", "(II)I"⟩, 13), (⟨"ShipStoresModel", "inLots", "(I)I"⟩, 13), (⟨"ShipStoresModel", "menuNow", "(III)I"⟩, 13), (⟨"ShipStoresModel", "counted", "(I)I"⟩, 13), (⟨"ShipStoresModel", "nextPort", "()I"⟩, 13), (⟨"ShipStoresModel", "ahead", "(II)I"⟩, 13), (⟨"ShipStoresModel", "shortNow", "(I)I"⟩, 13), (⟨"ShipStoresModel", "firstShort", "(II)I"⟩, 13), (⟨"ShipStoresModel", "bestNow", "(I)I"⟩, 13), (⟨"ShipStoresModel", "meanNow", "()D"⟩, 13), (⟨"ShipStoresModel", "mix", "(J)V"⟩, 13), (⟨"ShipStoresModel", "mixKinds", "()V"⟩, 13)]
theorem lw_r4 : ∀ q ∈ lw_privs_4, lw_okq q := List.forall_mem_cons.mpr ⟨lw_p48, List.forall_mem_cons.mpr ⟨lw_p49, List.forall_mem_cons.mpr ⟨lw_p50, List.forall_mem_cons.mpr ⟨lw_p51, List.forall_mem_cons.mpr ⟨lw_p52, List.forall_mem_cons.mpr ⟨lw_p53, List.forall_mem_cons.mpr ⟨lw_p54, List.forall_mem_cons.mpr ⟨lw_p55, List.forall_mem_cons.mpr ⟨lw_p56, List.forall_mem_cons.mpr ⟨lw_p57, List.forall_mem_cons.mpr ⟨lw_p58, List.forall_mem_cons.mpr ⟨lw_p59, List.forall_mem_cons.mpr ⟨lw_p60, List.forall_mem_cons.mpr ⟨lw_p61, List.forall_mem_cons.mpr ⟨lw_p62, List.forall_mem_cons.mpr ⟨lw_p63, fun _ h => absurd h List.not_mem_nil⟩⟩⟩⟩⟩⟩⟩⟩⟩⟩⟩⟩⟩⟩⟩⟩
theorem lw_p64 : lw_okq (⟨"ShipStoresModel", "mixPorts", "()V"⟩, 13) := ⟨⟨by decide +kernel, by decide +kernel⟩, List.mem_of_getElem? (i := 997) (by decide +kernel), List.mem_of_getElem? (i := 1368) (by decide +kernel), List.mem_of_getElem? (i := 1369) (by decide +kernel)⟩
def lw_privs_5 : List (MethodName × Nat) := [(⟨"ShipStoresModel", "mixPorts", "()V"⟩, 13)]
theorem lw_r5 : ∀ q ∈ lw_privs_5, lw_okq q := List.forall_mem_cons.mpr ⟨lw_p64, fun _ h => absurd h List.not_mem_nil⟩
def lw_privs : List (MethodName × Nat) := lw_privs_1 ++ (lw_privs_2 ++ (lw_privs_3 ++ (lw_privs_4 ++ (lw_privs_5))))
def lw_tbl : List Cond := k2_sels lw_privs ++ tables_1
theorem lw_privs_ok : ∀ q ∈ lw_privs, lw_okq q := by
  show ∀ q ∈ lw_privs_1 ++ (lw_privs_2 ++ (lw_privs_3 ++ (lw_privs_4 ++ (lw_privs_5)))), lw_okq q
  exact List.forall_mem_append.mpr ⟨lw_r1, List.forall_mem_append.mpr ⟨lw_r2, List.forall_mem_append.mpr ⟨lw_r3, List.forall_mem_append.mpr ⟨lw_r4, lw_r5⟩⟩⟩⟩
/-- the streams that the claim lets the run draw from -/
abbrev lw_cs : List Choice := [Jvm.Choice.named "NaN.bits"]
theorem lw_bits : nanBits ∈ lw_cs := by first | decide | exact List.mem_cons_self | simp [lw_cs, nanBits]
end
section
/-! ===== BEGIN words of one list among another's, by their places ===== -/
theorem goodIn_r {big : List Cond} (ws : List Cond) (ps : List Nat) (hp : ws = ps.filterMap (fun i => big[i]?)) (h : ws.all goodWord = true) : GoodIn big ws := by
  intro w hw
  have h1 := List.all_eq_true.mp h w hw
  rw [hp] at hw
  obtain ⟨i, -, hi⟩ := List.mem_filterMap.mp hw
  have hm : w ∈ big := by first | exact List.mem_of_getElem? hi | exact List.getElem?_mem hi
  exact ⟨hm, good_of_word h1⟩
theorem goodIn_app {big a b : List Cond} (ha : GoodIn big a) (hb : GoodIn big b) : GoodIn big (a ++ b) := fun w h => (List.mem_append.mp h).elim (ha w) (hb w)
theorem goodIn_ca {big a b : List Cond} {c : Cond} (ha : GoodIn big (c :: a)) (hb : GoodIn big b) : GoodIn big (c :: (a ++ b)) := fun w h => (List.mem_cons.mp h).elim (fun e => ha w (List.mem_cons.mpr (Or.inl e))) (fun h => (List.mem_append.mp h).elim (fun h => ha w (List.mem_cons.mpr (Or.inr h))) (hb w))
theorem goodIn_sub {big ws : List Cond} (hm : ∀ w ∈ ws, w ∈ big) (h : ws.all goodWord = true) : GoodIn big ws := fun w hw => ⟨hm w hw, good_of_word (List.all_eq_true.mp h w hw)⟩
/-! ===== END ===== -/

/-! ===== BEGIN exceptions that leave a method, and their catching by the caller (launches without stack traces) ===== -/
section VXA
/-! The laws vx_back, vx_callV, vx_callS, vx_callSW, vx_throw0, vx_throwS follow proofs of the library, with one case more: JvmDerived/Free/Laws.lean (Back.of_free), Shelf42/LK1.lean (callV, callS), Shelf/KitTraced.lean (throwNew0V, throwNewS). -/
/-- where a method has thrown q: the class by its name, the cell, what was written, the world -/
def vx_T (XC : String → State → State → Prop) (st : State) (q : Addr) (t : State) (mc ms : Nat) (free : Addr → Prop) : Prop :=
  ∃ (E : String) (ce : Cell) (L : List Loc), XC E st t ∧ t.heap[q]? = some ce ∧ ce.vm = .none ∧ st.vm.findClass E = some ce.cls ∧ st.WarmedH t.vm ∧ st.sameButNew ({ t with vm := st.vm } : State) L mc ms ∧ ∀ z ∈ L, free z.base
def vx_Q (Qc : Array Value → State → Outcome → State → Prop) (XC : String → State → State → Prop) (mc ms : Nat) (free : Addr → Prop) : Array Value → State → Outcome → State → Prop := fun a st o t =>
  (Qc a st o t ∧ ∃ L, FrameEnd st o t L mc ms ∧ ∀ q ∈ L, free q.base) ∨ ∃ q, o = .threw q ∧ vx_T XC st q t mc ms free
/-- a callee that returns or throws -/
def vx_Met (l : Launch) (y : MethodName) (ws : List Cond) (rm : Room) (Pc : Array Value → State → Prop) (Qc : Array Value → State → Outcome → State → Prop) (XC : String → State → State → Prop) (mc ms : Nat) (free : Addr → Prop) : Prop :=
  MetFree l y (headSpec ws rm) Pc (fun _ _ _ _ _ => True) (vx_Q Qc XC mc ms free)
def vx_Post (XC : String → State → State → Prop) (mc ms : Nat) (free : Addr → Prop) : Pt → Array Value → Addr → Pt → Prop := fun A a q B =>
  ∃ (g : JFrame) (mk : MethodId) (t : State) (L : List Loc) (E : String) (ce : Cell), B.U.heap = t.heap ∧ B.U.vm = t.vm ∧ XC E (A.U.calling g mk a) t ∧ t.heap[q]? = some ce ∧ ce.vm = .none ∧ A.U.vm.findClass E = some ce.cls ∧ B.locs = A.locs ++ L ∧ (∀ z ∈ L, free z.base) ∧ B.cells = A.cells + mc ∧ B.slots = A.slots + ms
def vx_Back (l : Launch) (R : Room) (p : Program) (e : Env) (below : List Frame) (s : State) (sargs : Array Value) (y : MethodName) (len W9 : Nat)
    (Pre : Pt → Array Value → Prop) (Post : Pt → Array Value → Option Value → Pt → Prop) (PostX : Pt → Array Value → Addr → Pt → Prop) : Prop :=
  ∀ (m : MethodId) (meth : Method) (c : Code) (A : Pt) (g : JFrame) (ig : Instr) (mk : MethodId) (a : Array Value),
    Stand p l e R s m sargs below meth c A.U A.locs A.cells A.slots → g.method = m → g.locals.size = c.maxLocals → decode c.code g.pc = .ok (ig, len) →
    2 * g.monitorRoom + (g.stack.map fun v => v.category).sum ≤ W9 → A.U.methodNamed? y = some mk → Pre A a →
    (∃ (v : Option Value) (B : Pt), Stand p l e R s m sargs below meth c B.U B.locs B.cells B.slots ∧ Post A a v B ∧
      Steps p.tables e below (doInvoke e (A.U.setTop g) [] mk a).1 (B.U.setTop { g with pc := g.pc + len, stack := v.toList ++ g.stack })) ∨
    (∃ (q : Addr) (B : Pt), Stand p l e R s m sargs below meth c B.U B.locs B.cells B.slots ∧ PostX A a q B ∧
      Steps p.tables e below (doInvoke e (A.U.setTop g) [] mk a).1 ((B.U.setTop g).pushFrame (.throwing q)))
section Payer
variable {l : Launch} {R : Room} {p : Program} {e : Env} {below : List Frame} {s : State} {sargs : Array Value} {y : MethodName} {len W9 : Nat}
theorem vx_back {ws : List Cond} {rm : Room} {Pc : Array Value → State → Prop} {Qc : Array Value → State → Outcome → State → Prop} {XC : String → State → State → Prop} {mc ms : Nat} {free : Addr → Prop} {bytes : ByteArray} {maxL : Nat} {ret : Option FieldType}
    (hM : vx_Met l y ws rm Pc Qc XC mc ms free) (hblind : FrameBlind Pc) (hrc : rm.cells = mc) (hrs : rm.slots = ms)
    (hframes : rm.frames + 1 ≤ R.frames) (hlocals : W9 + (maxL + 11) + rm.locals ≤ R.locals)
    (hws : ∀ w ∈ ws, ∀ a' U, s.WarmedH U.vm → w.before a' U = true) (hcode : Cond.code y bytes maxL ret ∈ ws) (hinit : ∀ a' U, s.WarmedH U.vm → (Cond.initialized y.cls).before a' U = true) :
    vx_Back l R p e below s sargs y len W9 (PreOf R mc ms Pc) (PostOf Qc mc ms free) (vx_Post XC mc ms free) := by
  intro m meth c A g ig mk a X hg hsize hdg hW hn hp
  have h1 : (headSpec ws rm).pre.before a A.U = true := atoms_intro fun w hw => hws w hw _ _ X.warmed
  have h2 : (Cond.code y bytes maxL ret).before a A.U = true := hws _ hcode _ _ X.warmed
  have h3 : (Cond.initialized y.cls).before a A.U = true := hinit _ _ X.warmed
  have h4 : A.cells + (headSpec ws rm).room.cells ≤ R.cells := by rw [show (headSpec ws rm).room.cells = mc from hrc]; exact hp.1
  have h5 : A.slots + (headSpec ws rm).room.slots ≤ R.slots := by rw [show (headSpec ws rm).room.slots = ms from hrs]; exact hp.2.1
  have hPc : Pc a (A.U.calling g mk a) := hblind _ _ _ _ hp.2.2
  obtain ⟨U, Ls, c0, s0⟩ := A
  dsimp only [Pt.U, Pt.locs, Pt.cells, Pt.slots] at h1 h2 h3 h4 h5 X hn hPc ⊢
  obtain ⟨methY, cY, hmY, hcY, -, hlY, -, -, -, -⟩ := Cond.code_spec hn h2
  obtain ⟨kY, hkY, -⟩ := className_of_methodNamed hn
  have hinitY : kY.init = .initialized := Cond.initialized_spec (findClass_of_methodNamed hn) hkY h3
  have h : At U g.method c below := by rw [hg]; exact X.here
  have hlocals9 : W9 + (maxL + 11) + (headSpec ws rm).room.locals ≤ R.locals := hlocals
  have happ : (headSpec ws rm).appliesLoose y e.platform (U.calling g mk a) = true :=
    Spec.appliesLoose_calling (g := g) h hdg hn hkY hinitY
      (X.room_calling (g := g) (R' := (headSpec ws rm).room) hsize hmY hcY hframes (by rw [hlY]; omega) h4 h5) h1
  obtain ⟨mid, hmid⟩ := h.above
  have hfr : (U.setTop g).frames = (.java g :: mid) ++ below := by rw [State.frames_setTop' g h.top, hmid]; rfl
  obtain ⟨o, s₂, hsteps, -, hend, hq⟩ := Steps.callFree hM p X.admits X.cas X.clock (acts := []) hfr happ hPc trivial
  have hq' : vx_Q Qc XC mc ms free a (U.calling g mk a) o s₂ := hq
  rw [State.frames_setTop' g h.top] at hend
  obtain ⟨g₀, hg0⟩ := Option.isSome_iff_exists.mp h.top
  obtain ⟨r, hr⟩ := State.topJava?_eq_some.mp hg0
  have hr' : (({ U with heap := s₂.heap, slotsUsed := s₂.slotsUsed } : State).setVm s₂.vm).frames = .java g₀ :: r := hr
  rcases hq' with ⟨hqc, L, hfe, hL⟩ | ⟨q, rfl, E, ce, L, hx, hce, hcv, hcl, hW₂, hsm, hL⟩
  · obtain ⟨⟨v, rfl⟩, hW₂, e2, q2, q3, q4, q5, q6⟩ := id hfe
    have e3 : s₂ = ({ (U.calling g mk a).setFrames s₂.frames with heap := s₂.heap, slotsUsed := s₂.slotsUsed } : State).setVm s₂.vm := by
      have : s₂ = ({ s₂ with vm := (U.calling g mk a).vm } : State).setVm s₂.vm := rfl
      rw [e2] at this
      exact this
    obtain ⟨c₂, i₂, len₂, hc₂, hd₂, hf₂⟩ := hend
    have hW' : U.WarmedH s₂.vm := hW₂
    have hcc : c₂ = c := by
      have h1 : s₂.code? g.method = U.code? g.method := by
        rw [State.code?_eq, State.code?_eq, hW'.alike.method?]
      exact Option.some.inj (hc₂.symm.trans (h1.trans h.code))
    subst hcc
    have hlen : len₂ = len := by rw [hdg] at hd₂; cases hd₂; rfl
    subst hlen
    have hs₂ : s₂ = (({ U with heap := s₂.heap, slotsUsed := s₂.slotsUsed } : State).setVm s₂.vm).setTop { g with pc := g.pc + len₂, stack := v.toList ++ g.stack } := by
      refine e3.trans ?_
      rw [hf₂, State.calling_eq h.top, State.setFrames_setFrames, State.setTop_of_frames _ hr', hr]
      rfl
    have hsame : U.sameButNew ({ U with heap := s₂.heap, slotsUsed := s₂.slotsUsed } : State) L mc ms := by
      refine ⟨?_, q2, q3, q4, q5, q6⟩
      obtain ⟨t, ht, -⟩ := State.frames_cons hr
      show ({ U with heap := s₂.heap, slotsUsed := s₂.slotsUsed } : State) = { U.setFrames U.frames with heap := s₂.heap, slotsUsed := s₂.slotsUsed }
      rw [State.setFrames_self ht]
    subst hg
    refine Or.inl ⟨v, ⟨(({ U with heap := s₂.heap, slotsUsed := s₂.slotsUsed } : State).setVm s₂.vm), Ls ++ L, c0 + mc, s0 + ms⟩,
      ⟨X.admits, X.cas, X.clock, X.frames, X.room, X.hears, X.method, X.code, (X.here.setHeapUsed s₂.heap s₂.slotsUsed).setVm hW'.alike, X.tail, State.WarmedH.trans X.warmed hW', X.limits, X.bytes, X.same.trans (hsame.setVm s.vm)⟩,
      ⟨g, mk, s₂, L, rfl, rfl, hqc, rfl, hL, rfl, rfl⟩, ?_⟩
    show Steps p.tables e below _ ((({ U with heap := s₂.heap, slotsUsed := s₂.slotsUsed } : State).setVm s₂.vm).setTop { g with pc := g.pc + len₂, stack := v.toList ++ g.stack })
    rw [← hs₂]
    exact hsteps
  · obtain ⟨e2, q2, q3, q4, q5, q6⟩ := id hsm
    have e3 : s₂ = ({ (U.calling g mk a).setFrames s₂.frames with heap := s₂.heap, slotsUsed := s₂.slotsUsed } : State).setVm s₂.vm := by
      have : s₂ = ({ s₂ with vm := (U.calling g mk a).vm } : State).setVm s₂.vm := rfl
      rw [e2] at this
      exact this
    have hf₂ : s₂.frames = .throwing q :: .java g :: U.frames.tail := hend
    have hW' : U.WarmedH s₂.vm := hW₂
    have hs₂ : s₂ = ((({ U with heap := s₂.heap, slotsUsed := s₂.slotsUsed } : State).setVm s₂.vm).setTop g).pushFrame (.throwing q) := by
      refine e3.trans ?_
      rw [hf₂, State.calling_eq h.top, State.setFrames_setFrames, State.pushFrame, State.frames_setTop _ hr', State.setTop_of_frames _ hr', State.setFrames_setFrames, hr]
      rfl
    have hsame : U.sameButNew ({ U with heap := s₂.heap, slotsUsed := s₂.slotsUsed } : State) L mc ms := by
      refine ⟨?_, q2, q3, q4, q5, q6⟩
      obtain ⟨t, ht, -⟩ := State.frames_cons hr
      show ({ U with heap := s₂.heap, slotsUsed := s₂.slotsUsed } : State) = { U.setFrames U.frames with heap := s₂.heap, slotsUsed := s₂.slotsUsed }
      rw [State.setFrames_self ht]
    subst hg
    refine Or.inr ⟨q, ⟨(({ U with heap := s₂.heap, slotsUsed := s₂.slotsUsed } : State).setVm s₂.vm), Ls ++ L, c0 + mc, s0 + ms⟩,
      ⟨X.admits, X.cas, X.clock, X.frames, X.room, X.hears, X.method, X.code, (X.here.setHeapUsed s₂.heap s₂.slotsUsed).setVm hW'.alike, X.tail, State.WarmedH.trans X.warmed hW', X.limits, X.bytes, X.same.trans (hsame.setVm s.vm)⟩,
      ⟨g, mk, s₂, L, E, ce, rfl, rfl, hx, hce, hcv, hcl, rfl, hL, rfl, rfl⟩, ?_⟩
    show Steps p.tables e below _ (((({ U with heap := s₂.heap, slotsUsed := s₂.slotsUsed } : State).setVm s₂.vm).setTop g).pushFrame (.throwing q))
    rw [← hs₂]
    exact hsteps
end Payer
section Calls
variable {p : Program} {l : Launch} {e : Env} {R : Room} {s : State} {m : MethodId} {args : Array Value} {below : List Frame} {meth : Method} {c : Code} {T : State} {locs : List Loc} {cells slots : Nat}
theorem vx_callV (X : Stand p l e R s m args below meth c T locs cells slots) (hexec : p.tables.exec = Jvm.exec) {own C : String} {index : Nat} {y : MethodName} {bytes : ByteArray} {maxL : Nat} {ret : Option FieldType}
    (hown : s.vm.findClass own = some m.cls) (hlink : (Cond.methodLink own index y).before args s = true) (hinst : (Cond.instanceMethod y).before args s = true) (hsel : (Cond.selects C y y).before args s = true)
    (hcode : (Cond.code y bytes maxL ret).before args s = true) (hy : y.cls ≠ "java/lang/invoke/MethodHandle" ∧ y.cls ≠ "java/lang/invoke/VarHandle")
    {W9 : Nat} {Pre : Pt → Array Value → Prop} {Post : Pt → Array Value → Option Value → Pt → Prop} {PostX : Pt → Array Value → Addr → Pt → Prop} (hK : vx_Back l R p e below s args y 3 W9 Pre Post PostX)
    {b : Addr} {cellB : Cell} (hcell : T.heap[b]? = some cellB) (hobj : cellB.vm.isStatics = false) (hcls : s.vm.findClass C = some cellB.cls)
    {g : JFrame} (hg : g.method = m) (hsize : g.locals.size = c.maxLocals) {argsL rest : List Value} (hlen : ∀ sig, parseMethodDescriptor y.desc = some sig → argsL.length = sig.parameters.length)
    (hstack : g.stack = argsL.reverse ++ .ref b :: rest) (hW : 2 * g.monitorRoom + (rest.map fun v => v.category).sum ≤ W9) (hdg : decode c.code g.pc = .ok (.invokevirtual index, 3))
    (hpre : ∀ vm₁, s.WarmedH vm₁ → Pre ⟨T.setVm vm₁, locs, cells, slots⟩ (Value.ref b :: argsL).toArray) :
    (∃ (v : Option Value) (vm₁ : Vm) (B : Pt), s.WarmedH vm₁ ∧ Stand p l e R s m args below meth c B.U B.locs B.cells B.slots ∧ Post ⟨T.setVm vm₁, locs, cells, slots⟩ (Value.ref b :: argsL).toArray v B ∧
      ∀ target, Steps p.tables e below (B.U.setTop { g with pc := g.pc + 3, stack := v.toList ++ rest }) target → Steps p.tables e below (T.setTop g) target) ∨
    (∃ (q : Addr) (vm₁ : Vm) (B : Pt), s.WarmedH vm₁ ∧ Stand p l e R s m args below meth c B.U B.locs B.cells B.slots ∧ PostX ⟨T.setVm vm₁, locs, cells, slots⟩ (Value.ref b :: argsL).toArray q B ∧
      Steps p.tables e below (T.setTop g) ((B.U.setTop { g with stack := rest }).pushFrame (.throwing q))) := by
  obtain ⟨mk, methM, hnamed, hmethM, hstM, habM⟩ := Cond.instanceMethod_spec hinst
  obtain ⟨methM', cM, hmethM', -, -, -, -, -, -, hsigM⟩ := Cond.code_spec hnamed hcode
  cases hmethM.symm.trans hmethM'
  obtain ⟨c2, r2, m2, q1, q2, q3, q4, kP, hkP, hkPi⟩ := Cond.selects_spec hsel
  cases hcls.symm.trans q1
  cases (State.methodFound?_of_named hnamed hy).symm.trans q2
  cases hnamed.symm.trans q3
  have hselP : selectMethod e.platform s.vm cellB.cls mk = .method mk := by rw [Launch.admits_selectMethod X.admits]; exact q4
  obtain ⟨vm₁, X₁, hstep₁⟩ := X.invokevirtual hexec hown hlink hnamed hmethM hstM hkP hkPi hy (a := b) (cell := cellB) hcell
    (fun z h => by rw [h] at hobj; cases hobj) hselP hmethM habM hkP hkPi (g := g) hg (argsL := argsL) (rest := rest) (hlen _ hsigM) hstack hdg
  rcases hK m meth c ⟨T.setVm vm₁, locs, cells, slots⟩ { g with stack := rest } (.invokevirtual index) mk (Value.ref b :: argsL).toArray X₁ hg hsize hdg hW (X₁.named hnamed) (hpre vm₁ X₁.warmed) with ⟨v, B, X', hpost, hsteps⟩ | ⟨q, B, X', hpost, hsteps⟩
  · exact Or.inl ⟨v, vm₁, B, X₁.warmed, X', hpost, fun target h => hstep₁ _ fun acts => by rw [doInvoke_state]; exact hsteps.trans h⟩
  · exact Or.inr ⟨q, vm₁, B, X₁.warmed, X', hpost, hstep₁ _ fun acts => by rw [doInvoke_state]; exact hsteps⟩
theorem vx_callS (X : Stand p l e R s m args below meth c T locs cells slots) (hexec : p.tables.exec = Jvm.exec) {own : String} {index : Nat} {y : MethodName} {bytes : ByteArray} {maxL : Nat} {ret : Option FieldType}
    (hown : s.vm.findClass own = some m.cls) (hlink : (Cond.methodLink own index y).before args s = true) (hstat : (Cond.static y).before args s = true) (hinit : (Cond.initialized y.cls).before args s = true)
    (hcode : (Cond.code y bytes maxL ret).before args s = true) (hy : y.cls ≠ "java/lang/invoke/MethodHandle" ∧ y.cls ≠ "java/lang/invoke/VarHandle")
    {W9 : Nat} {Pre : Pt → Array Value → Prop} {Post : Pt → Array Value → Option Value → Pt → Prop} {PostX : Pt → Array Value → Addr → Pt → Prop} (hK : vx_Back l R p e below s args y 3 W9 Pre Post PostX)
    {g : JFrame} (hg : g.method = m) (hsize : g.locals.size = c.maxLocals) {argsL rest : List Value} (hlen : ∀ sig, parseMethodDescriptor y.desc = some sig → argsL.length = sig.parameters.length)
    (hstack : g.stack = argsL.reverse ++ rest) (hW : 2 * g.monitorRoom + (rest.map fun v => v.category).sum ≤ W9) (hdg : decode c.code g.pc = .ok (.invokestatic index, 3))
    (hpre : ∀ vm₁, s.WarmedH vm₁ → Pre ⟨T.setVm vm₁, locs, cells, slots⟩ argsL.toArray) :
    (∃ (v : Option Value) (vm₁ : Vm) (B : Pt), s.WarmedH vm₁ ∧ Stand p l e R s m args below meth c B.U B.locs B.cells B.slots ∧ Post ⟨T.setVm vm₁, locs, cells, slots⟩ argsL.toArray v B ∧
      ∀ target, Steps p.tables e below (B.U.setTop { g with pc := g.pc + 3, stack := v.toList ++ rest }) target → Steps p.tables e below (T.setTop g) target) ∨
    (∃ (q : Addr) (vm₁ : Vm) (B : Pt), s.WarmedH vm₁ ∧ Stand p l e R s m args below meth c B.U B.locs B.cells B.slots ∧ PostX ⟨T.setVm vm₁, locs, cells, slots⟩ argsL.toArray q B ∧
      Steps p.tables e below (T.setTop g) ((B.U.setTop { g with stack := rest }).pushFrame (.throwing q))) := by
  obtain ⟨mk, hnamed⟩ := Cond.code_named hcode
  obtain ⟨methM, cM, hmethM, -, -, -, -, -, -, hsigM⟩ := Cond.code_spec hnamed hcode
  have hstatic : methM.isStatic = true := Cond.static_spec hnamed hmethM hstat
  obtain ⟨kP, hkP, -⟩ := className_of_methodNamed hnamed
  have hinitP : kP.init = .initialized := Cond.initialized_spec (findClass_of_methodNamed hnamed) hkP hinit
  obtain ⟨vm₁, X₁, hstep₁⟩ := X.invokestatic hexec hown hlink hnamed hmethM hstatic hkP hinitP hy (g := g) hg (argsL := argsL) (rest := rest) (hlen _ hsigM) hstack hdg
  rcases hK m meth c ⟨T.setVm vm₁, locs, cells, slots⟩ { g with stack := rest } (.invokestatic index) mk argsL.toArray X₁ hg hsize hdg hW (X₁.named hnamed) (hpre vm₁ X₁.warmed) with ⟨v, B, X', hpost, hsteps⟩ | ⟨q, B, X', hpost, hsteps⟩
  · exact Or.inl ⟨v, vm₁, B, X₁.warmed, X', hpost, fun target h => hstep₁ _ fun acts => by rw [doInvoke_state]; exact hsteps.trans h⟩
  · exact Or.inr ⟨q, vm₁, B, X₁.warmed, X', hpost, hstep₁ _ fun acts => by rw [doInvoke_state]; exact hsteps⟩
end Calls
theorem vx_cls {s : State} {T : State} {vm₁ : Vm} {E : String} {k : ClassId} (hW : s.WarmedH vm₁) (h : (T.setVm vm₁).vm.findClass E = some k) : s.vm.findClass E = some k := by
  have h1 : vm₁.findClass E = some k := h
  rw [hW.alike.findClass] at h1
  exact h1
/-- the method's frame g, with q thrown over it -/
def vx_W (p : Program) (l : Launch) (e : Env) (R : Room) (s : State) (m : MethodId) (args : Array Value) (below : List Frame) (meth : Method) (c : Code) (H : Heap) (locs : List Loc) (cells slots : Nat) (Q : State → Prop) (g : JFrame) (q : Addr) : Prop :=
  ∀ T : State, T.heap = H → Stand p l e R s m args below meth c T locs cells slots → ∃ t, Steps p.tables e below ((T.setTop g).pushFrame (.throwing q)) t ∧ Q t
def vx_Run (p : Program) (l : Launch) (e : Env) (R : Room) (s : State) (m : MethodId) (args : Array Value) (below : List Frame) (meth : Method) (c : Code) (H : Heap) (locs : List Loc) (cells slots mc ms : Nat) (g : JFrame) (rest : List Value) (Qa : State → Outcome → State → Prop) (XC : String → State → State → Prop) (free : Addr → Prop) : Prop :=
  ∀ T : State, T.heap = H → Stand p l e R s m args below meth c T locs cells slots →
    (∃ (v : Option Value) (st₀ t T' : State) (L : List Loc), st₀.heap = H ∧ Stand p l e R s m args below meth c T' (locs ++ L) (cells + mc) (slots + ms) ∧ (∀ q ∈ L, free q.base) ∧ T'.heap = t.heap ∧ T'.vm = t.vm ∧ Qa st₀ (.returned v) t ∧
      Goes p e below T g T' { g with pc := g.pc + 3, stack := v.toList ++ rest }) ∨
    (∃ (q : Addr) (st₀ t T' : State) (L : List Loc) (E : String) (ce : Cell), st₀.heap = H ∧ Stand p l e R s m args below meth c T' (locs ++ L) (cells + mc) (slots + ms) ∧ (∀ z ∈ L, free z.base) ∧ T'.heap = t.heap ∧ T'.vm = t.vm ∧ XC E st₀ t ∧ t.heap[q]? = some ce ∧ ce.vm = .none ∧ s.vm.findClass E = some ce.cls ∧
      Steps p.tables e below (T.setTop g) ((T'.setTop { g with stack := rest }).pushFrame (.throwing q)))
def vx_X {S : Type} (px : S → Prop) (B : String → S → State → Prop) (A : Nat → Prop) : String → State → State → Prop := fun E st t => ∃ u : S, px u ∧ B E u t ∧ va_F A st t
section Runs
variable {p : Program} {l : Launch} {e : Env} {R : Room} {s : State} {m : MethodId} {args : Array Value} {below : List Frame} {meth : Method} {c : Code} {H : Heap} {locs : List Loc} {cells slots : Nat}
variable {y : MethodName} {bytes cc : ByteArray} {maxL nL mc ms n index : Nat} {ret : Option FieldType} {ws : List Cond} {rm : Room} {Pc : Array Value → State → Prop} {Qc : Array Value → State → Outcome → State → Prop} {XC : String → State → State → Prop} {free : Addr → Prop} {Ts : List Cond} {own C : String} {b : Addr} {As rest : List Value} {g : JFrame}
theorem vx_callBack (cb : CallB R s args own index y bytes maxL ret ws rm mc ms n) (hM : vx_Met l y ws rm Pc Qc XC mc ms free) (hbl : FrameBlind Pc) : vx_Back l R p e below s args y 3 8 (PreOf R mc ms Pc) (PostOf Qc mc ms free) (vx_Post XC mc ms free) := by
  obtain ⟨hrc, hrs, hfr, hlo, hws, hcw, -, hini, -⟩ := cb
  exact vx_back (bytes := bytes) (maxL := maxL) (ret := ret) hM hbl hrc hrs hfr hlo hws hcw (fun a' U hW => word_at hW (Or.inl (by first | rfl | simp [Cond.onTables, Cond.keeps, Cond.steady])) hini)
theorem vx_runV (S : CallFix p m c cc nL s args Ts own) (hM : vx_Met l y ws rm Pc Qc XC mc ms free) (cw : CallW R s args own C index y bytes maxL ret ws rm mc ms n) (hp : PreV s H C b Pc As)
    (hg : g.method = m) (hn : As.length = n) (hsize : g.locals.size = nL) (hstack : g.stack = As.reverse ++ .ref b :: rest) (hW : 2 * g.monitorRoom + (rest.map fun v => v.category).sum ≤ 8) (hdg : decode cc g.pc = .ok (.invokevirtual index, 3)) (hf : cells + mc ≤ R.cells ∧ slots + ms ≤ R.slots) :
    vx_Run p l e R s m args below meth c H locs cells slots mc ms g rest (Qc (Value.ref b :: As).toArray) XC free := by
  have hK : vx_Back l R p e below s args y 3 8 (PreOf R mc ms Pc) (PostOf Qc mc ms free) (vx_Post XC mc ms free) := vx_callBack cw.1 hM hp.1
  obtain ⟨⟨-, -, -, -, -, -, hcode, -, hy, hlen, hl⟩, hin, hse⟩ := cw
  obtain ⟨hx, hb, hml, ho, -⟩ := S
  obtain ⟨-, ⟨cellB, hcB, hoB, hclB⟩, hPc⟩ := hp
  intro T hT X
  rcases vx_callV X hx (C := C) (bytes := bytes) (maxL := maxL) (ret := ret) ho hl hin hse hcode hy hK (by rw [hT]; exact hcB) hoB hclB hg (hsize.trans hml.symm) (argsL := As) (rest := rest) (fun sig h => hn.trans (hlen sig h)) hstack hW (by rw [hb]; exact hdg)
    (fun vm₁ hW₁ => ⟨hf.1, hf.2, hPc (T.setVm vm₁) hT hW₁⟩) with ⟨v, vm₁, ⟨U', l2, c2, s2⟩, hW₁, X', ⟨g', mk, t, L, e1, e2, hq, h1, hL, h2, h3⟩, st⟩ | ⟨q, vm₁, ⟨U', l2, c2, s2⟩, hW₁, X', ⟨g', mk, t, L, E, ce, e1, e2, hq, hce, hcv, hcl, h1, hL, h2, h3⟩, st⟩
  · dsimp only [Pt.U, Pt.locs, Pt.cells, Pt.slots] at X' e1 e2 h1 h2 h3 st
    subst h1; subst h2; subst h3
    exact Or.inl ⟨v, (T.setVm vm₁).calling g' mk (Value.ref b :: As).toArray, t, U', L, hT, X', hL, e1, e2, hq, st⟩
  · dsimp only [Pt.U, Pt.locs, Pt.cells, Pt.slots] at X' e1 e2 h1 h2 h3 st hcl
    subst h1; subst h2; subst h3
    exact Or.inr ⟨q, (T.setVm vm₁).calling g' mk (Value.ref b :: As).toArray, t, U', L, E, ce, hT, X', hL, e1, e2, hq, hce, hcv, vx_cls hW₁ hcl, st⟩
theorem vx_runS (S : CallFix p m c cc nL s args Ts own) (hM : vx_Met l y ws rm Pc Qc XC mc ms free) (cw : CallB R s args own index y bytes maxL ret ws rm mc ms n ∧ (Cond.static y).before args s = true) (hp : PreS s H Pc As)
    (hg : g.method = m) (hn : As.length = n) (hsize : g.locals.size = nL) (hstack : g.stack = As.reverse ++ rest) (hW : 2 * g.monitorRoom + (rest.map fun v => v.category).sum ≤ 8) (hdg : decode cc g.pc = .ok (.invokestatic index, 3)) (hf : cells + mc ≤ R.cells ∧ slots + ms ≤ R.slots) :
    vx_Run p l e R s m args below meth c H locs cells slots mc ms g rest (Qc As.toArray) XC free := by
  have hK : vx_Back l R p e below s args y 3 8 (PreOf R mc ms Pc) (PostOf Qc mc ms free) (vx_Post XC mc ms free) := vx_callBack cw.1 hM hp.1
  obtain ⟨⟨-, -, -, -, -, -, hcode, hini, hy, hlen, hl⟩, hstt⟩ := cw
  obtain ⟨hx, hb, hml, ho, -⟩ := S
  intro T hT X
  rcases vx_callS X hx (bytes := bytes) (maxL := maxL) (ret := ret) ho hl hstt hini hcode hy hK hg (hsize.trans hml.symm) (argsL := As) (rest := rest) (fun sig h => hn.trans (hlen sig h)) hstack hW (by rw [hb]; exact hdg)
    (fun vm₁ hW₁ => ⟨hf.1, hf.2, hp.2 (T.setVm vm₁) hT hW₁⟩) with ⟨v, vm₁, ⟨U', l2, c2, s2⟩, hW₁, X', ⟨g', mk, t, L, e1, e2, hq, h1, hL, h2, h3⟩, st⟩ | ⟨q, vm₁, ⟨U', l2, c2, s2⟩, hW₁, X', ⟨g', mk, t, L, E, ce, e1, e2, hq, hce, hcv, hcl, h1, hL, h2, h3⟩, st⟩
  · dsimp only [Pt.U, Pt.locs, Pt.cells, Pt.slots] at X' e1 e2 h1 h2 h3 st
    subst h1; subst h2; subst h3
    exact Or.inl ⟨v, (T.setVm vm₁).calling g' mk As.toArray, t, U', L, hT, X', hL, e1, e2, hq, st⟩
  · dsimp only [Pt.U, Pt.locs, Pt.cells, Pt.slots] at X' e1 e2 h1 h2 h3 st hcl
    subst h1; subst h2; subst h3
    exact Or.inr ⟨q, (T.setVm vm₁).calling g' mk As.toArray, t, U', L, E, ce, hT, X', hL, e1, e2, hq, hce, hcv, vx_cls hW₁ hcl, st⟩
end Runs
section Rows
variable {p : Program} {l : Launch} {e : Env} {R : Room} {s : State} {m : MethodId} {args : Array Value} {below : List Frame} {meth : Method} {c : Code} {H : Heap} {locs : List Loc} {cells slots : Nat} {Q : State → Prop}
variable {mc ms : Nat} {free : Addr → Prop} {A0 A1 : Nat → Prop} {H0 : Heap} {a : Array Value} {pc : Nat} {ls : Array Slot} {st0 rest : List Value}
theorem vx_keep {st₀ t T' : State} {L : List Loc} (h0 : st₀.heap = H) (e1 : T'.heap = t.heap) (hS : va_S A0 H0 H locs) (hA : ∀ q, q < H.size → A1 q → A0 q) (hf : ∀ q, free q → A0 q) (hL : ∀ q ∈ L, free q.base) (hF : va_F A1 st₀ t) :
    H.size ≤ T'.heap.size ∧ (∀ q : Nat, q < H.size → ¬ A1 q → T'.heap[q]? = H[q]?) ∧ va_S A0 H0 T'.heap (locs ++ L) := by
  obtain ⟨hz, hk⟩ := hF
  rw [h0] at hz hk
  exact ⟨by rw [e1]; exact hz, fun q h1 h2 => by rw [e1]; exact hk q h1 h2,
    ⟨Nat.le_trans hS.1 (by rw [e1]; exact hz), fun q h1 h2 => by rw [e1, hk q (Nat.lt_of_lt_of_le h1 hS.1) (fun z => h2 (hA q (Nat.lt_of_lt_of_le h1 hS.1) z))]; exact hS.2.1 q h1 h2, fun q hq => by
      rcases List.mem_append.mp hq with h | h
      · exact hS.2.2 q h
      · exact hf _ (hL q h)⟩⟩
theorem vx_calli {S SX : Type} {post : Int32 → S → Prop} {px : SX → Prop} {B : S → State → Prop} {BX : String → SX → State → Prop} {AX : Nat → Prop} (hr : vx_Run p l e R s m args below meth c H locs cells slots mc ms (F0 m pc ls st0) rest (va_Qi post B A1 a) (vx_X px BX AX) free) (hS : va_S A0 H0 H locs) (hA : ∀ q, q < H.size → A1 q → A0 q) (hf : ∀ q, free q → A0 q) (hAX : ∀ q, q < H.size → AX q → A0 q)
    (kx : ∀ (E : String) (ce : Cell) (q9 : Addr) (u : SX) (t : State) (H1 : Heap) (locs1 : List Loc), t.heap = H1 → s.vm.Alike t.vm → px u → BX E u t → H.size ≤ H1.size → (∀ q : Nat, q < H.size → ¬ AX q → H1[q]? = H[q]?) → va_S A0 H0 H1 locs1 → H1[q9]? = some ce → ce.vm = .none → s.vm.findClass E = some ce.cls → vx_W p l e R s m args below meth c H1 locs1 (cells + mc) (slots + ms) Q (F0 m pc ls rest) q9)
    (kk : ∀ (r : Int32) (u : S) (t : State) (H1 : Heap) (locs1 : List Loc), t.heap = H1 → s.vm.Alike t.vm → post r u → B u t → H.size ≤ H1.size → (∀ q : Nat, q < H.size → ¬ A1 q → H1[q]? = H[q]?) → va_S A0 H0 H1 locs1 → W p l e R s m args below meth c H1 locs1 (cells + mc) (slots + ms) Q (F0 m (pc + 3) ls (.int r :: rest))) : W p l e R s m args below meth c H locs cells slots Q (F0 m pc ls st0) := by
  intro T hT X
  rcases hr T hT X with ⟨v, st₀, t, T', L, h0, X', hL, e1, e2, ⟨⟨r, u, hv, hp, hb⟩, hF⟩, st⟩ | ⟨q, st₀, t, T', L, E, ce, h0, X', hL, e1, e2, ⟨u, hp, hb, hF⟩, hce, hcv, hcl, st⟩
  · cases hv
    obtain ⟨k1, k2, k3⟩ := vx_keep h0 e1 hS hA hf hL hF
    obtain ⟨t2, a1, b1⟩ := kk r u t T'.heap (locs ++ L) e1.symm (by rw [← e2]; exact X'.warmed.alike) hp hb k1 k2 k3 T' rfl X'
    exact ⟨t2, st t2 a1, b1⟩
  · obtain ⟨k1, k2, k3⟩ := vx_keep h0 e1 hS hAX hf hL hF
    obtain ⟨t2, a1, b1⟩ := kx E ce q u t T'.heap (locs ++ L) e1.symm (by rw [← e2]; exact X'.warmed.alike) hp hb k1 k2 k3 (by rw [e1]; exact hce) hcv hcl T' rfl X'
    exact ⟨t2, st.trans a1, b1⟩
theorem vx_calll {S SX : Type} {post : Int64 → S → Prop} {px : SX → Prop} {B : S → State → Prop} {BX : String → SX → State → Prop} {AX : Nat → Prop} (hr : vx_Run p l e R s m args below meth c H locs cells slots mc ms (F0 m pc ls st0) rest (va_Ql post B A1 a) (vx_X px BX AX) free) (hS : va_S A0 H0 H locs) (hA : ∀ q, q < H.size → A1 q → A0 q) (hf : ∀ q, free q → A0 q) (hAX : ∀ q, q < H.size → AX q → A0 q)
    (kx : ∀ (E : String) (ce : Cell) (q9 : Addr) (u : SX) (t : State) (H1 : Heap) (locs1 : List Loc), t.heap = H1 → s.vm.Alike t.vm → px u → BX E u t → H.size ≤ H1.size → (∀ q : Nat, q < H.size → ¬ AX q → H1[q]? = H[q]?) → va_S A0 H0 H1 locs1 → H1[q9]? = some ce → ce.vm = .none → s.vm.findClass E = some ce.cls → vx_W p l e R s m args below meth c H1 locs1 (cells + mc) (slots + ms) Q (F0 m pc ls rest) q9)
    (kk : ∀ (r : Int64) (u : S) (t : State) (H1 : Heap) (locs1 : List Loc), t.heap = H1 → s.vm.Alike t.vm → post r u → B u t → H.size ≤ H1.size → (∀ q : Nat, q < H.size → ¬ A1 q → H1[q]? = H[q]?) → va_S A0 H0 H1 locs1 → W p l e R s m args below meth c H1 locs1 (cells + mc) (slots + ms) Q (F0 m (pc + 3) ls (.long r :: rest))) : W p l e R s m args below meth c H locs cells slots Q (F0 m pc ls st0) := by
  intro T hT X
  rcases hr T hT X with ⟨v, st₀, t, T', L, h0, X', hL, e1, e2, ⟨⟨r, u, hv, hp, hb⟩, hF⟩, st⟩ | ⟨q, st₀, t, T', L, E, ce, h0, X', hL, e1, e2, ⟨u, hp, hb, hF⟩, hce, hcv, hcl, st⟩
  · cases hv
    obtain ⟨k1, k2, k3⟩ := vx_keep h0 e1 hS hA hf hL hF
    obtain ⟨t2, a1, b1⟩ := kk r u t T'.heap (locs ++ L) e1.symm (by rw [← e2]; exact X'.warmed.alike) hp hb k1 k2 k3 T' rfl X'
    exact ⟨t2, st t2 a1, b1⟩
  · obtain ⟨k1, k2, k3⟩ := vx_keep h0 e1 hS hAX hf hL hF
    obtain ⟨t2, a1, b1⟩ := kx E ce q u t T'.heap (locs ++ L) e1.symm (by rw [← e2]; exact X'.warmed.alike) hp hb k1 k2 k3 (by rw [e1]; exact hce) hcv hcl T' rfl X'
    exact ⟨t2, st.trans a1, b1⟩
theorem vx_callf {S SX : Type} {post : UInt32 → S → Prop} {px : SX → Prop} {B : S → State → Prop} {BX : String → SX → State → Prop} {AX : Nat → Prop} (hr : vx_Run p l e R s m args below meth c H locs cells slots mc ms (F0 m pc ls st0) rest (va_Qf post B A1 a) (vx_X px BX AX) free) (hS : va_S A0 H0 H locs) (hA : ∀ q, q < H.size → A1 q → A0 q) (hf : ∀ q, free q → A0 q) (hAX : ∀ q, q < H.size → AX q → A0 q)
    (kx : ∀ (E : String) (ce : Cell) (q9 : Addr) (u : SX) (t : State) (H1 : Heap) (locs1 : List Loc), t.heap = H1 → s.vm.Alike t.vm → px u → BX E u t → H.size ≤ H1.size → (∀ q : Nat, q < H.size → ¬ AX q → H1[q]? = H[q]?) → va_S A0 H0 H1 locs1 → H1[q9]? = some ce → ce.vm = .none → s.vm.findClass E = some ce.cls → vx_W p l e R s m args below meth c H1 locs1 (cells + mc) (slots + ms) Q (F0 m pc ls rest) q9)
    (kk : ∀ (r : UInt32) (u : S) (t : State) (H1 : Heap) (locs1 : List Loc), t.heap = H1 → s.vm.Alike t.vm → post r u → B u t → H.size ≤ H1.size → (∀ q : Nat, q < H.size → ¬ A1 q → H1[q]? = H[q]?) → va_S A0 H0 H1 locs1 → W p l e R s m args below meth c H1 locs1 (cells + mc) (slots + ms) Q (F0 m (pc + 3) ls (.float r :: rest))) : W p l e R s m args below meth c H locs cells slots Q (F0 m pc ls st0) := by
  intro T hT X
  rcases hr T hT X with ⟨v, st₀, t, T', L, h0, X', hL, e1, e2, ⟨⟨r, u, hv, hp, hb⟩, hF⟩, st⟩ | ⟨q, st₀, t, T', L, E, ce, h0, X', hL, e1, e2, ⟨u, hp, hb, hF⟩, hce, hcv, hcl, st⟩
  · cases hv
    obtain ⟨k1, k2, k3⟩ := vx_keep h0 e1 hS hA hf hL hF
    obtain ⟨t2, a1, b1⟩ := kk r u t T'.heap (locs ++ L) e1.symm (by rw [← e2]; exact X'.warmed.alike) hp hb k1 k2 k3 T' rfl X'
    exact ⟨t2, st t2 a1, b1⟩
  · obtain ⟨k1, k2, k3⟩ := vx_keep h0 e1 hS hAX hf hL hF
    obtain ⟨t2, a1, b1⟩ := kx E ce q u t T'.heap (locs ++ L) e1.symm (by rw [← e2]; exact X'.warmed.alike) hp hb k1 k2 k3 (by rw [e1]; exact hce) hcv hcl T' rfl X'
    exact ⟨t2, st.trans a1, b1⟩
theorem vx_calld {S SX : Type} {post : UInt64 → S → Prop} {px : SX → Prop} {B : S → State → Prop} {BX : String → SX → State → Prop} {AX : Nat → Prop} (hr : vx_Run p l e R s m args below meth c H locs cells slots mc ms (F0 m pc ls st0) rest (va_Qd post B A1 a) (vx_X px BX AX) free) (hS : va_S A0 H0 H locs) (hA : ∀ q, q < H.size → A1 q → A0 q) (hf : ∀ q, free q → A0 q) (hAX : ∀ q, q < H.size → AX q → A0 q)
    (kx : ∀ (E : String) (ce : Cell) (q9 : Addr) (u : SX) (t : State) (H1 : Heap) (locs1 : List Loc), t.heap = H1 → s.vm.Alike t.vm → px u → BX E u t → H.size ≤ H1.size → (∀ q : Nat, q < H.size → ¬ AX q → H1[q]? = H[q]?) → va_S A0 H0 H1 locs1 → H1[q9]? = some ce → ce.vm = .none → s.vm.findClass E = some ce.cls → vx_W p l e R s m args below meth c H1 locs1 (cells + mc) (slots + ms) Q (F0 m pc ls rest) q9)
    (kk : ∀ (r : UInt64) (u : S) (t : State) (H1 : Heap) (locs1 : List Loc), t.heap = H1 → s.vm.Alike t.vm → post r u → B u t → H.size ≤ H1.size → (∀ q : Nat, q < H.size → ¬ A1 q → H1[q]? = H[q]?) → va_S A0 H0 H1 locs1 → W p l e R s m args below meth c H1 locs1 (cells + mc) (slots + ms) Q (F0 m (pc + 3) ls (.double r :: rest))) : W p l e R s m args below meth c H locs cells slots Q (F0 m pc ls st0) := by
  intro T hT X
  rcases hr T hT X with ⟨v, st₀, t, T', L, h0, X', hL, e1, e2, ⟨⟨r, u, hv, hp, hb⟩, hF⟩, st⟩ | ⟨q, st₀, t, T', L, E, ce, h0, X', hL, e1, e2, ⟨u, hp, hb, hF⟩, hce, hcv, hcl, st⟩
  · cases hv
    obtain ⟨k1, k2, k3⟩ := vx_keep h0 e1 hS hA hf hL hF
    obtain ⟨t2, a1, b1⟩ := kk r u t T'.heap (locs ++ L) e1.symm (by rw [← e2]; exact X'.warmed.alike) hp hb k1 k2 k3 T' rfl X'
    exact ⟨t2, st t2 a1, b1⟩
  · obtain ⟨k1, k2, k3⟩ := vx_keep h0 e1 hS hAX hf hL hF
    obtain ⟨t2, a1, b1⟩ := kx E ce q u t T'.heap (locs ++ L) e1.symm (by rw [← e2]; exact X'.warmed.alike) hp hb k1 k2 k3 (by rw [e1]; exact hce) hcv hcl T' rfl X'
    exact ⟨t2, st.trans a1, b1⟩
theorem vx_callv {S SX : Type} {post : S → Prop} {px : SX → Prop} {B : S → State → Prop} {BX : String → SX → State → Prop} {AX : Nat → Prop} (hr : vx_Run p l e R s m args below meth c H locs cells slots mc ms (F0 m pc ls st0) rest (va_Qv post B A1 a) (vx_X px BX AX) free) (hS : va_S A0 H0 H locs) (hA : ∀ q, q < H.size → A1 q → A0 q) (hf : ∀ q, free q → A0 q) (hAX : ∀ q, q < H.size → AX q → A0 q)
    (kx : ∀ (E : String) (ce : Cell) (q9 : Addr) (u : SX) (t : State) (H1 : Heap) (locs1 : List Loc), t.heap = H1 → s.vm.Alike t.vm → px u → BX E u t → H.size ≤ H1.size → (∀ q : Nat, q < H.size → ¬ AX q → H1[q]? = H[q]?) → va_S A0 H0 H1 locs1 → H1[q9]? = some ce → ce.vm = .none → s.vm.findClass E = some ce.cls → vx_W p l e R s m args below meth c H1 locs1 (cells + mc) (slots + ms) Q (F0 m pc ls rest) q9)
    (kk : ∀ (u : S) (t : State) (H1 : Heap) (locs1 : List Loc), t.heap = H1 → s.vm.Alike t.vm → post u → B u t → H.size ≤ H1.size → (∀ q : Nat, q < H.size → ¬ A1 q → H1[q]? = H[q]?) → va_S A0 H0 H1 locs1 → W p l e R s m args below meth c H1 locs1 (cells + mc) (slots + ms) Q (F0 m (pc + 3) ls (rest))) : W p l e R s m args below meth c H locs cells slots Q (F0 m pc ls st0) := by
  intro T hT X
  rcases hr T hT X with ⟨v, st₀, t, T', L, h0, X', hL, e1, e2, ⟨⟨u, hv, hp, hb⟩, hF⟩, st⟩ | ⟨q, st₀, t, T', L, E, ce, h0, X', hL, e1, e2, ⟨u, hp, hb, hF⟩, hce, hcv, hcl, st⟩
  · cases hv
    obtain ⟨k1, k2, k3⟩ := vx_keep h0 e1 hS hA hf hL hF
    obtain ⟨t2, a1, b1⟩ := kk u t T'.heap (locs ++ L) e1.symm (by rw [← e2]; exact X'.warmed.alike) hp hb k1 k2 k3 T' rfl X'
    exact ⟨t2, st t2 a1, b1⟩
  · obtain ⟨k1, k2, k3⟩ := vx_keep h0 e1 hS hAX hf hL hF
    obtain ⟨t2, a1, b1⟩ := kx E ce q u t T'.heap (locs ++ L) e1.symm (by rw [← e2]; exact X'.warmed.alike) hp hb k1 k2 k3 (by rw [e1]; exact hce) hcv hcl T' rfl X'
    exact ⟨t2, st.trans a1, b1⟩
/-- caught by the row x of this method's table; the rows ahead don't take it -/
theorem vx_catch {own name : String} {E : String} {ce : Cell} {q : Addr} (hown : s.vm.findClass own = some m.cls) (pre : List ExceptionTableEntry) (x : ExceptionTableEntry) (suf : List ExceptionTableEntry) (hsplit : c.exceptionTable.toList = pre ++ x :: suf)
    (hpass : ∀ z ∈ pre, covers z pc = false ∨ (z.catchType ≠ 0 ∧ ∃ nm : String, (Cond.classLink own z.catchType nm).before args s = true ∧ va_Nc E nm s)) (hx : covers x pc = true) (h0 : x.catchType ≠ 0)
    (hlink : (Cond.classLink own x.catchType name).before args s = true) (hcast : (Cond.castable E name).before args s = true) (hcell : H[q]? = some ce) (hv : ce.vm = .none) (hcl : s.vm.findClass E = some ce.cls)
    (kk : W p l e R s m args below meth c H locs cells slots Q (F0 m x.handlerPc ls [.ref q])) : vx_W p l e R s m args below meth c H locs cells slots Q (F0 m pc ls rest) q := by
  intro T hT X
  have hpl : e.platform.magicAccessors = ({} : Platform).magicAccessors := by rw [X.admits.platform]
  obtain ⟨c3, c4, hc3, hc4, hasg⟩ := Cond.castable_spec hcast
  cases Option.some.inj (hc3.symm.trans hcl)
  obtain ⟨c5, hc5, hcl5⟩ := Cond.classLink_spec hown hlink e.platform hpl
  cases Option.some.inj (hc4.symm.trans hc5)
  obtain ⟨vm', X', st⟩ := X.thenCaughtThrough q (g := F0 m pc ls rest) rfl (Steps.refl _) (by rw [hT]; exact hcell) (by rw [hv]; rfl) (by obtain ⟨k9, h9, -⟩ := Vm.findClass_spec hcl; exact ⟨k9, h9⟩) pre x suf hsplit
    (fun z hz => by
      rcases hpass z hz with h | ⟨hz0, nm, hl1, hn1⟩
      · exact Or.inl h
      · obtain ⟨c6, hc6, hcl6⟩ := Cond.classLink_spec hown hl1 e.platform hpl
        obtain ⟨a8, b8, h1, h2, h3⟩ := hn1
        cases Option.some.inj (h1.symm.trans hcl)
        cases Option.some.inj (h2.symm.trans hc6)
        exact Or.inr ⟨hz0, _, hcl6, h3⟩) hx (Or.inr ⟨h0, c4, hcl5, hasg⟩)
  obtain ⟨t, a1, b1⟩ := kk (T.setVm vm') hT X'
  exact ⟨t, st.trans a1, b1⟩
end Rows
section Ends
variable {p : Program} {l : Launch} {e : Env} {R : Room} {s : State} {m : MethodId} {args : Array Value} {below : List Frame} {meth : Method} {c : Code} {H : Heap} {locs : List Loc} {cells slots : Nat} {Q : State → Prop}
variable {mc ms : Nat} {free : Addr → Prop} {A0 A1 : Nat → Prop} {H0 : Heap} {a : Array Value} {ls : Array Slot} {st0 rest : List Value}
variable {Qc : Array Value → State → Outcome → State → Prop} {XC : String → State → State → Prop}
/-- what a body that may throw owes at its end -/
def vx_MQ (below : List Frame) (Qc : Array Value → State → Outcome → State → Prop) (XC : String → State → State → Prop) (a : Array Value) (s : State) (mc ms : Nat) (free : Addr → Prop) : State → Prop := fun t =>
  ∃ o, t.status = .running ∧ Ended t below o ∧ vx_Q Qc XC mc ms free a s o t
theorem vx_ret {g : JFrame} {mc ms : Nat} (k : W p l e R s m args below meth c H locs cells slots (MQ below Qc args s mc ms free) g) : W p l e R s m args below meth c H locs cells slots (vx_MQ below Qc XC args s mc ms free) g := by
  intro T hT X
  obtain ⟨t, a1, o, b1, b2, b3, b4⟩ := k T hT X
  exact ⟨t, a1, o, b1, b2, Or.inl ⟨b3, b4⟩⟩
/-- not caught here: it goes on to the caller -/
theorem vx_widen {g : JFrame} {q : Addr} {k n : Nat} (h1 : cells ≤ k) (h2 : slots ≤ n) (kk : vx_W p l e R s m args below meth c H locs k n Q g q) : vx_W p l e R s m args below meth c H locs cells slots Q g q := fun T hT X => kk T hT (stand_widen X h1 h2)
theorem vx_out {pc : Nat} {E : String} {ce : Cell} {q : Addr} {mc ms : Nat} (hout : ∀ x ∈ c.exceptionTable.toList, covers x pc = false) (hlocks : meth.locks = false) (hcell : H[q]? = some ce) (hv : ce.vm = .none) (hcl : s.vm.findClass E = some ce.cls)
    (hx : ∀ t : State, t.heap = H → s.vm.Alike t.vm → XC E s t) (hf : ∀ z ∈ locs, free z.base) (hc : cells ≤ mc) (hs : slots ≤ ms) :
    vx_W p l e R s m args below meth c H locs cells slots (vx_MQ below Qc XC args s mc ms free) (F0 m pc ls rest) q := by
  intro T hT X
  obtain ⟨st1, hrun, hend, hW, hsm⟩ := X.leaveThrown q (g := F0 m pc ls rest) rfl rfl rfl hout hlocks
  have hcell9 : (T.setFrames (.throwing q :: below)).heap[q]? = some ce := by
    show T.heap[q]? = some ce
    rw [hT]; exact hcell
  exact ⟨_, st1, .threw q, hrun, hend, Or.inr ⟨q, rfl, E, ce, locs, hx _ hT hW.alike, hcell9, hv, hcl, hW, hsm.mono hc hs, hf⟩⟩
theorem vx_frame {U : State} {k n : Nat} (h : s.sameButNew ({ U with vm := s.vm } : State) locs k n) : s.heap.size ≤ U.heap.size ∧ ∀ q : Nat, q < s.heap.size → (∀ z ∈ locs, z.base ≠ q) → U.heap[q]? = s.heap[q]? := by
  obtain ⟨-, h2, -, -, -, h6⟩ := h
  refine ⟨h2, fun q hq hz => ?_⟩
  obtain ⟨c9, e1, e2, e3, e4⟩ := h6 q _ (Array.getElem?_eq_getElem hq)
  have hs : c9.slots = (s.heap[q]).slots := Array.ext_getElem? fun i => e4 i fun hm => hz _ hm rfl
  have h9 : c9 = s.heap[q] := by
    rw [hs] at e2
    exact e2
  have e5 : U.heap[q]? = some c9 := e1
  rw [e5, h9, Array.getElem?_eq_getElem hq]
/-- the words of a throw but the four that speak of the heap -/
def vx_no (w : Cond) : Bool := decide (w ≠ .isRef (.static Bundle.tN "UNASSIGNED_STACK" Bundle.steD)) && decide (w ≠ .isRef (.static Bundle.tN "SUPPRESSED_SENTINEL" Bundle.listD)) && decide (w ≠ .laysStatic Bundle.tN "UNASSIGNED_STACK" Bundle.steD) && decide (w ≠ .laysStatic Bundle.tN "SUPPRESSED_SENTINEL" Bundle.listD)
def vx_at0 (own : String) (ic : Nat) (X : String) (names : List String) : List Cond := (Bundle.ownAtoms0 own ic X names).filter vx_no
def vx_atS (own : String) (ic : Nat) (X : String) (names : List String) : List Cond := (Bundle.ownAtoms own ic X names).filter vx_no
/-- a word that the tables alone decide, or a good one -/
def vx_ot (w : Cond) : Bool := w.onTables || goodWord w
theorem vx_ot_at {args a' : Array Value} {s U : State} {w : Cond} (hW : s.WarmedH U.vm) (hvm : s.vm = U.vm) (hg : vx_ot w = true) (h : w.before args s = true) : w.before a' U = true := by
  simp only [vx_ot, Bool.or_eq_true] at hg
  rcases hg with hg | hg
  · exact va_tabs hg hvm h
  · exact word_at hW (good_of_word hg) h
/-- a list's words: the good ones out of the method's own list, the others by premises of their own -/
theorem vx_hat {args : Array Value} {s : State} {L B : List Cond} (h1 : ∀ w ∈ L.filter goodWord, w.before args s = true) (h2 : ∀ w ∈ L.filter (fun w => !goodWord w), w ∈ B) (h3 : ∀ w ∈ B, w.before args s = true) : ∀ w ∈ L, w.before args s = true := by
  intro w hw
  by_cases g : goodWord w = true
  · exact h1 w (List.mem_filter.mpr ⟨hw, g⟩)
  · refine h3 w (h2 w (List.mem_filter.mpr ⟨hw, ?_⟩))
    show (!goodWord w) = true
    cases hgw : goodWord w
    · rfl
    · exact absurd hgw g
theorem vx_c {args : Array Value} {s : State} {w : Cond} {B : List Cond} (h : w.before args s = true) (t : ∀ w ∈ B, w.before args s = true) : ∀ w' ∈ w :: B, w'.before args s = true := fun w' h' => (List.mem_cons.mp h').elim (fun e => by rw [e]; exact h) (t w')
theorem vx_n {args : Array Value} {s : State} : ∀ w ∈ ([] : List Cond), w.before args s = true := fun _ h => nomatch h
theorem vx_own {args : Array Value} {s : State} {L : List Cond} (h1 : ∀ w ∈ L.filter vx_no, w.before args s = true)
    (hU : (Cond.isRef (.static Bundle.tN "UNASSIGNED_STACK" Bundle.steD)).before args s = true) (hN : (Cond.isRef (.static Bundle.tN "SUPPRESSED_SENTINEL" Bundle.listD)).before args s = true)
    (lU : (Cond.laysStatic Bundle.tN "UNASSIGNED_STACK" Bundle.steD).before args s = true) (lN : (Cond.laysStatic Bundle.tN "SUPPRESSED_SENTINEL" Bundle.listD).before args s = true) : ∀ w ∈ L, w.before args s = true := by
  intro w hw
  by_cases e1 : w = .isRef (.static Bundle.tN "UNASSIGNED_STACK" Bundle.steD)
  · rw [e1]; exact hU
  · by_cases e2 : w = .isRef (.static Bundle.tN "SUPPRESSED_SENTINEL" Bundle.listD)
    · rw [e2]; exact hN
    · by_cases e3 : w = .laysStatic Bundle.tN "UNASSIGNED_STACK" Bundle.steD
      · rw [e3]; exact lU
      · by_cases e4 : w = .laysStatic Bundle.tN "SUPPRESSED_SENTINEL" Bundle.listD
        · rw [e4]; exact lN
        · exact h1 w (List.mem_filter.mpr ⟨hw, by unfold vx_no; rw [decide_eq_true e1, decide_eq_true e2, decide_eq_true e3, decide_eq_true e4]; rfl⟩)
/-- where a static field lies, its class's statics cell in H -/
def vx_L (C n d : String) (A : Nat → Prop) (U : State) (H : Heap) : Prop := ∃ (c : ClassId) (k : Class) (i : Nat) (f : Field) (a : Nat) (cell : Cell), U.vm.findClass C = some c ∧ U.fieldFound? C n d = some (c, k, i, f) ∧ f.isStatic = true ∧ k.statics = some a ∧ H[a]? = some cell ∧ cell.vm.isStatics = true ∧ cell.cls = c ∧ f.slot < cell.slots.size ∧ k.staticTypes[f.slot]? = some f.type ∧ ¬ A a
theorem vx_L.moved {C n d : String} {A : Nat → Prop} {u U : State} {H : Heap} (hvm : u.vm.Alike U.vm) (h : vx_L C n d A u H) : vx_L C n d A U H := by
  obtain ⟨c, k, i, f, a, cell, h1, h2, h3, h4, h5, h6, h7, h8, h9, h10⟩ := h
  obtain ⟨k', hi', he⟩ := State.fieldFound?_setVm hvm h2
  exact ⟨c, k', i, f, a, cell, by rw [hvm.findClass]; exact h1, hi', h3, by rw [he]; exact h4, h5, h6, h7, h8, by rw [he]; exact h9, h10⟩
theorem vx_L.kept {C n d : String} {A : Nat → Prop} {U : State} {H H1 : Heap} (h : vx_L C n d A U H) (hq : ∀ a : Nat, a < H.size → ¬ A a → H1[a]? = H[a]?) : vx_L C n d A U H1 := by
  obtain ⟨c, k, i, f, a, cell, h1, h2, h3, h4, h5, h6, h7, h8, h9, h10⟩ := h
  exact ⟨c, k, i, f, a, cell, h1, h2, h3, h4, by rw [hq a (Array.getElem?_eq_some_iff.mp h5).1 h10]; exact h5, h6, h7, h8, h9, h10⟩
theorem vx_L.narrow {C n d : String} {A B : Nat → Prop} {U : State} {H : Heap} (h : vx_L C n d A U H) (hAB : ∀ q, B q → A q) : vx_L C n d B U H := by
  obtain ⟨c, k, i, f, a, cell, h1, h2, h3, h4, h5, h6, h7, h8, h9, h10⟩ := h
  exact ⟨c, k, i, f, a, cell, h1, h2, h3, h4, h5, h6, h7, h8, h9, fun z => h10 (hAB _ z)⟩
theorem vx_L.word {C n d : String} {A : Nat → Prop} {s : State} {args : Array Value} (h : vx_L C n d A s s.heap) : (Cond.laysStatic C n d).before args s = true := by
  obtain ⟨c, k, i, f, a, cell, h1, h2, h3, h4, h5, h6, h7, h8, h9, -⟩ := h
  show (Cond.laysStatic C n d).holds args s none s [] = true
  exact Cond.laysStatic_of h1 h2 h3 h4 h5 h6 h7 h8 h9
/-- .. and what it holds: null or some reference -/
def vx_Zq (C n d : String) (A : Nat → Prop) (U : State) (H : Heap) : Prop := va_Zq C n d A U H ∧ vx_L C n d A U H
theorem vx_Zq.moved {C n d : String} {A : Nat → Prop} {u U : State} {H : Heap} (hvm : u.vm.Alike U.vm) (h : vx_Zq C n d A u H) : vx_Zq C n d A U H := ⟨va_Zq.moved hvm h.1, vx_L.moved hvm h.2⟩
theorem vx_Zq.kept {C n d : String} {A : Nat → Prop} {U : State} {H H1 : Heap} (h : vx_Zq C n d A U H) (hq : ∀ a : Nat, a < H.size → ¬ A a → H1[a]? = H[a]?) : vx_Zq C n d A U H1 := ⟨va_Zq.kept h.1 hq, vx_L.kept h.2 hq⟩
theorem vx_Zq.narrow {C n d : String} {A B : Nat → Prop} {U : State} {H : Heap} (h : vx_Zq C n d A U H) (hAB : ∀ q, B q → A q) : vx_Zq C n d B U H := ⟨va_Zq.narrow h.1 hAB, vx_L.narrow h.2 hAB⟩
theorem vx_Zqof {args : Array Value} {s : State} {C n d : String} {A : Nat → Prop} (hl : (Cond.laysStatic C n d).before args s = true) (hini : (Cond.initialized C).before args s = true) (h : (Cond.isRef (.static C n d)).before args s = true) (hA : ∀ a : Nat, a < s.heap.size → ¬ A a) : vx_Zq C n d A s s.heap := by
  refine ⟨va_Zqof hl hini h hA, ?_⟩
  obtain ⟨c, k, i, f, a, cell, h1, h2, h3, h4, h5, h6, h7, h8, h9⟩ := Cond.laysStatic_spec hl
  exact ⟨c, k, i, f, a, cell, h1, h2, h3, h4, h5, h6, h7, h8, h9, hA a (Array.getElem?_eq_some_iff.mp h5).1⟩
theorem vx_isRef {C n d : String} {v : Value} {A : Nat → Prop} {s : State} {args : Array Value} (h : va_Z C n d v A s s.heap) (hv : v.isRef = true) : (Cond.isRef (.static C n d)).before args s = true := by
  obtain ⟨cf, kf, fi, f, a, cell, h1, h2, h3, h4, h5, h6, h7, -⟩ := h
  have he : (Term.static C n d).eval args s none [] s = some v := by
    simp [Term.eval, State.fieldNamed?, h1, h2, h4, h5, h6, h7]
  simp only [Cond.before, Cond.holds, Cond.value, he]
  cases v <;> simp_all [Value.isRef]
theorem vx_isRefq {C n d : String} {A : Nat → Prop} {s : State} {args : Array Value} (h : va_Zq C n d A s s.heap) : (Cond.isRef (.static C n d)).before args s = true := by
  rcases h with h | ⟨t, h⟩
  · exact vx_isRef h rfl
  · exact vx_isRef h rfl
/-- the same frame, seen from here: as if the method were called anew in this heap -/
theorem vx_rebase {T : State} (X : Stand p l e R s m args below meth c T locs cells slots) {R' : Room} (hf : R'.frames ≤ R.frames) (hl : R'.locals ≤ R.locals) (hc : cells + R'.cells ≤ R.cells) (hs : slots + R'.slots ≤ R.slots) :
    Stand p l e R' ((T.setVm s.vm).setFrames (.invoking m args :: below)) m args below meth c T [] 0 0 := by
  have htop : (T.setVm s.vm).topJava?.isSome := X.here.top
  have hF : ((T.setVm s.vm).setFrames (.invoking m args :: below)).frames = .invoking m args :: below := State.frames_setFrames _ (State.cur_lt_of_top htop)
  obtain ⟨g₀, hg0⟩ := Option.isSome_iff_exists.mp htop
  obtain ⟨r, hr⟩ := State.topJava?_eq_some.mp hg0
  have hl9 : e.platform.stackLimits (T.setVm s.vm).me = e.platform.stackLimits s.me := X.limits
  have hb9 : (T.setVm s.vm).me.stackBytes = s.me.stackBytes := X.bytes
  refine ⟨X.admits, X.cas, X.clock, hF, ?_, X.hears, X.method, X.code, X.here, X.tail, X.warmed, ?_, ?_, ?_⟩
  · have h := X.room
    have hU : ((T.setVm s.vm).setFrames (.invoking m args :: below)).localsInUse = s.localsInUse := by
      rw [State.localsInUse_invoking hF (meth := meth) (c := c) X.method X.code, State.localsInUse_invoking X.frames X.method X.code]
    simp only [State.hasRoom, Bool.and_eq_true, decide_eq_true_eq] at h ⊢
    obtain ⟨⟨⟨⟨h1, h2, h3, h4, h5, h6⟩, h7⟩, h8⟩, h9⟩ := h
    rw [X.frames, List.length_cons] at h2 h3
    have q1 := X.heapSize
    have q2 := X.used
    simp only [hF, hU, List.length_cons, State.stackLimits_setFrames, State.stackBytes_setFrames, hl9, hb9]
    refine ⟨⟨⟨⟨by omega, by omega, by omega, by omega, by omega, h6⟩, ?_⟩, ?_⟩, X.book⟩
    · show T.heap.size + R'.cells ≤ e.platform.maxCells
      omega
    · show T.slotsUsed + R'.slots ≤ e.platform.maxSlots
      omega
  · rw [State.stackLimits_setFrames]; rfl
  · rw [State.stackBytes_setFrames]; rfl
  · refine ⟨?_, Nat.le_refl _, Nat.le_refl _, ?_, ?_, fun a c9 h9 => ⟨c9, h9, rfl, rfl, fun _ _ => rfl⟩⟩
    · obtain ⟨t, ht, -⟩ := State.frames_cons hr
      show T.setVm s.vm = { ((T.setVm s.vm).setFrames (.invoking m args :: below)).setFrames (T.setVm s.vm).frames with heap := T.heap, slotsUsed := T.slotsUsed }
      rw [State.setFrames_setFrames, State.setFrames_self ht]
      rfl
    · show T.slotsUsed = T.slotsUsed + ((T.heap.toList.drop T.heap.size).map (·.slots.size)).sum
      rw [List.drop_eq_nil_of_le (Nat.le_of_eq Array.length_toList)]
      rfl
    · show ((T.heap.toList.drop T.heap.size).map (·.slots.size)).sum ≤ 0
      rw [List.drop_eq_nil_of_le (Nat.le_of_eq Array.length_toList)]
      exact Nat.le_refl _
/-- 'throw new E()': new; dup; invokespecial; athrow -/
theorem vx_throw0 {cc : ByteArray} {pc : Nat} (hexec : p.tables.exec = Jvm.exec) (hb : c.code = cc) (hl : l.stackTraces = false) {own cls : String} {names : List String} {ik ic mc ms : Nat} {A : Nat → Prop}
    (hown : s.vm.findClass own = some m.cls) (hcls : Bundle.fit cls = true) (hnames : ∀ n ∈ names, Bundle.fit n = true)
    (hk : (Cond.classLink own ik cls).before args s = true) (hini : (Cond.initialized cls).before args s = true) (hat : ∀ w ∈ vx_at0 own ic cls names, w.before args s = true)
    (hgood : ∀ w ∈ Cond.classLink own ik cls :: Cond.initialized cls :: vx_at0 own ic cls names, vx_ot w = true)
    (hU : vx_Zq Bundle.tN "UNASSIGNED_STACK" Bundle.steD A s s.heap) (hN : vx_Zq Bundle.tN "SUPPRESSED_SENTINEL" Bundle.listD A s s.heap) (hS : va_S A s.heap H locs) (hsize : ls.size = c.maxLocals)
    (d0 : decode cc pc = .ok (.new ik, 3)) (d3 : decode cc (pc + 3) = .ok (.dup, 1)) (d4 : decode cc (pc + 4) = .ok (.invokespecial ic, 3)) (d7 : decode cc (pc + 7) = .ok (.athrow, 1))
    (hout : ∀ x ∈ c.exceptionTable.toList, covers x (pc + 7) = false)
    (hRframes : names.length + 3 < R.frames) (hRlocals : (rest.map fun v => v.category).sum + (13 * (names.length + 1) + 42) ≤ R.locals) (hRcells : cells + 1 ≤ R.cells) (hRslots : slots + 6 ≤ R.slots) (hlocks : meth.locks = false)
    (hx : ∀ t : State, s.vm.Alike t.vm → H.size ≤ t.heap.size → (∀ q : Nat, q < H.size → t.heap[q]? = H[q]?) → XC cls s t)
    (hf : ∀ z ∈ locs, free z.base) (hc : cells + 1 ≤ mc) (hs : slots + 6 ≤ ms) :
    W p l e R s m args below meth c H locs cells slots (vx_MQ below Qc XC args s mc ms free) (F0 m pc ls rest) := by
  intro T hT X
  have htr : e.platform.stackTraces = false := (show e.platform.stackTraces = l.stackTraces by rw [X.admits.platform]).trans hl
  have Y := vx_rebase X (R' := { frames := R.frames, locals := R.locals, cells := 1, slots := 6 }) (Nat.le_refl _) (Nat.le_refl _) hRcells hRslots
  obtain ⟨s', hA⟩ : ∃ z, z = (T.setVm s.vm).setFrames (.invoking m args :: below) := ⟨_, rfl⟩
  rw [← hA] at Y
  have hvm : s'.vm = s.vm := by rw [hA]; rfl
  have hhp : s'.heap = H := by rw [hA]; exact hT
  have hW0 : s.WarmedH s'.vm := by rw [hvm]; exact State.WarmedH.refl s
  have hat' : ∀ w ∈ vx_at0 own ic cls names, w.before args s' = true := fun w hw => vx_ot_at hW0 hvm.symm (hgood w (List.mem_cons_of_mem _ (List.mem_cons_of_mem _ hw))) (hat w hw)
  have hk' : (Cond.classLink own ik cls).before args s' = true := vx_ot_at hW0 hvm.symm (hgood _ List.mem_cons_self) hk
  have hini' : (Cond.initialized cls).before args s' = true := vx_ot_at hW0 hvm.symm (hgood _ (List.mem_cons_of_mem _ List.mem_cons_self)) hini
  have hU' : vx_Zq Bundle.tN "UNASSIGNED_STACK" Bundle.steD A s' s'.heap := by rw [hhp]; exact vx_Zq.moved hW0.alike (hU.kept hS.2.1)
  have hN' : vx_Zq Bundle.tN "SUPPRESSED_SENTINEL" Bundle.listD A s' s'.heap := by rw [hhp]; exact vx_Zq.moved hW0.alike (hN.kept hS.2.1)
  have h : ∀ w ∈ Bundle.ownAtoms0 own ic cls names, w.before args s' = true := vx_own hat' (vx_isRefq hU'.1) (vx_isRefq hN'.1) hU'.2.word hN'.2.word
  have hown' : s'.vm.findClass own = some m.cls := by rw [hvm]; exact hown
  have hins : (Cond.instantiable cls 6).before args s' = true := h _ (by simp [Bundle.ownAtoms0])
  obtain ⟨vm₁, cX, kX, hfX, hkX, -, -, X₁, st1⟩ := Y.newCold hexec (own := own) (C := cls) (index := ik) (n := 6) hown' hk' hins hini'
    (g := F0 m pc ls rest) rfl (by rw [hb]; exact d0) (Nat.le_refl _) (Nat.le_refl _)
  generalize hT1 : (T.setVm vm₁).pushCell { cls := cX, slots := kX.instanceTypes.map defaultValue, vm := .none } = T1 at X₁ st1
  have hcat : (Value.ref T.heap.size).category = 1 := rfl
  have hcellA : T1.heap[T.heap.size]? = some (freshCell cX kX) := by rw [← hT1]; exact State.heap_pushCell_size _ _
  have d3' : decode c.code (pc + 3) = .ok (.dup, 1) := by rw [hb]; exact d3
  obtain ⟨U, hsteps, hrun, hend, hW, hsame, ce, hce, hO⟩ := X₁.ctorThrow0 hexec htr (own := own) (cls := cls) (names := names) (ic := ic) hown' hcls hnames h (fun x hx => nomatch hx) hfX hkX hcellA (by rw [hhp, hT]; exact Nat.le_refl _)
    (g := { method := m, pc := pc + 4, locals := ls, stack := .ref T.heap.size :: .ref T.heap.size :: rest, locked := none }) rfl hsize rfl rfl (rest := rest) rfl
    (by rw [hb]; exact d4) (by rw [hb]; exact d7) hout hRframes (by simp only [List.map_cons, List.sum_cons, hcat]; omega) hlocks
  obtain ⟨f1, f2⟩ := vx_frame hsame
  rw [hhp] at f1 f2
  have hWs : s.WarmedH U.vm := State.WarmedH.trans hW0 hW
  have hcl : s.vm.findClass cls = some ce.cls := by
    have h9 := hO.cls
    rw [hvm] at h9
    exact h9
  have hall : s.sameButNew ({ U with vm := s.vm } : State) locs mc ms := by
    subst hA
    obtain ⟨e1, e2⟩ := hsame
    rw [State.setFrames_setFrames] at e1
    have h2 : (T.setVm s.vm).sameButNew ({ U with vm := s.vm } : State) [] (0 + 1) (0 + 6) := ⟨e1, e2⟩
    have h3 := X.same.trans h2
    rw [List.append_nil] at h3
    exact h3.mono hc hs
  refine ⟨U, ?_, .threw T.heap.size, hrun, hend, Or.inr ⟨T.heap.size, rfl, cls, ce, locs, hx U hWs.alike f1 (fun q hq => f2 q hq (fun z hz => nomatch hz)), hce, hO.vm, hcl, hWs, hall, hf⟩⟩
  refine st1 _ ?_
  show Steps p.tables e below (T1.setTop { method := m, pc := pc + 3, locals := ls, stack := .ref T.heap.size :: rest, locked := none }) _
  jvm_step X₁.here [X₁.here.top, hexec, d3', Value.category]
  exact hsteps
/-- 'throw new E("text")': new; dup; ldc; invokespecial; athrow -/
theorem vx_throwS {cc : ByteArray} {pc : Nat} (hexec : p.tables.exec = Jvm.exec) (hb : c.code = cc) (hl : l.stackTraces = false) {own cls text : String} {names : List String} {ik is ic mc ms sa : Nat} {A : Nat → Prop}
    (hown : s.vm.findClass own = some m.cls) (hcls : Bundle.fit cls = true) (hnames : ∀ n ∈ names, Bundle.fit n = true)
    (hk : (Cond.classLink own ik cls).before args s = true) (hini : (Cond.initialized cls).before args s = true) (hstr : vk_R own is text sa s) (hat : ∀ w ∈ vx_atS own ic cls names, w.before args s = true)
    (hgood : ∀ w ∈ Cond.classLink own ik cls :: Cond.initialized cls :: vx_atS own ic cls names, vx_ot w = true)
    (hU : vx_Zq Bundle.tN "UNASSIGNED_STACK" Bundle.steD A s s.heap) (hN : vx_Zq Bundle.tN "SUPPRESSED_SENTINEL" Bundle.listD A s s.heap) (hS : va_S A s.heap H locs) (hsize : ls.size = c.maxLocals)
    (d0 : decode cc pc = .ok (.new ik, 3)) (d3 : decode cc (pc + 3) = .ok (.dup, 1)) (d4 : decode cc (pc + 4) = .ok (.ldc is, 2)) (d6 : decode cc (pc + 6) = .ok (.invokespecial ic, 3)) (d9 : decode cc (pc + 9) = .ok (.athrow, 1))
    (hout : ∀ x ∈ c.exceptionTable.toList, covers x (pc + 9) = false)
    (hRframes : names.length + 3 < R.frames) (hRlocals : (rest.map fun v => v.category).sum + (13 * (names.length + 1) + 43) ≤ R.locals) (hRcells : cells + 1 ≤ R.cells) (hRslots : slots + 6 ≤ R.slots) (hlocks : meth.locks = false)
    (hx : ∀ t : State, s.vm.Alike t.vm → H.size ≤ t.heap.size → (∀ q : Nat, q < H.size → t.heap[q]? = H[q]?) → XC cls s t)
    (hf : ∀ z ∈ locs, free z.base) (hc : cells + 1 ≤ mc) (hs : slots + 6 ≤ ms) :
    W p l e R s m args below meth c H locs cells slots (vx_MQ below Qc XC args s mc ms free) (F0 m pc ls rest) := by
  intro T hT X
  have htr : e.platform.stackTraces = false := (show e.platform.stackTraces = l.stackTraces by rw [X.admits.platform]).trans hl
  have Y := vx_rebase X (R' := { frames := R.frames, locals := R.locals, cells := 1, slots := 6 }) (Nat.le_refl _) (Nat.le_refl _) hRcells hRslots
  obtain ⟨s', hA⟩ : ∃ z, z = (T.setVm s.vm).setFrames (.invoking m args :: below) := ⟨_, rfl⟩
  rw [← hA] at Y
  have hvm : s'.vm = s.vm := by rw [hA]; rfl
  have hhp : s'.heap = H := by rw [hA]; exact hT
  have hW0 : s.WarmedH s'.vm := by rw [hvm]; exact State.WarmedH.refl s
  have hat' : ∀ w ∈ vx_atS own ic cls names, w.before args s' = true := fun w hw => vx_ot_at hW0 hvm.symm (hgood w (List.mem_cons_of_mem _ (List.mem_cons_of_mem _ hw))) (hat w hw)
  have hk' : (Cond.classLink own ik cls).before args s' = true := vx_ot_at hW0 hvm.symm (hgood _ List.mem_cons_self) hk
  have hini' : (Cond.initialized cls).before args s' = true := vx_ot_at hW0 hvm.symm (hgood _ (List.mem_cons_of_mem _ List.mem_cons_self)) hini
  have hU' : vx_Zq Bundle.tN "UNASSIGNED_STACK" Bundle.steD A s' s'.heap := by rw [hhp]; exact vx_Zq.moved hW0.alike (hU.kept hS.2.1)
  have hN' : vx_Zq Bundle.tN "SUPPRESSED_SENTINEL" Bundle.listD A s' s'.heap := by rw [hhp]; exact vx_Zq.moved hW0.alike (hN.kept hS.2.1)
  have h : ∀ w ∈ Bundle.ownAtoms own ic cls names, w.before args s' = true := vx_own hat' (vx_isRefq hU'.1) (vx_isRefq hN'.1) hU'.2.word hN'.2.word
  have hown' : s'.vm.findClass own = some m.cls := by rw [hvm]; exact hown
  have hins : (Cond.instantiable cls 6).before args s' = true := h _ (by simp [Bundle.ownAtoms])
  obtain ⟨vm₁, cX, kX, hfX, hkX, -, -, X₁, st1⟩ := Y.newCold hexec (own := own) (C := cls) (index := ik) (n := 6) hown' hk' hins hini'
    (g := F0 m pc ls rest) rfl (by rw [hb]; exact d0) (Nat.le_refl _) (Nat.le_refl _)
  generalize hT1 : (T.setVm vm₁).pushCell { cls := cX, slots := kX.instanceTypes.map defaultValue, vm := .none } = T1 at X₁ st1
  have hcat : (Value.ref T.heap.size).category = 1 := rfl
  have hcellA : T1.heap[T.heap.size]? = some (freshCell cX kX) := by rw [← hT1]; exact State.heap_pushCell_size _ _
  have d3' : decode c.code (pc + 3) = .ok (.dup, 1) := by rw [hb]; exact d3
  have d4' : decode c.code (pc + 4) = .ok (.ldc is, 2) := by rw [hb]; exact d4
  have hstr' : vk_R own is text sa s' := vk_R.warm hW0 hstr
  obtain ⟨U, hsteps, hrun, hend, hW, hsame, ce, hce, hO⟩ := X₁.ctorThrowS hexec htr (own := own) (cls := cls) (names := names) (ic := ic) hown' hcls hnames h (fun x hx => nomatch hx) hfX hkX hcellA (by rw [hhp, hT]; exact Nat.le_refl _) (msg := .ref sa) rfl
    (g := { method := m, pc := pc + 6, locals := ls, stack := .ref sa :: .ref T.heap.size :: .ref T.heap.size :: rest, locked := none }) rfl hsize rfl rfl (rest := rest) rfl
    (by rw [hb]; exact d6) (by rw [hb]; exact d9) hout hRframes (by simp only [List.map_cons, List.sum_cons, hcat]; omega) hlocks
  obtain ⟨f1, f2⟩ := vx_frame hsame
  rw [hhp] at f1 f2
  have hWs : s.WarmedH U.vm := State.WarmedH.trans hW0 hW
  have hcl : s.vm.findClass cls = some ce.cls := by
    have h9 := hO.cls
    rw [hvm] at h9
    exact h9
  have hall : s.sameButNew ({ U with vm := s.vm } : State) locs mc ms := by
    subst hA
    obtain ⟨e1, e2⟩ := hsame
    rw [State.setFrames_setFrames] at e1
    have h2 : (T.setVm s.vm).sameButNew ({ U with vm := s.vm } : State) [] (0 + 1) (0 + 6) := ⟨e1, e2⟩
    have h3 := X.same.trans h2
    rw [List.append_nil] at h3
    exact h3.mono hc hs
  refine ⟨U, ?_, .threw T.heap.size, hrun, hend, Or.inr ⟨T.heap.size, rfl, cls, ce, locs, hx U hWs.alike f1 (fun q hq => f2 q hq (fun z hz => nomatch hz)), hce, hO.vm, hcl, hWs, hall, hf⟩⟩
  refine st1 _ ?_
  show Steps p.tables e below (T1.setTop { method := m, pc := pc + 3, locals := ls, stack := .ref T.heap.size :: rest, locked := none }) _
  jvm_step X₁.here [X₁.here.top, hexec, d3', Value.category]
  exact X₁.ldcString hexec (own := own) (text := text) (index := is) (a := sa) hown' hstr'.1 hstr'.2
    (g := { method := m, pc := pc + 4, locals := ls, stack := .ref T.heap.size :: .ref T.heap.size :: rest, locked := none }) rfl d4' _ hsteps
/-- 'throw new E("text")', the text by a wide index -/
theorem vx_throwSW {cc : ByteArray} {pc : Nat} (hexec : p.tables.exec = Jvm.exec) (hb : c.code = cc) (hl : l.stackTraces = false) {own cls text : String} {names : List String} {ik is ic mc ms sa : Nat} {A : Nat → Prop}
    (hown : s.vm.findClass own = some m.cls) (hcls : Bundle.fit cls = true) (hnames : ∀ n ∈ names, Bundle.fit n = true)
    (hk : (Cond.classLink own ik cls).before args s = true) (hini : (Cond.initialized cls).before args s = true) (hstr : vk_R own is text sa s) (hat : ∀ w ∈ vx_atS own ic cls names, w.before args s = true)
    (hgood : ∀ w ∈ Cond.classLink own ik cls :: Cond.initialized cls :: vx_atS own ic cls names, vx_ot w = true)
    (hU : vx_Zq Bundle.tN "UNASSIGNED_STACK" Bundle.steD A s s.heap) (hN : vx_Zq Bundle.tN "SUPPRESSED_SENTINEL" Bundle.listD A s s.heap) (hS : va_S A s.heap H locs) (hsize : ls.size = c.maxLocals)
    (d0 : decode cc pc = .ok (.new ik, 3)) (d3 : decode cc (pc + 3) = .ok (.dup, 1)) (d4 : decode cc (pc + 4) = .ok (.ldc_w is, 3)) (d7 : decode cc (pc + 7) = .ok (.invokespecial ic, 3)) (d10 : decode cc (pc + 10) = .ok (.athrow, 1))
    (hout : ∀ x ∈ c.exceptionTable.toList, covers x (pc + 10) = false)
    (hRframes : names.length + 3 < R.frames) (hRlocals : (rest.map fun v => v.category).sum + (13 * (names.length + 1) + 43) ≤ R.locals) (hRcells : cells + 1 ≤ R.cells) (hRslots : slots + 6 ≤ R.slots) (hlocks : meth.locks = false)
    (hx : ∀ t : State, s.vm.Alike t.vm → H.size ≤ t.heap.size → (∀ q : Nat, q < H.size → t.heap[q]? = H[q]?) → XC cls s t)
    (hf : ∀ z ∈ locs, free z.base) (hc : cells + 1 ≤ mc) (hs : slots + 6 ≤ ms) :
    W p l e R s m args below meth c H locs cells slots (vx_MQ below Qc XC args s mc ms free) (F0 m pc ls rest) := by
  intro T hT X
  have htr : e.platform.stackTraces = false := (show e.platform.stackTraces = l.stackTraces by rw [X.admits.platform]).trans hl
  have Y := vx_rebase X (R' := { frames := R.frames, locals := R.locals, cells := 1, slots := 6 }) (Nat.le_refl _) (Nat.le_refl _) hRcells hRslots
  obtain ⟨s', hA⟩ : ∃ z, z = (T.setVm s.vm).setFrames (.invoking m args :: below) := ⟨_, rfl⟩
  rw [← hA] at Y
  have hvm : s'.vm = s.vm := by rw [hA]; rfl
  have hhp : s'.heap = H := by rw [hA]; exact hT
  have hW0 : s.WarmedH s'.vm := by rw [hvm]; exact State.WarmedH.refl s
  have hat' : ∀ w ∈ vx_atS own ic cls names, w.before args s' = true := fun w hw => vx_ot_at hW0 hvm.symm (hgood w (List.mem_cons_of_mem _ (List.mem_cons_of_mem _ hw))) (hat w hw)
  have hk' : (Cond.classLink own ik cls).before args s' = true := vx_ot_at hW0 hvm.symm (hgood _ List.mem_cons_self) hk
  have hini' : (Cond.initialized cls).before args s' = true := vx_ot_at hW0 hvm.symm (hgood _ (List.mem_cons_of_mem _ List.mem_cons_self)) hini
  have hU' : vx_Zq Bundle.tN "UNASSIGNED_STACK" Bundle.steD A s' s'.heap := by rw [hhp]; exact vx_Zq.moved hW0.alike (hU.kept hS.2.1)
  have hN' : vx_Zq Bundle.tN "SUPPRESSED_SENTINEL" Bundle.listD A s' s'.heap := by rw [hhp]; exact vx_Zq.moved hW0.alike (hN.kept hS.2.1)
  have h : ∀ w ∈ Bundle.ownAtoms own ic cls names, w.before args s' = true := vx_own hat' (vx_isRefq hU'.1) (vx_isRefq hN'.1) hU'.2.word hN'.2.word
  have hown' : s'.vm.findClass own = some m.cls := by rw [hvm]; exact hown
  have hins : (Cond.instantiable cls 6).before args s' = true := h _ (by simp [Bundle.ownAtoms])
  obtain ⟨vm₁, cX, kX, hfX, hkX, -, -, X₁, st1⟩ := Y.newCold hexec (own := own) (C := cls) (index := ik) (n := 6) hown' hk' hins hini'
    (g := F0 m pc ls rest) rfl (by rw [hb]; exact d0) (Nat.le_refl _) (Nat.le_refl _)
  generalize hT1 : (T.setVm vm₁).pushCell { cls := cX, slots := kX.instanceTypes.map defaultValue, vm := .none } = T1 at X₁ st1
  have hcat : (Value.ref T.heap.size).category = 1 := rfl
  have hcellA : T1.heap[T.heap.size]? = some (freshCell cX kX) := by rw [← hT1]; exact State.heap_pushCell_size _ _
  have d3' : decode c.code (pc + 3) = .ok (.dup, 1) := by rw [hb]; exact d3
  have d4' : decode c.code (pc + 4) = .ok (.ldc_w is, 3) := by rw [hb]; exact d4
  have hstr' : vk_R own is text sa s' := vk_R.warm hW0 hstr
  obtain ⟨U, hsteps, hrun, hend, hW, hsame, ce, hce, hO⟩ := X₁.ctorThrowS hexec htr (own := own) (cls := cls) (names := names) (ic := ic) hown' hcls hnames h (fun x hx => nomatch hx) hfX hkX hcellA (by rw [hhp, hT]; exact Nat.le_refl _) (msg := .ref sa) rfl
    (g := { method := m, pc := pc + 7, locals := ls, stack := .ref sa :: .ref T.heap.size :: .ref T.heap.size :: rest, locked := none }) rfl hsize rfl rfl (rest := rest) rfl
    (by rw [hb]; exact d7) (by rw [hb]; exact d10) hout hRframes (by simp only [List.map_cons, List.sum_cons, hcat]; omega) hlocks
  obtain ⟨f1, f2⟩ := vx_frame hsame
  rw [hhp] at f1 f2
  have hWs : s.WarmedH U.vm := State.WarmedH.trans hW0 hW
  have hcl : s.vm.findClass cls = some ce.cls := by
    have h9 := hO.cls
    rw [hvm] at h9
    exact h9
  have hall : s.sameButNew ({ U with vm := s.vm } : State) locs mc ms := by
    subst hA
    obtain ⟨e1, e2⟩ := hsame
    rw [State.setFrames_setFrames] at e1
    have h2 : (T.setVm s.vm).sameButNew ({ U with vm := s.vm } : State) [] (0 + 1) (0 + 6) := ⟨e1, e2⟩
    have h3 := X.same.trans h2
    rw [List.append_nil] at h3
    exact h3.mono hc hs
  refine ⟨U, ?_, .threw T.heap.size, hrun, hend, Or.inr ⟨T.heap.size, rfl, cls, ce, locs, hx U hWs.alike f1 (fun q hq => f2 q hq (fun z hz => nomatch hz)), hce, hO.vm, hcl, hWs, hall, hf⟩⟩
  refine st1 _ ?_
  show Steps p.tables e below (T1.setTop { method := m, pc := pc + 3, locals := ls, stack := .ref T.heap.size :: rest, locked := none }) _
  jvm_step X₁.here [X₁.here.top, hexec, d3', Value.category]
  exact X₁.ldcStringW hexec (own := own) (text := text) (index := is) (a := sa) hown' hstr'.1 hstr'.2
    (g := { method := m, pc := pc + 4, locals := ls, stack := .ref T.heap.size :: .ref T.heap.size :: rest, locked := none }) rfl d4' _ hsteps
end Ends
section Bodies
variable {l : Launch}
theorem vx_ofW {y : MethodName} {ws ws' : List Cond} {rm : Room} {Pc : Array Value → State → Prop} {Qc : Array Value → State → Outcome → State → Prop} {XC : String → State → State → Prop} {mc ms : Nat} {free : Addr → Prop} {cc : ByteArray} {maxL : Nat} {ret : Option FieldType}
    (hy : plainName y.cls = true) (hw : ws = Cond.code y cc maxL ret :: ws')
    (body : ∀ p e s m args below meth c s₁, BodyLoose p l y (headSpec ws rm) cc maxL ret e s m args below meth c s₁ → c.maxLocals = maxL → (∀ x ∈ c.exceptionTable.toList, False) → Pc args s →
      W p l e (headSpec ws rm).room s m args below meth c s.heap [] 0 0 (vx_MQ below Qc XC args s mc ms free) (entryFrame m args maxL)) : vx_Met l y ws rm Pc Qc XC mc ms free := by
  refine MetFree.of_bodyS (code := cc) (maxLocals := maxL) (ret := ret) hy ?_ ?_
  · intro args s m h hn
    obtain ⟨meth, c, h1, h2, h3, h4, h5, h6, -, -⟩ := Cond.code_spec hn (atoms_spec (ws := ws) h _ (by rw [hw]; exact List.mem_cons_self))
    exact ⟨meth, c, h1, h2, h3, h4, h5, h6⟩
  · intro p e s m args below meth c s₁ B hml hP _
    have hh0 : s₁.heap = s.heap := by rw [B.state]; rfl
    have ht : ∀ x ∈ c.exceptionTable.toList, False := by
      obtain ⟨meth9, c9, h1, h2, -, -, -, -, h7, -⟩ := Cond.code_spec B.named (atoms_spec (ws := ws) B.pre _ (by rw [hw]; exact List.mem_cons_self))
      cases Option.some.inj (h1.symm.trans B.method)
      cases Option.some.inj (h2.symm.trans (Stand.of_body B).code)
      intro x hx
      rw [Array.isEmpty_iff.mp h7] at hx
      cases hx
    obtain ⟨t, a1, o, b1, b2, b3⟩ := body p e s m args below meth c s₁ B hml ht hP s₁ hh0 (Stand.of_body B)
    exact ⟨t, o, a1, b1, b2, b3⟩
/-- the table of a body with handlers -/
theorem vx_table {p : Program} {x y : MethodName} {S : Spec} {cc bytes : ByteArray} {maxL maxL' : Nat} {ret ret' : Option FieldType} {e : Env} {s s₁ : State} {m : MethodId} {args : Array Value} {below : List Frame} {meth : Method} {c : Code} {hh : List (Nat × Nat × Nat × Nat)}
    (B : BodyLoose p l y S cc maxL ret e s m args below meth c s₁) (h : (Cond.codeWith y bytes maxL' ret' hh).before args s = true) : c.exceptionTable.toList = tableOf hh := by
  obtain ⟨m9, meth9, c9, hn9, h1, h2, -, -, h6, -⟩ := Cond.codeWith_spec h
  cases Option.some.inj (hn9.symm.trans B.named)
  cases Option.some.inj (h1.symm.trans B.method)
  cases Option.some.inj (h2.symm.trans (Stand.of_body B).code)
  rw [← h6, table_eq]
end Bodies
end VXA
/-! ===== END ===== -/
/-! ===== BEGIN a static call of a method with an exception table ===== -/
section VXS
variable {p : Program} {l : Launch} {e : Env} {R : Room} {s : State} {m : MethodId} {args : Array Value} {below : List Frame} {meth : Method} {c : Code} {T : State} {H : Heap} {locs : List Loc} {cells slots : Nat}
abbrev vx_CSW (R : Room) (s : State) (args : Array Value) (own : String) (index : Nat) (y : MethodName) (bytes : ByteArray) (maxL : Nat) (ret : Option FieldType) (hh : List (Nat × Nat × Nat × Nat)) (ws : List Cond) (rm : Room) (mc ms n : Nat) : Prop :=
  (rm.cells = mc ∧ rm.slots = ms ∧ rm.frames + 1 ≤ R.frames ∧ 8 + (maxL + 11) + rm.locals ≤ R.locals ∧ (∀ w ∈ ws, ∀ (a' : Array Value) (U : State), s.WarmedH U.vm → w.before a' U = true) ∧ Cond.codeWith y bytes maxL ret hh ∈ ws) ∧
  (Cond.codeWith y bytes maxL ret hh).before args s = true ∧ (Cond.initialized y.cls).before args s = true ∧ (y.cls ≠ "java/lang/invoke/MethodHandle" ∧ y.cls ≠ "java/lang/invoke/VarHandle") ∧
  (∀ sig, parseMethodDescriptor y.desc = some sig → n = sig.parameters.length) ∧ (Cond.methodLink own index y).before args s = true ∧ (Cond.static y).before args s = true
theorem vx_cwSW {own : String} {index maxL mc ms : Nat} {y : MethodName} {bytes : ByteArray} {ret : Option FieldType} {hh : List (Nat × Nat × Nat × Nat)} {Ts ws ws' : List Cond} {rm : Room} (n : Nat) (ht : ∀ w ∈ Ts, w.before args s = true) (hT : GoodIn Ts (va_wsS own index y ws)) (hw : ws = Cond.codeWith y bytes maxL ret hh :: ws') (hrc : rm.cells = mc) (hrs : rm.slots = ms)
    (hd : y.cls ≠ "java/lang/invoke/MethodHandle" ∧ y.cls ≠ "java/lang/invoke/VarHandle" ∧ (parseMethodDescriptor y.desc).map (fun d => d.parameters.length) = some n) (hR : rm.frames + 1 ≤ R.frames ∧ 8 + (maxL + 11) + rm.locals ≤ R.locals) :
    vx_CSW R s args own index y bytes maxL ret hh ws rm mc ms n := by
  have ok : ∀ w ∈ va_wsS own index y ws, w.before args s = true := fun w h => ht w (hT w h).1
  have hG : GoodIn Ts ws := fun w h => hT w (by unfold va_wsS; exact List.mem_append_right _ h)
  have hc : Cond.codeWith y bytes maxL ret hh ∈ ws := by rw [hw]; exact List.mem_cons_self
  refine ⟨⟨hrc, hrs, hR.1, hR.2, pay_in ht hG, hc⟩, ht _ (hG _ hc).1, ok _ (by simp [va_wsS]), ⟨hd.1, hd.2.1⟩, fun sig h => ?_, ok _ (by simp [va_wsS]), ok _ (by simp [va_wsS])⟩
  have h2 := hd.2.2
  rw [h] at h2
  exact (Option.some.inj h2).symm
theorem vx_callSW (X : Stand p l e R s m args below meth c T locs cells slots) (hexec : p.tables.exec = Jvm.exec) {own : String} {index : Nat} {y : MethodName} {bytes : ByteArray} {maxL : Nat} {ret : Option FieldType} {hh : List (Nat × Nat × Nat × Nat)}
    (hown : s.vm.findClass own = some m.cls) (hlink : (Cond.methodLink own index y).before args s = true) (hstat : (Cond.static y).before args s = true) (hinit : (Cond.initialized y.cls).before args s = true)
    (hcode : (Cond.codeWith y bytes maxL ret hh).before args s = true) (hy : y.cls ≠ "java/lang/invoke/MethodHandle" ∧ y.cls ≠ "java/lang/invoke/VarHandle")
    {W9 : Nat} {Pre : Pt → Array Value → Prop} {Post : Pt → Array Value → Option Value → Pt → Prop} (hK : Back l R p e below s args y 3 W9 Pre Post)
    {g : JFrame} (hg : g.method = m) (hsize : g.locals.size = c.maxLocals) {argsL rest : List Value} (hlen : ∀ sig, parseMethodDescriptor y.desc = some sig → argsL.length = sig.parameters.length)
    (hstack : g.stack = argsL.reverse ++ rest) (hW : 2 * g.monitorRoom + (rest.map fun v => v.category).sum ≤ W9) (hdg : decode c.code g.pc = .ok (.invokestatic index, 3))
    (hpre : ∀ vm₁, s.WarmedH vm₁ → Pre ⟨T.setVm vm₁, locs, cells, slots⟩ argsL.toArray) :
    ∃ (v : Option Value) (vm₁ : Vm) (B : Pt), s.WarmedH vm₁ ∧ Stand p l e R s m args below meth c B.U B.locs B.cells B.slots ∧ Post ⟨T.setVm vm₁, locs, cells, slots⟩ argsL.toArray v B ∧
      ∀ target, Steps p.tables e below (B.U.setTop { g with pc := g.pc + 3, stack := v.toList ++ rest }) target → Steps p.tables e below (T.setTop g) target := by
  obtain ⟨mk, methM, cM, hnamed, hmethM, -, -, -, -, -, -, hsigM⟩ := Cond.codeWith_spec hcode
  have hstatic : methM.isStatic = true := Cond.static_spec hnamed hmethM hstat
  obtain ⟨kP, hkP, -⟩ := className_of_methodNamed hnamed
  have hinitP : kP.init = .initialized := Cond.initialized_spec (findClass_of_methodNamed hnamed) hkP hinit
  obtain ⟨vm₁, X₁, hstep₁⟩ := X.invokestatic hexec hown hlink hnamed hmethM hstatic hkP hinitP hy (g := g) hg (argsL := argsL) (rest := rest) (hlen _ hsigM) hstack hdg
  obtain ⟨v, B, X', hpost, hsteps⟩ := hK m meth c ⟨T.setVm vm₁, locs, cells, slots⟩ { g with stack := rest } (.invokestatic index) mk argsL.toArray X₁ hg hsize hdg hW (X₁.named hnamed) (hpre vm₁ X₁.warmed)
  exact ⟨v, vm₁, B, X₁.warmed, X', hpost, fun target h => hstep₁ _ fun acts => by rw [doInvoke_state]; exact hsteps.trans h⟩
theorem vx_runSW {y : MethodName} {bytes cc : ByteArray} {maxL nL mc ms n index : Nat} {ret : Option FieldType} {hh : List (Nat × Nat × Nat × Nat)} {ws : List Cond} {rm : Room} {Pc : Array Value → State → Prop} {Qc : Array Value → State → Outcome → State → Prop} {free : Addr → Prop} {Ts : List Cond} {own : String} {As rest : List Value} {g : JFrame}
    (S : CallFix p m c cc nL s args Ts own) (hM : Met l y ws rm Pc Qc mc ms free) (cw : vx_CSW R s args own index y bytes maxL ret hh ws rm mc ms n) (hp : PreS s H Pc As)
    (hg : g.method = m) (hn : As.length = n) (hsize : g.locals.size = nL) (hstack : g.stack = As.reverse ++ rest) (hW : 2 * g.monitorRoom + (rest.map fun v => v.category).sum ≤ 8) (hdg : decode cc g.pc = .ok (.invokestatic index, 3)) (hf : cells + mc ≤ R.cells ∧ slots + ms ≤ R.slots) :
    va_Run p l e R s m args below meth c H locs cells slots mc ms g rest (Qc As.toArray) (free) := by
  obtain ⟨⟨hrc, hrs, hfr, hlo, hws, hcw⟩, hcode, hini, hy, hlen, hl, hstt⟩ := cw
  have hK : Back l R p e below s args y 3 8 (PreOf R mc ms Pc) (PostOf Qc mc ms free) := va_backW (hh := hh) (bytes := bytes) (maxL := maxL) (ret := ret) hM hp.1 hrc hrs hfr hlo hws hcw (fun a' U hW => word_at hW (Or.inl (by first | rfl | simp [Cond.onTables, Cond.keeps, Cond.steady])) hini)
  obtain ⟨hx, hb, hml, ho, -⟩ := S
  intro T hT X
  obtain ⟨v, vm₁, ⟨U', l2, c2, s2⟩, hW₁, X', ⟨g', mk, t, L, e1, e2, hq, h1, hL, h2, h3⟩, st⟩ := vx_callSW X hx (hh := hh) (bytes := bytes) (maxL := maxL) (ret := ret) ho hl hstt hini hcode hy hK hg (hsize.trans hml.symm) (argsL := As) (rest := rest) (fun sig h => hn.trans (hlen sig h)) hstack hW (by rw [hb]; exact hdg)
    (fun vm₁ hW₁ => ⟨hf.1, hf.2, hp.2 (T.setVm vm₁) hT hW₁⟩)
  dsimp only [Pt.U, Pt.locs, Pt.cells, Pt.slots] at X' e1 e2 h1 h2 h3 st
  subst h1; subst h2; subst h3
  exact ⟨v, (T.setVm vm₁).calling g' mk As.toArray, t, U', L, hT, X', hL, e1, e2, hq, st⟩
/-- not caught here, past rows that name other classes: it goes on to the caller -/
theorem vx_outP {p : Program} {l : Launch} {e : Env} {R : Room} {s : State} {m : MethodId} {args : Array Value} {below : List Frame} {meth : Method} {c : Code} {H : Heap} {locs : List Loc} {cells slots : Nat} {free : Addr → Prop} {ls : Array Slot} {rest : List Value} {Qc : Array Value → State → Outcome → State → Prop} {XC : String → State → State → Prop}
    {pc : Nat} {own E : String} {ce : Cell} {q : Addr} {mc ms : Nat} (hown : s.vm.findClass own = some m.cls) (hlocks : meth.locks = false)
    (hpass : ∀ z ∈ c.exceptionTable.toList, covers z pc = false ∨ (z.catchType ≠ 0 ∧ ∃ nm : String, (Cond.classLink own z.catchType nm).before args s = true ∧ va_Nc E nm s)) (hcell : H[q]? = some ce) (hv : ce.vm = .none) (hcl : s.vm.findClass E = some ce.cls)
    (hx : ∀ t : State, t.heap = H → s.vm.Alike t.vm → XC E s t) (hf : ∀ z ∈ locs, free z.base) (hc : cells ≤ mc) (hs : slots ≤ ms) :
    vx_W p l e R s m args below meth c H locs cells slots (vx_MQ below Qc XC args s mc ms free) (F0 m pc ls rest) q := by
  intro T hT X
  have hpl : e.platform.magicAccessors = ({} : Platform).magicAccessors := by rw [X.admits.platform]
  obtain ⟨vm', hW', X', st⟩ := X.outThrough hlocks q (g := F0 m pc ls rest) rfl rfl rfl (cell := ce) (by rw [hT]; exact hcell) (by rw [hv]; rfl)
    (by obtain ⟨k9, h9, -⟩ := Vm.findClass_spec hcl; exact ⟨k9, h9⟩) (fun z hz => by
      rcases hpass z hz with h | ⟨hz0, nm, hl1, hn1⟩
      · exact Or.inl h
      · obtain ⟨c6, hc6, hcl6⟩ := Cond.classLink_spec hown hl1 e.platform hpl
        obtain ⟨a8, b8, h1, h2, h3⟩ := hn1
        cases Option.some.inj (h1.symm.trans hcl)
        cases Option.some.inj (h2.symm.trans hc6)
        exact Or.inr ⟨hz0, _, hcl6, h3⟩)
  obtain ⟨g₀, hfr⟩ := X'.frames_eq
  have hcell9 : ((T.setVm vm').setFrames (.throwing q :: below)).heap[q]? = some ce := by
    show T.heap[q]? = some ce
    rw [hT]; exact hcell
  have hend : Ended ((T.setVm vm').setFrames (.throwing q :: below)) below (.threw q) := State.frames_setFrames _ (State.cur_lt_of_frames hfr)
  refine ⟨(T.setVm vm').setFrames (.throwing q :: below), ?_, .threw q, X'.here.running, hend, Or.inr ⟨q, rfl, E, ce, locs, hx _ hT (X'.ends _).1.alike, hcell9, hv, hcl, (X'.ends _).1, (X'.ends _).2.mono hc hs, hf⟩⟩
  rw [X.pushThrowing_eq]
  exact st
/-- a thing of a world lies in the heap -/
theorem vx_lt {D : va_G} {cl : List vw_C} {ws : va_W} {H1 : Heap} (h : va_P D cl ws H1) {k : Nat} {q : Nat × va_E} (hk : ws[k]? = some q) : q.1 < H1.size := (h k q hk).lt
end VXS
/-! ===== END ===== -/
/-! ===== BEGIN methods with a table of their own: called by a name, returning or throwing ===== -/
section VXH
/-! vx_backW, vx_callVX, vx_callSX, vx_callVW, vx_runVW, vx_runVX, vx_runSX, vx_ofWH follow the same proofs as their sisters above (Free/Laws.lean, Shelf42/LK1.lean); vx_outP calls Shelf42/NT130.lean (outThrough). -/
section
variable {l : Launch} {R : Room} {p : Program} {e : Env} {below : List Frame} {s : State} {sargs : Array Value} {y : MethodName} {len W9 : Nat}
theorem vx_backW {ws : List Cond} {rm : Room} {Pc : Array Value → State → Prop} {Qc : Array Value → State → Outcome → State → Prop} {XC : String → State → State → Prop} {mc ms : Nat} {free : Addr → Prop} {bytes : ByteArray} {maxL : Nat} {ret : Option FieldType} {hh : List (Nat × Nat × Nat × Nat)}
    (hM : vx_Met l y ws rm Pc Qc XC mc ms free) (hblind : FrameBlind Pc) (hrc : rm.cells = mc) (hrs : rm.slots = ms)
    (hframes : rm.frames + 1 ≤ R.frames) (hlocals : W9 + (maxL + 11) + rm.locals ≤ R.locals)
    (hws : ∀ w ∈ ws, ∀ a' U, s.WarmedH U.vm → w.before a' U = true) (hcode : Cond.codeWith y bytes maxL ret hh ∈ ws) (hinit : ∀ a' U, s.WarmedH U.vm → (Cond.initialized y.cls).before a' U = true) :
    vx_Back l R p e below s sargs y len W9 (PreOf R mc ms Pc) (PostOf Qc mc ms free) (vx_Post XC mc ms free) := by
  intro m meth c A g ig mk a X hg hsize hdg hW hn hp
  have h1 : (headSpec ws rm).pre.before a A.U = true := atoms_intro fun w hw => hws w hw _ _ X.warmed
  have h2 : (Cond.codeWith y bytes maxL ret hh).before a A.U = true := hws _ hcode _ _ X.warmed
  have h3 : (Cond.initialized y.cls).before a A.U = true := hinit _ _ X.warmed
  have h4 : A.cells + (headSpec ws rm).room.cells ≤ R.cells := by rw [show (headSpec ws rm).room.cells = mc from hrc]; exact hp.1
  have h5 : A.slots + (headSpec ws rm).room.slots ≤ R.slots := by rw [show (headSpec ws rm).room.slots = ms from hrs]; exact hp.2.1
  have hPc : Pc a (A.U.calling g mk a) := hblind _ _ _ _ hp.2.2
  obtain ⟨U, Ls, c0, s0⟩ := A
  dsimp only [Pt.U, Pt.locs, Pt.cells, Pt.slots] at h1 h2 h3 h4 h5 X hn hPc ⊢
  obtain ⟨m9, methY, cY, hn9, hmY, hcY, -, hlY, -⟩ := Cond.codeWith_spec h2
  cases Option.some.inj (hn9.symm.trans hn)
  obtain ⟨kY, hkY, -⟩ := className_of_methodNamed hn
  have hinitY : kY.init = .initialized := Cond.initialized_spec (findClass_of_methodNamed hn) hkY h3
  have h : At U g.method c below := by rw [hg]; exact X.here
  have hlocals9 : W9 + (maxL + 11) + (headSpec ws rm).room.locals ≤ R.locals := hlocals
  have happ : (headSpec ws rm).appliesLoose y e.platform (U.calling g mk a) = true :=
    Spec.appliesLoose_calling (g := g) h hdg hn hkY hinitY
      (X.room_calling (g := g) (R' := (headSpec ws rm).room) hsize hmY hcY hframes (by rw [hlY]; omega) h4 h5) h1
  obtain ⟨mid, hmid⟩ := h.above
  have hfr : (U.setTop g).frames = (.java g :: mid) ++ below := by rw [State.frames_setTop' g h.top, hmid]; rfl
  obtain ⟨o, s₂, hsteps, -, hend, hq⟩ := Steps.callFree hM p X.admits X.cas X.clock (acts := []) hfr happ hPc trivial
  have hq' : vx_Q Qc XC mc ms free a (U.calling g mk a) o s₂ := hq
  rw [State.frames_setTop' g h.top] at hend
  obtain ⟨g₀, hg0⟩ := Option.isSome_iff_exists.mp h.top
  obtain ⟨r, hr⟩ := State.topJava?_eq_some.mp hg0
  have hr' : (({ U with heap := s₂.heap, slotsUsed := s₂.slotsUsed } : State).setVm s₂.vm).frames = .java g₀ :: r := hr
  rcases hq' with ⟨hqc, L, hfe, hL⟩ | ⟨q, rfl, E, ce, L, hx, hce, hcv, hcl, hW₂, hsm, hL⟩
  · obtain ⟨⟨v, rfl⟩, hW₂, e2, q2, q3, q4, q5, q6⟩ := id hfe
    have e3 : s₂ = ({ (U.calling g mk a).setFrames s₂.frames with heap := s₂.heap, slotsUsed := s₂.slotsUsed } : State).setVm s₂.vm := by
      have : s₂ = ({ s₂ with vm := (U.calling g mk a).vm } : State).setVm s₂.vm := rfl
      rw [e2] at this
      exact this
    obtain ⟨c₂, i₂, len₂, hc₂, hd₂, hf₂⟩ := hend
    have hW' : U.WarmedH s₂.vm := hW₂
    have hcc : c₂ = c := by
      have h1 : s₂.code? g.method = U.code? g.method := by
        rw [State.code?_eq, State.code?_eq, hW'.alike.method?]
      exact Option.some.inj (hc₂.symm.trans (h1.trans h.code))
    subst hcc
    have hlen : len₂ = len := by rw [hdg] at hd₂; cases hd₂; rfl
    subst hlen
    have hs₂ : s₂ = (({ U with heap := s₂.heap, slotsUsed := s₂.slotsUsed } : State).setVm s₂.vm).setTop { g with pc := g.pc + len₂, stack := v.toList ++ g.stack } := by
      refine e3.trans ?_
      rw [hf₂, State.calling_eq h.top, State.setFrames_setFrames, State.setTop_of_frames _ hr', hr]
      rfl
    have hsame : U.sameButNew ({ U with heap := s₂.heap, slotsUsed := s₂.slotsUsed } : State) L mc ms := by
      refine ⟨?_, q2, q3, q4, q5, q6⟩
      obtain ⟨t, ht, -⟩ := State.frames_cons hr
      show ({ U with heap := s₂.heap, slotsUsed := s₂.slotsUsed } : State) = { U.setFrames U.frames with heap := s₂.heap, slotsUsed := s₂.slotsUsed }
      rw [State.setFrames_self ht]
    subst hg
    refine Or.inl ⟨v, ⟨(({ U with heap := s₂.heap, slotsUsed := s₂.slotsUsed } : State).setVm s₂.vm), Ls ++ L, c0 + mc, s0 + ms⟩,
      ⟨X.admits, X.cas, X.clock, X.frames, X.room, X.hears, X.method, X.code, (X.here.setHeapUsed s₂.heap s₂.slotsUsed).setVm hW'.alike, X.tail, State.WarmedH.trans X.warmed hW', X.limits, X.bytes, X.same.trans (hsame.setVm s.vm)⟩,
      ⟨g, mk, s₂, L, rfl, rfl, hqc, rfl, hL, rfl, rfl⟩, ?_⟩
    show Steps p.tables e below _ ((({ U with heap := s₂.heap, slotsUsed := s₂.slotsUsed } : State).setVm s₂.vm).setTop { g with pc := g.pc + len₂, stack := v.toList ++ g.stack })
    rw [← hs₂]
    exact hsteps
  · obtain ⟨e2, q2, q3, q4, q5, q6⟩ := id hsm
    have e3 : s₂ = ({ (U.calling g mk a).setFrames s₂.frames with heap := s₂.heap, slotsUsed := s₂.slotsUsed } : State).setVm s₂.vm := by
      have : s₂ = ({ s₂ with vm := (U.calling g mk a).vm } : State).setVm s₂.vm := rfl
      rw [e2] at this
      exact this
    have hf₂ : s₂.frames = .throwing q :: .java g :: U.frames.tail := hend
    have hW' : U.WarmedH s₂.vm := hW₂
    have hs₂ : s₂ = ((({ U with heap := s₂.heap, slotsUsed := s₂.slotsUsed } : State).setVm s₂.vm).setTop g).pushFrame (.throwing q) := by
      refine e3.trans ?_
      rw [hf₂, State.calling_eq h.top, State.setFrames_setFrames, State.pushFrame, State.frames_setTop _ hr', State.setTop_of_frames _ hr', State.setFrames_setFrames, hr]
      rfl
    have hsame : U.sameButNew ({ U with heap := s₂.heap, slotsUsed := s₂.slotsUsed } : State) L mc ms := by
      refine ⟨?_, q2, q3, q4, q5, q6⟩
      obtain ⟨t, ht, -⟩ := State.frames_cons hr
      show ({ U with heap := s₂.heap, slotsUsed := s₂.slotsUsed } : State) = { U.setFrames U.frames with heap := s₂.heap, slotsUsed := s₂.slotsUsed }
      rw [State.setFrames_self ht]
    subst hg
    refine Or.inr ⟨q, ⟨(({ U with heap := s₂.heap, slotsUsed := s₂.slotsUsed } : State).setVm s₂.vm), Ls ++ L, c0 + mc, s0 + ms⟩,
      ⟨X.admits, X.cas, X.clock, X.frames, X.room, X.hears, X.method, X.code, (X.here.setHeapUsed s₂.heap s₂.slotsUsed).setVm hW'.alike, X.tail, State.WarmedH.trans X.warmed hW', X.limits, X.bytes, X.same.trans (hsame.setVm s.vm)⟩,
      ⟨g, mk, s₂, L, E, ce, rfl, rfl, hx, hce, hcv, hcl, rfl, hL, rfl, rfl⟩, ?_⟩
    show Steps p.tables e below _ (((({ U with heap := s₂.heap, slotsUsed := s₂.slotsUsed } : State).setVm s₂.vm).setTop g).pushFrame (.throwing q))
    rw [← hs₂]
    exact hsteps
end
variable {p : Program} {l : Launch} {e : Env} {R : Room} {s : State} {m : MethodId} {args : Array Value} {below : List Frame} {meth : Method} {c : Code} {T : State} {H : Heap} {locs : List Loc} {cells slots : Nat}
theorem vx_callVX (X : Stand p l e R s m args below meth c T locs cells slots) (hexec : p.tables.exec = Jvm.exec) {own C : String} {index : Nat} {y : MethodName} {bytes : ByteArray} {maxL : Nat} {ret : Option FieldType} {hh : List (Nat × Nat × Nat × Nat)}
    (hown : s.vm.findClass own = some m.cls) (hlink : (Cond.methodLink own index y).before args s = true) (hinst : (Cond.instanceMethod y).before args s = true) (hsel : (Cond.selects C y y).before args s = true)
    (hcode : (Cond.codeWith y bytes maxL ret hh).before args s = true) (hy : y.cls ≠ "java/lang/invoke/MethodHandle" ∧ y.cls ≠ "java/lang/invoke/VarHandle")
    {W9 : Nat} {Pre : Pt → Array Value → Prop} {Post : Pt → Array Value → Option Value → Pt → Prop} {PostX : Pt → Array Value → Addr → Pt → Prop} (hK : vx_Back l R p e below s args y 3 W9 Pre Post PostX)
    {b : Addr} {cellB : Cell} (hcell : T.heap[b]? = some cellB) (hobj : cellB.vm.isStatics = false) (hcls : s.vm.findClass C = some cellB.cls)
    {g : JFrame} (hg : g.method = m) (hsize : g.locals.size = c.maxLocals) {argsL rest : List Value} (hlen : ∀ sig, parseMethodDescriptor y.desc = some sig → argsL.length = sig.parameters.length)
    (hstack : g.stack = argsL.reverse ++ .ref b :: rest) (hW : 2 * g.monitorRoom + (rest.map fun v => v.category).sum ≤ W9) (hdg : decode c.code g.pc = .ok (.invokevirtual index, 3))
    (hpre : ∀ vm₁, s.WarmedH vm₁ → Pre ⟨T.setVm vm₁, locs, cells, slots⟩ (Value.ref b :: argsL).toArray) :
    (∃ (v : Option Value) (vm₁ : Vm) (B : Pt), s.WarmedH vm₁ ∧ Stand p l e R s m args below meth c B.U B.locs B.cells B.slots ∧ Post ⟨T.setVm vm₁, locs, cells, slots⟩ (Value.ref b :: argsL).toArray v B ∧
      ∀ target, Steps p.tables e below (B.U.setTop { g with pc := g.pc + 3, stack := v.toList ++ rest }) target → Steps p.tables e below (T.setTop g) target) ∨
    (∃ (q : Addr) (vm₁ : Vm) (B : Pt), s.WarmedH vm₁ ∧ Stand p l e R s m args below meth c B.U B.locs B.cells B.slots ∧ PostX ⟨T.setVm vm₁, locs, cells, slots⟩ (Value.ref b :: argsL).toArray q B ∧
      Steps p.tables e below (T.setTop g) ((B.U.setTop { g with stack := rest }).pushFrame (.throwing q))) := by
  obtain ⟨mk, methM, hnamed, hmethM, hstM, habM⟩ := Cond.instanceMethod_spec hinst
  obtain ⟨m8, methM', cM, hn8, hmethM', -, -, -, -, -, -, hsigM⟩ := Cond.codeWith_spec hcode
  cases Option.some.inj (hn8.symm.trans hnamed)
  cases hmethM.symm.trans hmethM'
  obtain ⟨c2, r2, m2, q1, q2, q3, q4, kP, hkP, hkPi⟩ := Cond.selects_spec hsel
  cases hcls.symm.trans q1
  cases (State.methodFound?_of_named hnamed hy).symm.trans q2
  cases hnamed.symm.trans q3
  have hselP : selectMethod e.platform s.vm cellB.cls mk = .method mk := by rw [Launch.admits_selectMethod X.admits]; exact q4
  obtain ⟨vm₁, X₁, hstep₁⟩ := X.invokevirtual hexec hown hlink hnamed hmethM hstM hkP hkPi hy (a := b) (cell := cellB) hcell
    (fun z h => by rw [h] at hobj; cases hobj) hselP hmethM habM hkP hkPi (g := g) hg (argsL := argsL) (rest := rest) (hlen _ hsigM) hstack hdg
  rcases hK m meth c ⟨T.setVm vm₁, locs, cells, slots⟩ { g with stack := rest } (.invokevirtual index) mk (Value.ref b :: argsL).toArray X₁ hg hsize hdg hW (X₁.named hnamed) (hpre vm₁ X₁.warmed) with ⟨v, B, X', hpost, hsteps⟩ | ⟨q, B, X', hpost, hsteps⟩
  · exact Or.inl ⟨v, vm₁, B, X₁.warmed, X', hpost, fun target h => hstep₁ _ fun acts => by rw [doInvoke_state]; exact hsteps.trans h⟩
  · exact Or.inr ⟨q, vm₁, B, X₁.warmed, X', hpost, hstep₁ _ fun acts => by rw [doInvoke_state]; exact hsteps⟩
theorem vx_callSX (X : Stand p l e R s m args below meth c T locs cells slots) (hexec : p.tables.exec = Jvm.exec) {own : String} {index : Nat} {y : MethodName} {bytes : ByteArray} {maxL : Nat} {ret : Option FieldType} {hh : List (Nat × Nat × Nat × Nat)}
    (hown : s.vm.findClass own = some m.cls) (hlink : (Cond.methodLink own index y).before args s = true) (hstat : (Cond.static y).before args s = true) (hinit : (Cond.initialized y.cls).before args s = true)
    (hcode : (Cond.codeWith y bytes maxL ret hh).before args s = true) (hy : y.cls ≠ "java/lang/invoke/MethodHandle" ∧ y.cls ≠ "java/lang/invoke/VarHandle")
    {W9 : Nat} {Pre : Pt → Array Value → Prop} {Post : Pt → Array Value → Option Value → Pt → Prop} {PostX : Pt → Array Value → Addr → Pt → Prop} (hK : vx_Back l R p e below s args y 3 W9 Pre Post PostX)
    {g : JFrame} (hg : g.method = m) (hsize : g.locals.size = c.maxLocals) {argsL rest : List Value} (hlen : ∀ sig, parseMethodDescriptor y.desc = some sig → argsL.length = sig.parameters.length)
    (hstack : g.stack = argsL.reverse ++ rest) (hW : 2 * g.monitorRoom + (rest.map fun v => v.category).sum ≤ W9) (hdg : decode c.code g.pc = .ok (.invokestatic index, 3))
    (hpre : ∀ vm₁, s.WarmedH vm₁ → Pre ⟨T.setVm vm₁, locs, cells, slots⟩ argsL.toArray) :
    (∃ (v : Option Value) (vm₁ : Vm) (B : Pt), s.WarmedH vm₁ ∧ Stand p l e R s m args below meth c B.U B.locs B.cells B.slots ∧ Post ⟨T.setVm vm₁, locs, cells, slots⟩ argsL.toArray v B ∧
      ∀ target, Steps p.tables e below (B.U.setTop { g with pc := g.pc + 3, stack := v.toList ++ rest }) target → Steps p.tables e below (T.setTop g) target) ∨
    (∃ (q : Addr) (vm₁ : Vm) (B : Pt), s.WarmedH vm₁ ∧ Stand p l e R s m args below meth c B.U B.locs B.cells B.slots ∧ PostX ⟨T.setVm vm₁, locs, cells, slots⟩ argsL.toArray q B ∧
      Steps p.tables e below (T.setTop g) ((B.U.setTop { g with stack := rest }).pushFrame (.throwing q))) := by
  obtain ⟨mk, methM, cM, hnamed, hmethM, -, -, -, -, -, -, hsigM⟩ := Cond.codeWith_spec hcode
  have hstatic : methM.isStatic = true := Cond.static_spec hnamed hmethM hstat
  obtain ⟨kP, hkP, -⟩ := className_of_methodNamed hnamed
  have hinitP : kP.init = .initialized := Cond.initialized_spec (findClass_of_methodNamed hnamed) hkP hinit
  obtain ⟨vm₁, X₁, hstep₁⟩ := X.invokestatic hexec hown hlink hnamed hmethM hstatic hkP hinitP hy (g := g) hg (argsL := argsL) (rest := rest) (hlen _ hsigM) hstack hdg
  rcases hK m meth c ⟨T.setVm vm₁, locs, cells, slots⟩ { g with stack := rest } (.invokestatic index) mk argsL.toArray X₁ hg hsize hdg hW (X₁.named hnamed) (hpre vm₁ X₁.warmed) with ⟨v, B, X', hpost, hsteps⟩ | ⟨q, B, X', hpost, hsteps⟩
  · exact Or.inl ⟨v, vm₁, B, X₁.warmed, X', hpost, fun target h => hstep₁ _ fun acts => by rw [doInvoke_state]; exact hsteps.trans h⟩
  · exact Or.inr ⟨q, vm₁, B, X₁.warmed, X', hpost, hstep₁ _ fun acts => by rw [doInvoke_state]; exact hsteps⟩
theorem vx_callVW (X : Stand p l e R s m args below meth c T locs cells slots) (hexec : p.tables.exec = Jvm.exec) {own C : String} {index : Nat} {y : MethodName} {bytes : ByteArray} {maxL : Nat} {ret : Option FieldType} {hh : List (Nat × Nat × Nat × Nat)}
    (hown : s.vm.findClass own = some m.cls) (hlink : (Cond.methodLink own index y).before args s = true) (hinst : (Cond.instanceMethod y).before args s = true) (hsel : (Cond.selects C y y).before args s = true)
    (hcode : (Cond.codeWith y bytes maxL ret hh).before args s = true) (hy : y.cls ≠ "java/lang/invoke/MethodHandle" ∧ y.cls ≠ "java/lang/invoke/VarHandle")
    {W9 : Nat} {Pre : Pt → Array Value → Prop} {Post : Pt → Array Value → Option Value → Pt → Prop} (hK : Back l R p e below s args y 3 W9 Pre Post)
    {b : Addr} {cellB : Cell} (hcell : T.heap[b]? = some cellB) (hobj : cellB.vm.isStatics = false) (hcls : s.vm.findClass C = some cellB.cls)
    {g : JFrame} (hg : g.method = m) (hsize : g.locals.size = c.maxLocals) {argsL rest : List Value} (hlen : ∀ sig, parseMethodDescriptor y.desc = some sig → argsL.length = sig.parameters.length)
    (hstack : g.stack = argsL.reverse ++ .ref b :: rest) (hW : 2 * g.monitorRoom + (rest.map fun v => v.category).sum ≤ W9) (hdg : decode c.code g.pc = .ok (.invokevirtual index, 3))
    (hpre : ∀ vm₁, s.WarmedH vm₁ → Pre ⟨T.setVm vm₁, locs, cells, slots⟩ (Value.ref b :: argsL).toArray) :
    ∃ (v : Option Value) (vm₁ : Vm) (B : Pt), s.WarmedH vm₁ ∧ Stand p l e R s m args below meth c B.U B.locs B.cells B.slots ∧ Post ⟨T.setVm vm₁, locs, cells, slots⟩ (Value.ref b :: argsL).toArray v B ∧
      ∀ target, Steps p.tables e below (B.U.setTop { g with pc := g.pc + 3, stack := v.toList ++ rest }) target → Steps p.tables e below (T.setTop g) target := by
  obtain ⟨mk, methM, hnamed, hmethM, hstM, habM⟩ := Cond.instanceMethod_spec hinst
  obtain ⟨m8, methM', cM, hn8, hmethM', -, -, -, -, -, -, hsigM⟩ := Cond.codeWith_spec hcode
  cases Option.some.inj (hn8.symm.trans hnamed)
  cases hmethM.symm.trans hmethM'
  obtain ⟨c2, r2, m2, q1, q2, q3, q4, kP, hkP, hkPi⟩ := Cond.selects_spec hsel
  cases hcls.symm.trans q1
  cases (State.methodFound?_of_named hnamed hy).symm.trans q2
  cases hnamed.symm.trans q3
  have hselP : selectMethod e.platform s.vm cellB.cls mk = .method mk := by rw [Launch.admits_selectMethod X.admits]; exact q4
  obtain ⟨vm₁, X₁, hstep₁⟩ := X.invokevirtual hexec hown hlink hnamed hmethM hstM hkP hkPi hy (a := b) (cell := cellB) hcell
    (fun z h => by rw [h] at hobj; cases hobj) hselP hmethM habM hkP hkPi (g := g) hg (argsL := argsL) (rest := rest) (hlen _ hsigM) hstack hdg
  obtain ⟨v, B, X', hpost, hsteps⟩ := hK m meth c ⟨T.setVm vm₁, locs, cells, slots⟩ { g with stack := rest } (.invokevirtual index) mk (Value.ref b :: argsL).toArray X₁ hg hsize hdg hW (X₁.named hnamed) (hpre vm₁ X₁.warmed)
  exact ⟨v, vm₁, B, X₁.warmed, X', hpost, fun target h => hstep₁ _ fun acts => by rw [doInvoke_state]; exact hsteps.trans h⟩
abbrev vx_CVW (R : Room) (s : State) (args : Array Value) (own C : String) (index : Nat) (y : MethodName) (bytes : ByteArray) (maxL : Nat) (ret : Option FieldType) (hh : List (Nat × Nat × Nat × Nat)) (ws : List Cond) (rm : Room) (mc ms n : Nat) : Prop :=
  (rm.cells = mc ∧ rm.slots = ms ∧ rm.frames + 1 ≤ R.frames ∧ 8 + (maxL + 11) + rm.locals ≤ R.locals ∧ (∀ w ∈ ws, ∀ (a' : Array Value) (U : State), s.WarmedH U.vm → w.before a' U = true) ∧ Cond.codeWith y bytes maxL ret hh ∈ ws) ∧
  (Cond.codeWith y bytes maxL ret hh).before args s = true ∧ (Cond.initialized y.cls).before args s = true ∧ (y.cls ≠ "java/lang/invoke/MethodHandle" ∧ y.cls ≠ "java/lang/invoke/VarHandle") ∧
  (∀ sig, parseMethodDescriptor y.desc = some sig → n = sig.parameters.length) ∧ (Cond.methodLink own index y).before args s = true ∧ (Cond.instanceMethod y).before args s = true ∧ (Cond.selects C y y).before args s = true
theorem vx_cwVW {own C : String} {index maxL mc ms : Nat} {y : MethodName} {bytes : ByteArray} {ret : Option FieldType} {hh : List (Nat × Nat × Nat × Nat)} {Ts ws ws' : List Cond} {rm : Room} (n : Nat) (ht : ∀ w ∈ Ts, w.before args s = true) (hT : GoodIn Ts (wsV own index C y ws)) (hw : ws = Cond.codeWith y bytes maxL ret hh :: ws') (hrc : rm.cells = mc) (hrs : rm.slots = ms)
    (hd : y.cls = C ∧ y.cls ≠ "java/lang/invoke/MethodHandle" ∧ y.cls ≠ "java/lang/invoke/VarHandle" ∧ (parseMethodDescriptor y.desc).map (fun d => d.parameters.length) = some n) (hR : rm.frames + 1 ≤ R.frames ∧ 8 + (maxL + 11) + rm.locals ≤ R.locals) :
    vx_CVW R s args own C index y bytes maxL ret hh ws rm mc ms n := by
  obtain ⟨hC, hd⟩ := hd
  subst hC
  have ok : ∀ w ∈ wsV own index y.cls y ws, w.before args s = true := fun w h => ht w (hT w h).1
  have hG : GoodIn Ts ws := fun w h => hT w (by unfold wsV; exact List.mem_append_right _ h)
  have hc : Cond.codeWith y bytes maxL ret hh ∈ ws := by rw [hw]; exact List.mem_cons_self
  refine ⟨⟨hrc, hrs, hR.1, hR.2, pay_in ht hG, hc⟩, ht _ (hG _ hc).1, ok _ (by simp [wsV]), ⟨hd.1, hd.2.1⟩, fun sig h => ?_, ok _ (by simp [wsV]), ok _ (by simp [wsV]), ok _ (by simp [wsV])⟩
  have h2 := hd.2.2
  rw [h] at h2
  exact (Option.some.inj h2).symm
theorem vx_runVW {y : MethodName} {bytes cc : ByteArray} {maxL nL mc ms n index : Nat} {ret : Option FieldType} {hh : List (Nat × Nat × Nat × Nat)} {ws : List Cond} {rm : Room} {Pc : Array Value → State → Prop} {Qc : Array Value → State → Outcome → State → Prop} {free : Addr → Prop} {Ts : List Cond} {own C : String} {b : Addr} {As rest : List Value} {g : JFrame}
    (S : CallFix p m c cc nL s args Ts own) (hM : Met l y ws rm Pc Qc mc ms free) (cw : vx_CVW R s args own C index y bytes maxL ret hh ws rm mc ms n) (hp : PreV s H C b Pc As)
    (hg : g.method = m) (hn : As.length = n) (hsize : g.locals.size = nL) (hstack : g.stack = As.reverse ++ .ref b :: rest) (hW : 2 * g.monitorRoom + (rest.map fun v => v.category).sum ≤ 8) (hdg : decode cc g.pc = .ok (.invokevirtual index, 3)) (hf : cells + mc ≤ R.cells ∧ slots + ms ≤ R.slots) :
    va_Run p l e R s m args below meth c H locs cells slots mc ms g rest (Qc (Value.ref b :: As).toArray) free := by
  obtain ⟨⟨hrc, hrs, hfr, hlo, hws, hcw⟩, hcode, hini, hy, hlen, hl, hin, hse⟩ := cw
  have hK : Back l R p e below s args y 3 8 (PreOf R mc ms Pc) (PostOf Qc mc ms free) := va_backW (hh := hh) (bytes := bytes) (maxL := maxL) (ret := ret) hM hp.1 hrc hrs hfr hlo hws hcw (fun a' U hW => word_at hW (Or.inl (by first | rfl | simp [Cond.onTables, Cond.keeps, Cond.steady])) hini)
  obtain ⟨hx, hb, hml, ho, -⟩ := S
  obtain ⟨-, ⟨cellB, hcB, hoB, hclB⟩, hPc⟩ := hp
  intro T hT X
  obtain ⟨v, vm₁, ⟨U', l2, c2, s2⟩, hW₁, X', ⟨g', mk, t, L, e1, e2, hq, h1, hL, h2, h3⟩, st⟩ := vx_callVW X hx (C := C) (hh := hh) (bytes := bytes) (maxL := maxL) (ret := ret) ho hl hin hse hcode hy hK (by rw [hT]; exact hcB) hoB hclB hg (hsize.trans hml.symm) (argsL := As) (rest := rest) (fun sig h => hn.trans (hlen sig h)) hstack hW (by rw [hb]; exact hdg)
    (fun vm₁ hW₁ => ⟨hf.1, hf.2, hPc (T.setVm vm₁) hT hW₁⟩)
  dsimp only [Pt.U, Pt.locs, Pt.cells, Pt.slots] at X' e1 e2 h1 h2 h3 st
  subst h1; subst h2; subst h3
  exact ⟨v, (T.setVm vm₁).calling g' mk (Value.ref b :: As).toArray, t, U', L, hT, X', hL, e1, e2, hq, st⟩
section
variable {y : MethodName} {bytes cc : ByteArray} {maxL nL mc ms n index : Nat} {ret : Option FieldType} {ws : List Cond} {rm : Room} {Pc : Array Value → State → Prop} {Qc : Array Value → State → Outcome → State → Prop} {XC : String → State → State → Prop} {free : Addr → Prop} {Ts : List Cond} {own C : String} {b : Addr} {As rest : List Value} {g : JFrame}
theorem vx_runVX {hh : List (Nat × Nat × Nat × Nat)} (S : CallFix p m c cc nL s args Ts own) (hM : vx_Met l y ws rm Pc Qc XC mc ms free) (cw : vx_CVW R s args own C index y bytes maxL ret hh ws rm mc ms n) (hp : PreV s H C b Pc As)
    (hg : g.method = m) (hn : As.length = n) (hsize : g.locals.size = nL) (hstack : g.stack = As.reverse ++ .ref b :: rest) (hW : 2 * g.monitorRoom + (rest.map fun v => v.category).sum ≤ 8) (hdg : decode cc g.pc = .ok (.invokevirtual index, 3)) (hf : cells + mc ≤ R.cells ∧ slots + ms ≤ R.slots) :
    vx_Run p l e R s m args below meth c H locs cells slots mc ms g rest (Qc (Value.ref b :: As).toArray) XC free := by
  obtain ⟨⟨hrc, hrs, hfr, hlo, hws, hcw⟩, hcode, hini, hy, hlen, hl, hin, hse⟩ := cw
  have hK : vx_Back l R p e below s args y 3 8 (PreOf R mc ms Pc) (PostOf Qc mc ms free) (vx_Post XC mc ms free) := vx_backW (hh := hh) (bytes := bytes) (maxL := maxL) (ret := ret) hM hp.1 hrc hrs hfr hlo hws hcw (fun a' U hW => word_at hW (Or.inl (by first | rfl | simp [Cond.onTables, Cond.keeps, Cond.steady])) hini)
  obtain ⟨hx, hb, hml, ho, -⟩ := S
  obtain ⟨-, ⟨cellB, hcB, hoB, hclB⟩, hPc⟩ := hp
  intro T hT X
  rcases vx_callVX X hx (C := C) (hh := hh) (bytes := bytes) (maxL := maxL) (ret := ret) ho hl hin hse hcode hy hK (by rw [hT]; exact hcB) hoB hclB hg (hsize.trans hml.symm) (argsL := As) (rest := rest) (fun sig h => hn.trans (hlen sig h)) hstack hW (by rw [hb]; exact hdg)
    (fun vm₁ hW₁ => ⟨hf.1, hf.2, hPc (T.setVm vm₁) hT hW₁⟩) with ⟨v, vm₁, ⟨U', l2, c2, s2⟩, hW₁, X', ⟨g', mk, t, L, e1, e2, hq, h1, hL, h2, h3⟩, st⟩ | ⟨q, vm₁, ⟨U', l2, c2, s2⟩, hW₁, X', ⟨g', mk, t, L, E, ce, e1, e2, hq, hce, hcv, hcl, h1, hL, h2, h3⟩, st⟩
  · dsimp only [Pt.U, Pt.locs, Pt.cells, Pt.slots] at X' e1 e2 h1 h2 h3 st
    subst h1; subst h2; subst h3
    exact Or.inl ⟨v, (T.setVm vm₁).calling g' mk (Value.ref b :: As).toArray, t, U', L, hT, X', hL, e1, e2, hq, st⟩
  · dsimp only [Pt.U, Pt.locs, Pt.cells, Pt.slots] at X' e1 e2 h1 h2 h3 st hcl
    subst h1; subst h2; subst h3
    exact Or.inr ⟨q, (T.setVm vm₁).calling g' mk (Value.ref b :: As).toArray, t, U', L, E, ce, hT, X', hL, e1, e2, hq, hce, hcv, vx_cls hW₁ hcl, st⟩
theorem vx_runSX {hh : List (Nat × Nat × Nat × Nat)} (S : CallFix p m c cc nL s args Ts own) (hM : vx_Met l y ws rm Pc Qc XC mc ms free) (cw : vx_CSW R s args own index y bytes maxL ret hh ws rm mc ms n) (hp : PreS s H Pc As)
    (hg : g.method = m) (hn : As.length = n) (hsize : g.locals.size = nL) (hstack : g.stack = As.reverse ++ rest) (hW : 2 * g.monitorRoom + (rest.map fun v => v.category).sum ≤ 8) (hdg : decode cc g.pc = .ok (.invokestatic index, 3)) (hf : cells + mc ≤ R.cells ∧ slots + ms ≤ R.slots) :
    vx_Run p l e R s m args below meth c H locs cells slots mc ms g rest (Qc As.toArray) XC free := by
  obtain ⟨⟨hrc, hrs, hfr, hlo, hws, hcw⟩, hcode, hini, hy, hlen, hl, hstt⟩ := cw
  have hK : vx_Back l R p e below s args y 3 8 (PreOf R mc ms Pc) (PostOf Qc mc ms free) (vx_Post XC mc ms free) := vx_backW (hh := hh) (bytes := bytes) (maxL := maxL) (ret := ret) hM hp.1 hrc hrs hfr hlo hws hcw (fun a' U hW => word_at hW (Or.inl (by first | rfl | simp [Cond.onTables, Cond.keeps, Cond.steady])) hini)
  obtain ⟨hx, hb, hml, ho, -⟩ := S
  intro T hT X
  rcases vx_callSX X hx (hh := hh) (bytes := bytes) (maxL := maxL) (ret := ret) ho hl hstt hini hcode hy hK hg (hsize.trans hml.symm) (argsL := As) (rest := rest) (fun sig h => hn.trans (hlen sig h)) hstack hW (by rw [hb]; exact hdg)
    (fun vm₁ hW₁ => ⟨hf.1, hf.2, hp.2 (T.setVm vm₁) hT hW₁⟩) with ⟨v, vm₁, ⟨U', l2, c2, s2⟩, hW₁, X', ⟨g', mk, t, L, e1, e2, hq, h1, hL, h2, h3⟩, st⟩ | ⟨q, vm₁, ⟨U', l2, c2, s2⟩, hW₁, X', ⟨g', mk, t, L, E, ce, e1, e2, hq, hce, hcv, hcl, h1, hL, h2, h3⟩, st⟩
  · dsimp only [Pt.U, Pt.locs, Pt.cells, Pt.slots] at X' e1 e2 h1 h2 h3 st
    subst h1; subst h2; subst h3
    exact Or.inl ⟨v, (T.setVm vm₁).calling g' mk As.toArray, t, U', L, hT, X', hL, e1, e2, hq, st⟩
  · dsimp only [Pt.U, Pt.locs, Pt.cells, Pt.slots] at X' e1 e2 h1 h2 h3 st hcl
    subst h1; subst h2; subst h3
    exact Or.inr ⟨q, (T.setVm vm₁).calling g' mk As.toArray, t, U', L, E, ce, hT, X', hL, e1, e2, hq, hce, hcv, vx_cls hW₁ hcl, st⟩
end
end VXH
theorem vx_ofWH {l : Launch} {y : MethodName} {ws ws' : List Cond} {rm : Room} {Pc : Array Value → State → Prop} {Qc : Array Value → State → Outcome → State → Prop} {XC : String → State → State → Prop} {mc ms : Nat} {free : Addr → Prop} {cc : ByteArray} {maxL : Nat} {ret : Option FieldType} {hh : List (Nat × Nat × Nat × Nat)}
    (hy : plainName y.cls = true) (hw : ws = Cond.codeWith y cc maxL ret hh :: ws')
    (body : ∀ p e s m args below meth c s₁, BodyLoose p l y (headSpec ws rm) cc maxL ret e s m args below meth c s₁ → c.maxLocals = maxL → Pc args s →
      W p l e (headSpec ws rm).room s m args below meth c s.heap [] 0 0 (vx_MQ below Qc XC args s mc ms free) (entryFrame m args maxL)) : vx_Met l y ws rm Pc Qc XC mc ms free := by
  refine MetFree.of_bodyS (code := cc) (maxLocals := maxL) (ret := ret) hy ?_ ?_
  · intro args s m h hn
    obtain ⟨m9, meth, c, hn9, h1, h2, h3, h4, -, h5, h6, -⟩ := Cond.codeWith_spec (atoms_spec (ws := ws) h _ (by rw [hw]; exact List.mem_cons_self))
    cases hn.symm.trans hn9
    exact ⟨meth, c, h1, h2, h3, h4, h5, h6⟩
  · intro p e s m args below meth c s₁ B hml hP _
    have hh0 : s₁.heap = s.heap := by rw [B.state]; rfl
    obtain ⟨t, a1, o, b1, b2, b3⟩ := body p e s m args below meth c s₁ B hml hP s₁ hh0 (Stand.of_body B)
    exact ⟨t, o, a1, b1, b2, b3⟩
/-! ===== END ===== -/
/-! ===== BEGIN a constructor that throws (launches without stack traces) ===== -/
section VXIA
variable {p : Program} {l : Launch} {e : Env} {R : Room} {s : State} {m : MethodId} {args : Array Value} {below : List Frame} {meth : Method} {c : Code} {T : State} {locs : List Loc} {cells slots : Nat}
theorem vx_callI (X : Stand p l e R s m args below meth c T locs cells slots) (hexec : p.tables.exec = Jvm.exec) {own : String} {index : Nat} {y : MethodName} {bytes : ByteArray} {maxL : Nat}
    (hown : s.vm.findClass own = some m.cls) (hy1 : y.name = "<init>") (hlink : (Cond.methodLink own index y).before args s = true) (hinst : (Cond.instanceMethod y).before args s = true)
    (hcode : (Cond.code y bytes maxL none).before args s = true) (hy : y.cls ≠ "java/lang/invoke/MethodHandle" ∧ y.cls ≠ "java/lang/invoke/VarHandle")
    {W9 : Nat} {Pre : Pt → Array Value → Prop} {Post : Pt → Array Value → Option Value → Pt → Prop} {PostX : Pt → Array Value → Addr → Pt → Prop} (hK : vx_Back l R p e below s args y 3 W9 Pre Post PostX)
    {g : JFrame} (hg : g.method = m) (hsize : g.locals.size = c.maxLocals) {a : Addr} {argsL rest : List Value} (hlen : ∀ sig, parseMethodDescriptor y.desc = some sig → argsL.length = sig.parameters.length)
    (hstack : g.stack = argsL.reverse ++ .ref a :: rest) (hW : 2 * g.monitorRoom + (rest.map fun v => v.category).sum ≤ W9) (hdg : decode c.code g.pc = .ok (.invokespecial index, 3))
    (hpre : ∀ vm₁, s.WarmedH vm₁ → Pre ⟨T.setVm vm₁, locs, cells, slots⟩ (Value.ref a :: argsL).toArray) :
    (∃ (v : Option Value) (vm₁ : Vm) (B : Pt), s.WarmedH vm₁ ∧ Stand p l e R s m args below meth c B.U B.locs B.cells B.slots ∧ Post ⟨T.setVm vm₁, locs, cells, slots⟩ (Value.ref a :: argsL).toArray v B ∧
      ∀ target, Steps p.tables e below (B.U.setTop { g with pc := g.pc + 3, stack := v.toList ++ rest }) target → Steps p.tables e below (T.setTop g) target) ∨
    (∃ (q : Addr) (vm₁ : Vm) (B : Pt), s.WarmedH vm₁ ∧ Stand p l e R s m args below meth c B.U B.locs B.cells B.slots ∧ PostX ⟨T.setVm vm₁, locs, cells, slots⟩ (Value.ref a :: argsL).toArray q B ∧
      Steps p.tables e below (T.setTop g) ((B.U.setTop { g with stack := rest }).pushFrame (.throwing q))) := by
  subst hg
  have hpl : e.platform.magicAccessors = ({} : Platform).magicAccessors := by rw [X.admits.platform]
  obtain ⟨mk, methM, cM, kP, vm₁, hnamed, hmethM, hcodeM, -, hlocalsM, -, hkP, -, hW₁, hstep₁⟩ := Steps.initColdArgs (e := e) X.here hexec X.warmed hpl hown hy1 hy hlink hinst hcode (f := g) rfl hlen hstack hdg
  have X₁ := X.noted hW₁
  rcases hK g.method meth c ⟨T.setVm vm₁, locs, cells, slots⟩ { g with stack := rest } (.invokespecial index) mk (Value.ref a :: argsL).toArray X₁ rfl hsize hdg hW (X₁.named hnamed) (hpre vm₁ X₁.warmed) with ⟨v, B, X', hpost, hsteps⟩ | ⟨q, B, X', hpost, hsteps⟩
  · exact Or.inl ⟨v, vm₁, B, X₁.warmed, X', hpost, fun target h => hstep₁ _ fun acts => by rw [doInvoke_state]; exact hsteps.trans h⟩
  · exact Or.inr ⟨q, vm₁, B, X₁.warmed, X', hpost, hstep₁ _ fun acts => by rw [doInvoke_state]; exact hsteps⟩
end VXIA
section VXIB
variable {p : Program} {l : Launch} {e : Env} {R : Room} {s : State} {m : MethodId} {args : Array Value} {below : List Frame} {meth : Method} {c : Code} {H : Heap} {locs : List Loc} {cells slots : Nat}
variable {y : MethodName} {bytes cc : ByteArray} {maxL nL mc ms n index : Nat} {ret : Option FieldType} {ws : List Cond} {rm : Room} {Pc : Array Value → State → Prop} {Qc : Array Value → State → Outcome → State → Prop} {XC : String → State → State → Prop} {free : Addr → Prop} {Ts : List Cond} {own C : String} {b : Addr} {As rest : List Value} {g : JFrame}
theorem vx_runI (S : CallFix p m c cc nL s args Ts own) (hM : vx_Met l y ws rm Pc Qc XC mc ms free) (cw : CallB R s args own index y bytes maxL none ws rm mc ms n ∧ y.name = "<init>" ∧ (Cond.instanceMethod y).before args s = true) (hp : PreS s H Pc (.ref b :: As))
    (hg : g.method = m) (hn : As.length = n) (hsize : g.locals.size = nL) (hstack : g.stack = As.reverse ++ .ref b :: rest) (hW : 2 * g.monitorRoom + (rest.map fun v => v.category).sum ≤ 8) (hdg : decode cc g.pc = .ok (.invokespecial index, 3)) (hf : cells + mc ≤ R.cells ∧ slots + ms ≤ R.slots) :
    vx_Run p l e R s m args below meth c H locs cells slots mc ms g rest (Qc (Value.ref b :: As).toArray) XC free := by
  have hK : vx_Back l R p e below s args y 3 8 (PreOf R mc ms Pc) (PostOf Qc mc ms free) (vx_Post XC mc ms free) := vx_callBack cw.1 hM hp.1
  obtain ⟨⟨-, -, -, -, -, -, hcode, -, hy, hlen, hl⟩, hy1, hin⟩ := cw
  obtain ⟨hx, hb, hml, ho, -⟩ := S
  have hPc := hp.2
  intro T hT X
  rcases vx_callI X hx (bytes := bytes) (maxL := maxL) ho hy1 hl hin hcode hy hK hg (hsize.trans hml.symm) (a := b) (argsL := As) (rest := rest) (fun sig h => hn.trans (hlen sig h)) hstack hW (by rw [hb]; exact hdg)
    (fun vm₁ hW₁ => ⟨hf.1, hf.2, hPc (T.setVm vm₁) hT hW₁⟩) with ⟨v, vm₁, ⟨U', l2, c2, s2⟩, hW₁, X', ⟨g', mk, t, L, e1, e2, hq, h1, hL, h2, h3⟩, st⟩ | ⟨q, vm₁, ⟨U', l2, c2, s2⟩, hW₁, X', ⟨g', mk, t, L, E, ce, e1, e2, hq, hce, hcv, hcl, h1, hL, h2, h3⟩, st⟩
  · dsimp only [Pt.U, Pt.locs, Pt.cells, Pt.slots] at X' e1 e2 h1 h2 h3 st
    subst h1; subst h2; subst h3
    exact Or.inl ⟨v, (T.setVm vm₁).calling g' mk (Value.ref b :: As).toArray, t, U', L, hT, X', hL, e1, e2, hq, st⟩
  · dsimp only [Pt.U, Pt.locs, Pt.cells, Pt.slots] at X' e1 e2 h1 h2 h3 st hcl
    subst h1; subst h2; subst h3
    exact Or.inr ⟨q, (T.setVm vm₁).calling g' mk (Value.ref b :: As).toArray, t, U', L, E, ce, hT, X', hL, e1, e2, hq, hce, hcv, vx_cls hW₁ hcl, st⟩
end VXIB
/-! ===== END ===== -/
/-! ===== BEGIN a private constructor of a nest mate that throws ===== -/
section VXIC
variable {p : Program} {l : Launch} {e : Env} {R : Room} {s : State} {m : MethodId} {args : Array Value} {below : List Frame} {meth : Method} {c : Code} {T : State} {locs : List Loc} {cells slots : Nat}
theorem vx_callIN (X : Stand p l e R s m args below meth c T locs cells slots) (hexec : p.tables.exec = Jvm.exec) {own : String} {index : Nat} {host : String} {y : MethodName} {bytes : ByteArray} {maxL : Nat}
    (hown : s.vm.findClass own = some m.cls) (hy1 : y.name = "<init>") (hlink : (Cond.methodLinkNest own index y host).before args s = true) (hinst : (Cond.instanceMethod y).before args s = true)
    (hcode : (Cond.code y bytes maxL none).before args s = true) (hy : y.cls ≠ "java/lang/invoke/MethodHandle" ∧ y.cls ≠ "java/lang/invoke/VarHandle")
    {W9 : Nat} {Pre : Pt → Array Value → Prop} {Post : Pt → Array Value → Option Value → Pt → Prop} {PostX : Pt → Array Value → Addr → Pt → Prop} (hK : vx_Back l R p e below s args y 3 W9 Pre Post PostX)
    {g : JFrame} (hg : g.method = m) (hsize : g.locals.size = c.maxLocals) {a : Addr} {argsL rest : List Value} (hlen : ∀ sig, parseMethodDescriptor y.desc = some sig → argsL.length = sig.parameters.length)
    (hstack : g.stack = argsL.reverse ++ .ref a :: rest) (hW : 2 * g.monitorRoom + (rest.map fun v => v.category).sum ≤ W9) (hdg : decode c.code g.pc = .ok (.invokespecial index, 3))
    (hpre : ∀ vm₁, s.WarmedH vm₁ → Pre ⟨T.setVm vm₁, locs, cells, slots⟩ (Value.ref a :: argsL).toArray) :
    (∃ (v : Option Value) (vm₁ : Vm) (B : Pt), s.WarmedH vm₁ ∧ Stand p l e R s m args below meth c B.U B.locs B.cells B.slots ∧ Post ⟨T.setVm vm₁, locs, cells, slots⟩ (Value.ref a :: argsL).toArray v B ∧
      ∀ target, Steps p.tables e below (B.U.setTop { g with pc := g.pc + 3, stack := v.toList ++ rest }) target → Steps p.tables e below (T.setTop g) target) ∨
    (∃ (q : Addr) (vm₁ : Vm) (B : Pt), s.WarmedH vm₁ ∧ Stand p l e R s m args below meth c B.U B.locs B.cells B.slots ∧ PostX ⟨T.setVm vm₁, locs, cells, slots⟩ (Value.ref a :: argsL).toArray q B ∧
      Steps p.tables e below (T.setTop g) ((B.U.setTop { g with stack := rest }).pushFrame (.throwing q))) := by
  subst hg
  have hpl : e.platform.magicAccessors = ({} : Platform).magicAccessors := by rw [X.admits.platform]
  obtain ⟨mk, methM, cM, kP, vm₁, hnamed, hmethM, hcodeM, -, hlocalsM, -, hkP, -, hW₁, hstep₁⟩ := Steps.initColdArgsNest (e := e) X.here hexec X.warmed hpl hown hy1 hy hlink hinst hcode (f := g) rfl hlen hstack hdg
  have X₁ := X.noted hW₁
  rcases hK g.method meth c ⟨T.setVm vm₁, locs, cells, slots⟩ { g with stack := rest } (.invokespecial index) mk (Value.ref a :: argsL).toArray X₁ rfl hsize hdg hW (X₁.named hnamed) (hpre vm₁ X₁.warmed) with ⟨v, B, X', hpost, hsteps⟩ | ⟨q, B, X', hpost, hsteps⟩
  · exact Or.inl ⟨v, vm₁, B, X₁.warmed, X', hpost, fun target h => hstep₁ _ fun acts => by rw [doInvoke_state]; exact hsteps.trans h⟩
  · exact Or.inr ⟨q, vm₁, B, X₁.warmed, X', hpost, hstep₁ _ fun acts => by rw [doInvoke_state]; exact hsteps⟩
end VXIC
section VXID
variable {p : Program} {l : Launch} {e : Env} {R : Room} {s : State} {m : MethodId} {args : Array Value} {below : List Frame} {meth : Method} {c : Code} {H : Heap} {locs : List Loc} {cells slots : Nat}
theorem vx_runIN {y : MethodName} {bytes cc : ByteArray} {maxL nL mc ms n index : Nat} {ws : List Cond} {rm : Room} {Pc : Array Value → State → Prop} {Qc : Array Value → State → Outcome → State → Prop} {XC : String → State → State → Prop} {free : Addr → Prop} {Ts : List Cond} {own host : String} {b : Addr} {As rest : List Value} {g : JFrame}
    (S : CallFix p m c cc nL s args Ts own) (hM : vx_Met l y ws rm Pc Qc XC mc ms free) (cw : va_CN R s args own index y host bytes maxL none ws rm mc ms n ∧ y.name = "<init>" ∧ (Cond.instanceMethod y).before args s = true) (hp : PreS s H Pc (.ref b :: As))
    (hg : g.method = m) (hn : As.length = n) (hsize : g.locals.size = nL) (hstack : g.stack = As.reverse ++ .ref b :: rest) (hW : 2 * g.monitorRoom + (rest.map fun v => v.category).sum ≤ 8) (hdg : decode cc g.pc = .ok (.invokespecial index, 3)) (hf : cells + mc ≤ R.cells ∧ slots + ms ≤ R.slots) :
    vx_Run p l e R s m args below meth c H locs cells slots mc ms g rest (Qc (Value.ref b :: As).toArray) XC free := by
  obtain ⟨⟨⟨hrc, hrs, hfr, hlo, hws, hcw⟩, hcode, hini, hy, hlen, hl⟩, hx1, hx2⟩ := cw
  have hK : vx_Back l R p e below s args y 3 8 (PreOf R mc ms Pc) (PostOf Qc mc ms free) (vx_Post XC mc ms free) := vx_back (bytes := bytes) (maxL := maxL) (ret := none) hM hp.1 hrc hrs hfr hlo hws hcw (fun a' U hW => word_at hW (Or.inl (by first | rfl | simp [Cond.onTables, Cond.keeps, Cond.steady])) hini)
  obtain ⟨hx, hb, hml, ho, -⟩ := S
  have hPc := hp.2
  intro T hT X
  rcases vx_callIN X hx (bytes := bytes) (maxL := maxL) ho hx1 hl hx2 hcode hy hK hg (hsize.trans hml.symm) (a := b) (argsL := As) (rest := rest) (fun sig h => hn.trans (hlen sig h)) hstack hW (by rw [hb]; exact hdg)
    (fun vm₁ hW₁ => ⟨hf.1, hf.2, hPc (T.setVm vm₁) hT hW₁⟩) with ⟨v, vm₁, ⟨U', l2, c2, s2⟩, hW₁, X', ⟨g', mk, t, L, e1, e2, hq, h1, hL, h2, h3⟩, st⟩ | ⟨q, vm₁, ⟨U', l2, c2, s2⟩, hW₁, X', ⟨g', mk, t, L, E, ce, e1, e2, hq, hce, hcv, hcl, h1, hL, h2, h3⟩, st⟩
  · dsimp only [Pt.U, Pt.locs, Pt.cells, Pt.slots] at X' e1 e2 h1 h2 h3 st
    subst h1; subst h2; subst h3
    exact Or.inl ⟨v, (T.setVm vm₁).calling g' mk (Value.ref b :: As).toArray, t, U', L, hT, X', hL, e1, e2, hq, st⟩
  · dsimp only [Pt.U, Pt.locs, Pt.cells, Pt.slots] at X' e1 e2 h1 h2 h3 st hcl
    subst h1; subst h2; subst h3
    exact Or.inr ⟨q, (T.setVm vm₁).calling g' mk (Value.ref b :: As).toArray, t, U', L, E, ce, hT, X', hL, e1, e2, hq, hce, hcv, vx_cls hW₁ hcl, st⟩
end VXID
/-! ===== END ===== -/
/-! ===== BEGIN a private method of a nest mate that may throw (follows va_callVN, va_callSN, va_runVN, va_runSN) ===== -/
section
variable {p : Program} {l : Launch} {e : Env} {R : Room} {s : State} {m : MethodId} {args : Array Value} {below : List Frame} {meth : Method} {c : Code} {H : Heap} {locs : List Loc} {cells slots : Nat}
variable {T : State}
theorem vx_callVN (X : Stand p l e R s m args below meth c T locs cells slots) (hexec : p.tables.exec = Jvm.exec) {own C : String} {index : Nat} {host : String} {y : MethodName} {bytes : ByteArray} {maxL : Nat} {ret : Option FieldType}
    (hown : s.vm.findClass own = some m.cls) (hlink : (Cond.methodLinkNest own index y host).before args s = true) (hinst : (Cond.instanceMethod y).before args s = true) (hsel : (Cond.selects C y y).before args s = true)
    (hcode : (Cond.code y bytes maxL ret).before args s = true) (hy : y.cls ≠ "java/lang/invoke/MethodHandle" ∧ y.cls ≠ "java/lang/invoke/VarHandle")
    {W : Nat} {Pre : Pt → Array Value → Prop} {Post : Pt → Array Value → Option Value → Pt → Prop} {PostX : Pt → Array Value → Addr → Pt → Prop} (hK : vx_Back l R p e below s args y 3 W Pre Post PostX)
    {b : Addr} {cellB : Cell} (hcell : T.heap[b]? = some cellB) (hobj : cellB.vm.isStatics = false) (hcls : s.vm.findClass C = some cellB.cls)
    {g : JFrame} (hg : g.method = m) (hsize : g.locals.size = c.maxLocals) {argsL rest : List Value} (hlen : ∀ sig, parseMethodDescriptor y.desc = some sig → argsL.length = sig.parameters.length)
    (hstack : g.stack = argsL.reverse ++ .ref b :: rest) (hW : 2 * g.monitorRoom + (rest.map fun v => v.category).sum ≤ W) (hdg : decode c.code g.pc = .ok (.invokevirtual index, 3))
    (hpre : ∀ vm₁, s.WarmedH vm₁ → Pre ⟨T.setVm vm₁, locs, cells, slots⟩ (Value.ref b :: argsL).toArray) :
    (∃ (v : Option Value) (vm₁ : Vm) (B : Pt), s.WarmedH vm₁ ∧ Stand p l e R s m args below meth c B.U B.locs B.cells B.slots ∧ Post ⟨T.setVm vm₁, locs, cells, slots⟩ (Value.ref b :: argsL).toArray v B ∧
      ∀ target, Steps p.tables e below (B.U.setTop { g with pc := g.pc + 3, stack := v.toList ++ rest }) target → Steps p.tables e below (T.setTop g) target) ∨
    (∃ (q : Addr) (vm₁ : Vm) (B : Pt), s.WarmedH vm₁ ∧ Stand p l e R s m args below meth c B.U B.locs B.cells B.slots ∧ PostX ⟨T.setVm vm₁, locs, cells, slots⟩ (Value.ref b :: argsL).toArray q B ∧
      Steps p.tables e below (T.setTop g) ((B.U.setTop { g with stack := rest }).pushFrame (.throwing q))) := by
  obtain ⟨mk, methM, hnamed, hmethM, hstM, habM⟩ := Cond.instanceMethod_spec hinst
  obtain ⟨methM', cM, hmethM', -, -, -, -, -, -, hsigM⟩ := Cond.code_spec hnamed hcode
  cases hmethM.symm.trans hmethM'
  obtain ⟨c2, r2, m2, q1, q2, q3, q4, kP, hkP, hkPi⟩ := Cond.selects_spec hsel
  cases hcls.symm.trans q1
  cases (State.methodFound?_of_named hnamed hy).symm.trans q2
  cases hnamed.symm.trans q3
  have hselP : selectMethod e.platform s.vm cellB.cls mk = .method mk := by rw [Launch.admits_selectMethod X.admits]; exact q4
  obtain ⟨vm₁, X₁, hstep₁⟩ := X.invokevirtualNest hexec hown hlink hnamed hmethM hstM hkP hkPi hy (a := b) (cell := cellB) hcell
    (fun z h => by rw [h] at hobj; cases hobj) hselP hmethM habM hkP hkPi (g := g) hg (argsL := argsL) (rest := rest) (hlen _ hsigM) hstack hdg
  rcases hK m meth c ⟨T.setVm vm₁, locs, cells, slots⟩ { g with stack := rest } (.invokevirtual index) mk (Value.ref b :: argsL).toArray X₁ hg hsize hdg hW (X₁.named hnamed) (hpre vm₁ X₁.warmed) with ⟨v, B, X', hpost, hsteps⟩ | ⟨q, B, X', hpost, hsteps⟩
  · exact Or.inl ⟨v, vm₁, B, X₁.warmed, X', hpost, fun target h => hstep₁ _ fun acts => by rw [doInvoke_state]; exact hsteps.trans h⟩
  · exact Or.inr ⟨q, vm₁, B, X₁.warmed, X', hpost, hstep₁ _ fun acts => by rw [doInvoke_state]; exact hsteps⟩
theorem vx_callSN (X : Stand p l e R s m args below meth c T locs cells slots) (hexec : p.tables.exec = Jvm.exec) {own : String} {index : Nat} {host : String} {y : MethodName} {bytes : ByteArray} {maxL : Nat} {ret : Option FieldType}
    (hown : s.vm.findClass own = some m.cls) (hlink : (Cond.methodLinkNest own index y host).before args s = true) (hstat : (Cond.static y).before args s = true) (hinit : (Cond.initialized y.cls).before args s = true)
    (hcode : (Cond.code y bytes maxL ret).before args s = true) (hy : y.cls ≠ "java/lang/invoke/MethodHandle" ∧ y.cls ≠ "java/lang/invoke/VarHandle")
    {W : Nat} {Pre : Pt → Array Value → Prop} {Post : Pt → Array Value → Option Value → Pt → Prop} {PostX : Pt → Array Value → Addr → Pt → Prop} (hK : vx_Back l R p e below s args y 3 W Pre Post PostX)
    {g : JFrame} (hg : g.method = m) (hsize : g.locals.size = c.maxLocals) {argsL rest : List Value} (hlen : ∀ sig, parseMethodDescriptor y.desc = some sig → argsL.length = sig.parameters.length)
    (hstack : g.stack = argsL.reverse ++ rest) (hW : 2 * g.monitorRoom + (rest.map fun v => v.category).sum ≤ W) (hdg : decode c.code g.pc = .ok (.invokestatic index, 3))
    (hpre : ∀ vm₁, s.WarmedH vm₁ → Pre ⟨T.setVm vm₁, locs, cells, slots⟩ argsL.toArray) :
    (∃ (v : Option Value) (vm₁ : Vm) (B : Pt), s.WarmedH vm₁ ∧ Stand p l e R s m args below meth c B.U B.locs B.cells B.slots ∧ Post ⟨T.setVm vm₁, locs, cells, slots⟩ argsL.toArray v B ∧
      ∀ target, Steps p.tables e below (B.U.setTop { g with pc := g.pc + 3, stack := v.toList ++ rest }) target → Steps p.tables e below (T.setTop g) target) ∨
    (∃ (q : Addr) (vm₁ : Vm) (B : Pt), s.WarmedH vm₁ ∧ Stand p l e R s m args below meth c B.U B.locs B.cells B.slots ∧ PostX ⟨T.setVm vm₁, locs, cells, slots⟩ argsL.toArray q B ∧
      Steps p.tables e below (T.setTop g) ((B.U.setTop { g with stack := rest }).pushFrame (.throwing q))) := by
  obtain ⟨mk, hnamed⟩ := Cond.code_named hcode
  obtain ⟨methM, cM, hmethM, -, -, -, -, -, -, hsigM⟩ := Cond.code_spec hnamed hcode
  have hstatic : methM.isStatic = true := Cond.static_spec hnamed hmethM hstat
  obtain ⟨kP, hkP, -⟩ := className_of_methodNamed hnamed
  have hinitP : kP.init = .initialized := Cond.initialized_spec (findClass_of_methodNamed hnamed) hkP hinit
  obtain ⟨vm₁, X₁, hstep₁⟩ := X.invokestaticNest hexec hown hlink hnamed hmethM hstatic hkP hinitP hy (g := g) hg (argsL := argsL) (rest := rest) (hlen _ hsigM) hstack hdg
  rcases hK m meth c ⟨T.setVm vm₁, locs, cells, slots⟩ { g with stack := rest } (.invokestatic index) mk argsL.toArray X₁ hg hsize hdg hW (X₁.named hnamed) (hpre vm₁ X₁.warmed) with ⟨v, B, X', hpost, hsteps⟩ | ⟨q, B, X', hpost, hsteps⟩
  · exact Or.inl ⟨v, vm₁, B, X₁.warmed, X', hpost, fun target h => hstep₁ _ fun acts => by rw [doInvoke_state]; exact hsteps.trans h⟩
  · exact Or.inr ⟨q, vm₁, B, X₁.warmed, X', hpost, hstep₁ _ fun acts => by rw [doInvoke_state]; exact hsteps⟩
theorem vx_runVN {y : MethodName} {bytes cc : ByteArray} {maxL nL mc ms n index : Nat} {ret : Option FieldType} {ws : List Cond} {rm : Room} {Pc : Array Value → State → Prop} {Qc : Array Value → State → Outcome → State → Prop} {XC : String → State → State → Prop} {free : Addr → Prop} {Ts : List Cond} {own C host : String} {b : Addr} {As rest : List Value} {g : JFrame}
    (S : CallFix p m c cc nL s args Ts own) (hM : vx_Met l y ws rm Pc Qc XC mc ms free) (cw : va_CN R s args own index y host bytes maxL ret ws rm mc ms n ∧ (Cond.instanceMethod y).before args s = true ∧ (Cond.selects C y y).before args s = true) (hp : PreV s H C b Pc As)
    (hg : g.method = m) (hn : As.length = n) (hsize : g.locals.size = nL) (hstack : g.stack = As.reverse ++ .ref b :: rest) (hW : 2 * g.monitorRoom + (rest.map fun v => v.category).sum ≤ 8) (hdg : decode cc g.pc = .ok (.invokevirtual index, 3)) (hf : cells + mc ≤ R.cells ∧ slots + ms ≤ R.slots) :
    vx_Run p l e R s m args below meth c H locs cells slots mc ms g rest (Qc (Value.ref b :: As).toArray) XC free := by
  obtain ⟨⟨⟨hrc, hrs, hfr, hlo, hws, hcw⟩, hcode, hini, hy, hlen, hl⟩, hx1, hx2⟩ := cw
  have hK : vx_Back l R p e below s args y 3 8 (PreOf R mc ms Pc) (PostOf Qc mc ms free) (vx_Post XC mc ms free) := vx_back (bytes := bytes) (maxL := maxL) (ret := ret) hM hp.1 hrc hrs hfr hlo hws hcw (fun a' U hW => word_at hW (Or.inl (by first | rfl | simp [Cond.onTables, Cond.keeps, Cond.steady])) hini)
  obtain ⟨hx, hb, hml, ho, -⟩ := S
  obtain ⟨-, ⟨cellB, hcB, hoB, hclB⟩, hPc⟩ := hp
  intro T hT X
  rcases vx_callVN X hx (C := C) (bytes := bytes) (maxL := maxL) (ret := ret) ho hl hx1 hx2 hcode hy hK (by rw [hT]; exact hcB) hoB hclB hg (hsize.trans hml.symm) (argsL := As) (rest := rest) (fun sig h => hn.trans (hlen sig h)) hstack hW (by rw [hb]; exact hdg)
    (fun vm₁ hW₁ => ⟨hf.1, hf.2, hPc (T.setVm vm₁) hT hW₁⟩) with ⟨v, vm₁, ⟨U', l2, c2, s2⟩, hW₁, X', ⟨g', mk, t, L, e1, e2, hq, h1, hL, h2, h3⟩, st⟩ | ⟨q, vm₁, ⟨U', l2, c2, s2⟩, hW₁, X', ⟨g', mk, t, L, E, ce, e1, e2, hq, hce, hcv, hcl, h1, hL, h2, h3⟩, st⟩
  · dsimp only [Pt.U, Pt.locs, Pt.cells, Pt.slots] at X' e1 e2 h1 h2 h3 st
    subst h1; subst h2; subst h3
    exact Or.inl ⟨v, (T.setVm vm₁).calling g' mk (Value.ref b :: As).toArray, t, U', L, hT, X', hL, e1, e2, hq, st⟩
  · dsimp only [Pt.U, Pt.locs, Pt.cells, Pt.slots] at X' e1 e2 h1 h2 h3 st hcl
    subst h1; subst h2; subst h3
    exact Or.inr ⟨q, (T.setVm vm₁).calling g' mk (Value.ref b :: As).toArray, t, U', L, E, ce, hT, X', hL, e1, e2, hq, hce, hcv, vx_cls hW₁ hcl, st⟩
theorem vx_runSN {y : MethodName} {bytes cc : ByteArray} {maxL nL mc ms n index : Nat} {ret : Option FieldType} {ws : List Cond} {rm : Room} {Pc : Array Value → State → Prop} {Qc : Array Value → State → Outcome → State → Prop} {XC : String → State → State → Prop} {free : Addr → Prop} {Ts : List Cond} {own host : String} {As rest : List Value} {g : JFrame}
    (S : CallFix p m c cc nL s args Ts own) (hM : vx_Met l y ws rm Pc Qc XC mc ms free) (cw : va_CN R s args own index y host bytes maxL ret ws rm mc ms n ∧ (Cond.static y).before args s = true ∧ True) (hp : PreS s H Pc As)
    (hg : g.method = m) (hn : As.length = n) (hsize : g.locals.size = nL) (hstack : g.stack = As.reverse ++ rest) (hW : 2 * g.monitorRoom + (rest.map fun v => v.category).sum ≤ 8) (hdg : decode cc g.pc = .ok (.invokestatic index, 3)) (hf : cells + mc ≤ R.cells ∧ slots + ms ≤ R.slots) :
    vx_Run p l e R s m args below meth c H locs cells slots mc ms g rest (Qc As.toArray) XC free := by
  obtain ⟨⟨⟨hrc, hrs, hfr, hlo, hws, hcw⟩, hcode, hini, hy, hlen, hl⟩, hx1, hx2⟩ := cw
  have hK : vx_Back l R p e below s args y 3 8 (PreOf R mc ms Pc) (PostOf Qc mc ms free) (vx_Post XC mc ms free) := vx_back (bytes := bytes) (maxL := maxL) (ret := ret) hM hp.1 hrc hrs hfr hlo hws hcw (fun a' U hW => word_at hW (Or.inl (by first | rfl | simp [Cond.onTables, Cond.keeps, Cond.steady])) hini)
  obtain ⟨hx, hb, hml, ho, -⟩ := S
  have hPc := hp.2
  intro T hT X
  rcases vx_callSN X hx (bytes := bytes) (maxL := maxL) (ret := ret) ho hl hx1 hini hcode hy hK hg (hsize.trans hml.symm) (argsL := As) (rest := rest) (fun sig h => hn.trans (hlen sig h)) hstack hW (by rw [hb]; exact hdg)
    (fun vm₁ hW₁ => ⟨hf.1, hf.2, hPc (T.setVm vm₁) hT hW₁⟩) with ⟨v, vm₁, ⟨U', l2, c2, s2⟩, hW₁, X', ⟨g', mk, t, L, e1, e2, hq, h1, hL, h2, h3⟩, st⟩ | ⟨q, vm₁, ⟨U', l2, c2, s2⟩, hW₁, X', ⟨g', mk, t, L, E, ce, e1, e2, hq, hce, hcv, hcl, h1, hL, h2, h3⟩, st⟩
  · dsimp only [Pt.U, Pt.locs, Pt.cells, Pt.slots] at X' e1 e2 h1 h2 h3 st
    subst h1; subst h2; subst h3
    exact Or.inl ⟨v, (T.setVm vm₁).calling g' mk As.toArray, t, U', L, hT, X', hL, e1, e2, hq, st⟩
  · dsimp only [Pt.U, Pt.locs, Pt.cells, Pt.slots] at X' e1 e2 h1 h2 h3 st hcl
    subst h1; subst h2; subst h3
    exact Or.inr ⟨q, (T.setVm vm₁).calling g' mk As.toArray, t, U', L, E, ce, hT, X', hL, e1, e2, hq, hce, hcv, vx_cls hW₁ hcl, st⟩
end
/-! ===== END ===== -/
end
section
/-! ===== BEGIN printed: names, fields, word lists, decode rows ===== -/
def RX0 : String := "ShipStores$History"
def TX0 : u_T := fun k => match k with
  | 0 => ("ShipStores$History", "number", "I", false)
  | 1 => ("ShipStores$History", "oldest", "I", false)
  | _ => ("ShipStores$History", "states", "[LShipStores$Ship;", true)
def tyX0 : Nat → FieldType := fun k => match k with
  | 0 => .int
  | 1 => .int
  | _ => .array (.object "ShipStores$Ship")
abbrev wsX00 : List Cond := u_ws RX0 TX0 3
theorem nmX0 : ∀ a, a < 3 → ∀ b, b < 3 → a ≠ b → (TX0 a).2.1 ≠ (TX0 b).2.1 := by decide +kernel
theorem tyX0_ok : ∀ k, k < 3 → parseFieldDescriptor (TX0 k).2.2.1 = some (tyX0 k) := by decide +kernel
abbrev cX0_init : ByteArray := prog_2_method_1_code
def yX0_init : MethodName := ⟨RX0, "<init>", "()V"⟩
abbrev cX0_save : ByteArray := prog_2_method_2_code
def yX0_save : MethodName := ⟨RX0, "save", "(LShipStores$Ship;)V"⟩
abbrev cX0_restore : ByteArray := prog_2_method_3_code
def yX0_restore : MethodName := ⟨RX0, "restore", "(LShipStores$Ship;)V"⟩
abbrev cX0_stateAt : ByteArray := prog_2_method_4_code
def yX0_stateAt : MethodName := ⟨RX0, "stateAt", "(I)LShipStores$Ship;"⟩
def RX1 : String := "ShipStores$Kinds"
def TX1 : u_T := fun k => match k with
  | 0 => ("ShipStores$Kinds", "number", "I", false)
  | 1 => ("ShipStores$Kinds", "lives", "LShipStores$Row;", true)
  | 2 => ("ShipStores$Kinds", "bought", "LShipStores$Row;", true)
  | 3 => ("ShipStores$Kinds", "eaten", "LShipStores$Row;", true)
  | 4 => ("ShipStores$Kinds", "spoiled", "LShipStores$Row;", true)
  | 5 => ("ShipStores$Kinds", "thrown", "LShipStores$Row;", true)
  | _ => ("ShipStores$Kinds", "lacking", "LShipStores$Row;", true)
def tyX1 : Nat → FieldType := fun k => match k with
  | 0 => .int
  | 1 => .object "ShipStores$Row"
  | 2 => .object "ShipStores$Row"
  | 3 => .object "ShipStores$Row"
  | 4 => .object "ShipStores$Row"
  | 5 => .object "ShipStores$Row"
  | _ => .object "ShipStores$Row"
abbrev wsX10 : List Cond := u_ws RX1 TX1 7
theorem nmX1 : ∀ a, a < 7 → ∀ b, b < 7 → a ≠ b → (TX1 a).2.1 ≠ (TX1 b).2.1 := by decide +kernel
theorem tyX1_ok : ∀ k, k < 7 → parseFieldDescriptor (TX1 k).2.2.1 = some (tyX1 k) := by decide +kernel
abbrev cX1_init : ByteArray := prog_3_method_1_code
def yX1_init : MethodName := ⟨RX1, "<init>", "()V"⟩
abbrev cX1_addOne : ByteArray := prog_3_method_2_code
def yX1_addOne : MethodName := ⟨RX1, "addOne", "(III)I"⟩
abbrev cX1_lifeIn : ByteArray := prog_3_method_3_code
def yX1_lifeIn : MethodName := ⟨RX1, "lifeIn", "(II)I"⟩
abbrev cX1_become : ByteArray := prog_3_method_4_code
def yX1_become : MethodName := ⟨RX1, "become", "(LShipStores$Kinds;)V"⟩
def RX2 : String := "ShipStores$Lots"
def TX2 : u_T := fun k => match k with
  | 0 => ("ShipStores$Lots", "number", "I", false)
  | 1 => ("ShipStores$Lots", "kindOf", "LShipStores$Row;", true)
  | 2 => ("ShipStores$Lots", "storeOf", "LShipStores$Row;", true)
  | 3 => ("ShipStores$Lots", "amount", "LShipStores$Row;", true)
  | _ => ("ShipStores$Lots", "age", "LShipStores$Row;", true)
def tyX2 : Nat → FieldType := fun k => match k with
  | 0 => .int
  | 1 => .object "ShipStores$Row"
  | 2 => .object "ShipStores$Row"
  | 3 => .object "ShipStores$Row"
  | _ => .object "ShipStores$Row"
abbrev wsX20 : List Cond := u_ws RX2 TX2 5
theorem nmX2 : ∀ a, a < 5 → ∀ b, b < 5 → a ≠ b → (TX2 a).2.1 ≠ (TX2 b).2.1 := by decide +kernel
theorem tyX2_ok : ∀ k, k < 5 → parseFieldDescriptor (TX2 k).2.2.1 = some (tyX2 k) := by decide +kernel
abbrev cX2_init : ByteArray := prog_4_method_1_code
def yX2_init : MethodName := ⟨RX2, "<init>", "()V"⟩
abbrev cX2_addOne : ByteArray := prog_4_method_2_code
def yX2_addOne : MethodName := ⟨RX2, "addOne", "(IIII)I"⟩
abbrev cX2_split : ByteArray := prog_4_method_3_code
def yX2_split : MethodName := ⟨RX2, "split", "(III)I"⟩
abbrev cX2_dropEmpty : ByteArray := prog_4_method_4_code
def yX2_dropEmpty : MethodName := ⟨RX2, "dropEmpty", "()V"⟩
abbrev cX2_copyLot : ByteArray := prog_4_method_5_code
def yX2_copyLot : MethodName := ⟨RX2, "copyLot", "(II)V"⟩
abbrev cX2_rations : ByteArray := prog_4_method_6_code
def yX2_rations : MethodName := ⟨RX2, "rations", "()I"⟩
abbrev cX2_rationsIn : ByteArray := prog_4_method_7_code
def yX2_rationsIn : MethodName := ⟨RX2, "rationsIn", "(I)I"⟩
abbrev cX2_rationsOf : ByteArray := prog_4_method_8_code
def yX2_rationsOf : MethodName := ⟨RX2, "rationsOf", "(I)I"⟩
abbrev cX2_numberIn : ByteArray := prog_4_method_9_code
def yX2_numberIn : MethodName := ⟨RX2, "numberIn", "(I)I"⟩
abbrev cX2_numberOf : ByteArray := prog_4_method_10_code
def yX2_numberOf : MethodName := ⟨RX2, "numberOf", "(I)I"⟩
abbrev cX2_ageSum : ByteArray := prog_4_method_11_code
def yX2_ageSum : MethodName := ⟨RX2, "ageSum", "()J"⟩
abbrev cX2_become : ByteArray := prog_4_method_12_code
def yX2_become : MethodName := ⟨RX2, "become", "(LShipStores$Lots;)V"⟩
def RX3 : String := "ShipStores$MenuText"
def TX3 : u_T := fun k => match k with
  | 0 => ("ShipStores$MenuText", "length", "I", false)
  | 1 => ("ShipStores$MenuText", "codes", "LShipStores$Row;", true)
  | 2 => ("ShipStores$MenuText", "menus", "LShipStores$Menus;", true)
  | 3 => ("ShipStores$MenuText", "highestKind", "I", false)
  | 4 => ("ShipStores$MenuText", "place", "I", false)
  | _ => ("ShipStores$MenuText", "item", "I", false)
def tyX3 : Nat → FieldType := fun k => match k with
  | 0 => .int
  | 1 => .object "ShipStores$Row"
  | 2 => .object "ShipStores$Menus"
  | 3 => .int
  | 4 => .int
  | _ => .int
abbrev wsX30 : List Cond := u_ws RX3 TX3 6
theorem nmX3 : ∀ a, a < 6 → ∀ b, b < 6 → a ≠ b → (TX3 a).2.1 ≠ (TX3 b).2.1 := by decide +kernel
theorem tyX3_ok : ∀ k, k < 6 → parseFieldDescriptor (TX3 k).2.2.1 = some (tyX3 k) := by decide +kernel
abbrev cX3_init : ByteArray := prog_5_method_1_code
def yX3_init : MethodName := ⟨RX3, "<init>", "()V"⟩
abbrev cX3_readMenus : ByteArray := prog_5_method_2_code
def yX3_readMenus : MethodName := ⟨RX3, "readMenus", "()I"⟩
abbrev cX3_isComplete : ByteArray := prog_5_method_3_code
def yX3_isComplete : MethodName := ⟨RX3, "isComplete", "()Z"⟩
abbrev cX3_accepts : ByteArray := prog_5_method_4_code
def yX3_accepts : MethodName := ⟨RX3, "accepts", "(I)Z"⟩
abbrev cX3_comesTo : ByteArray := prog_5_method_5_code
def yX3_comesTo : MethodName := ⟨RX3, "comesTo", "(I)Z"⟩
abbrev cX3_acceptsKind : ByteArray := prog_5_method_6_code
def yX3_acceptsKind : MethodName := ⟨RX3, "acceptsKind", "(I)Z"⟩
abbrev cX3_acceptsAmount : ByteArray := prog_5_method_7_code
def yX3_acceptsAmount : MethodName := ⟨RX3, "acceptsAmount", "(I)Z"⟩
abbrev cX3_acceptsSubstitute : ByteArray := prog_5_method_8_code
def yX3_acceptsSubstitute : MethodName := ⟨RX3, "acceptsSubstitute", "(I)Z"⟩
abbrev cX3_acceptsSeparator : ByteArray := prog_5_method_9_code
def yX3_acceptsSeparator : MethodName := ⟨RX3, "acceptsSeparator", "(I)Z"⟩
abbrev cX3_beginsMenu : ByteArray := prog_5_method_10_code
def yX3_beginsMenu : MethodName := ⟨RX3, "beginsMenu", "()Z"⟩
abbrev cX3_slot : ByteArray := prog_5_method_11_code
def yX3_slot : MethodName := ⟨RX3, "slot", "()I"⟩
def RX4 : String := "ShipStores$Menus"
def TX4 : u_T := fun k => match k with
  | 0 => ("ShipStores$Menus", "number", "I", false)
  | 1 => ("ShipStores$Menus", "kindOf", "LShipStores$Row;", true)
  | 2 => ("ShipStores$Menus", "amount", "LShipStores$Row;", true)
  | _ => ("ShipStores$Menus", "substitute", "LShipStores$Row;", true)
def tyX4 : Nat → FieldType := fun k => match k with
  | 0 => .int
  | 1 => .object "ShipStores$Row"
  | 2 => .object "ShipStores$Row"
  | _ => .object "ShipStores$Row"
abbrev wsX40 : List Cond := u_ws RX4 TX4 4
theorem nmX4 : ∀ a, a < 4 → ∀ b, b < 4 → a ≠ b → (TX4 a).2.1 ≠ (TX4 b).2.1 := by decide +kernel
theorem tyX4_ok : ∀ k, k < 4 → parseFieldDescriptor (TX4 k).2.2.1 = some (tyX4 k) := by decide +kernel
abbrev cX4_init : ByteArray := prog_6_method_1_code
def yX4_init : MethodName := ⟨RX4, "<init>", "()V"⟩
abbrev cX4_slot : ByteArray := prog_6_method_2_code
def yX4_slot : MethodName := ⟨RX4, "slot", "(II)I"⟩
abbrev cX4_has : ByteArray := prog_6_method_3_code
def yX4_has : MethodName := ⟨RX4, "has", "(I)Z"⟩
abbrev cX4_ofDay : ByteArray := prog_6_method_4_code
def yX4_ofDay : MethodName := ⟨RX4, "ofDay", "(I)I"⟩
abbrev cX4_forget : ByteArray := prog_6_method_5_code
def yX4_forget : MethodName := ⟨RX4, "forget", "()V"⟩
abbrev cX4_become : ByteArray := prog_6_method_6_code
def yX4_become : MethodName := ⟨RX4, "become", "(LShipStores$Menus;)V"⟩
def RX5 : String := "ShipStores$Ports"
def TX5 : u_T := fun k => match k with
  | 0 => ("ShipStores$Ports", "number", "I", false)
  | 1 => ("ShipStores$Ports", "day", "LShipStores$Row;", true)
  | 2 => ("ShipStores$Ports", "staleness", "LShipStores$Row;", true)
  | _ => ("ShipStores$Ports", "prices", "LShipStores$Row;", true)
def tyX5 : Nat → FieldType := fun k => match k with
  | 0 => .int
  | 1 => .object "ShipStores$Row"
  | 2 => .object "ShipStores$Row"
  | _ => .object "ShipStores$Row"
abbrev wsX50 : List Cond := u_ws RX5 TX5 4
theorem nmX5 : ∀ a, a < 4 → ∀ b, b < 4 → a ≠ b → (TX5 a).2.1 ≠ (TX5 b).2.1 := by decide +kernel
theorem tyX5_ok : ∀ k, k < 4 → parseFieldDescriptor (TX5 k).2.2.1 = some (tyX5 k) := by decide +kernel
abbrev cX5_init : ByteArray := prog_7_method_1_code
def yX5_init : MethodName := ⟨RX5, "<init>", "()V"⟩
abbrev cX5_onDay : ByteArray := prog_7_method_2_code
def yX5_onDay : MethodName := ⟨RX5, "onDay", "(I)I"⟩
abbrev cX5_after : ByteArray := prog_7_method_3_code
def yX5_after : MethodName := ⟨RX5, "after", "(I)I"⟩
abbrev cX5_priceOf : ByteArray := prog_7_method_4_code
def yX5_priceOf : MethodName := ⟨RX5, "priceOf", "(II)I"⟩
abbrev cX5_putPrice : ByteArray := prog_7_method_5_code
def yX5_putPrice : MethodName := ⟨RX5, "putPrice", "(III)V"⟩
abbrev cX5_insert : ByteArray := prog_7_method_6_code
def yX5_insert : MethodName := ⟨RX5, "insert", "(II)I"⟩
abbrev cX5_takeOut : ByteArray := prog_7_method_7_code
def yX5_takeOut : MethodName := ⟨RX5, "takeOut", "(I)V"⟩
abbrev cX5_copyPort : ByteArray := prog_7_method_8_code
def yX5_copyPort : MethodName := ⟨RX5, "copyPort", "(II)V"⟩
abbrev cX5_become : ByteArray := prog_7_method_9_code
def yX5_become : MethodName := ⟨RX5, "become", "(LShipStores$Ports;)V"⟩
def RX6 : String := "ShipStores$Row"
def TX6 : u_T := fun k => match k with
  | _ => ("ShipStores$Row", "cells", "[I", true)
def tyX6 : Nat → FieldType := fun k => match k with
  | _ => .array .int
abbrev wsX60 : List Cond := u_ws RX6 TX6 1
theorem nmX6 : ∀ a, a < 1 → ∀ b, b < 1 → a ≠ b → (TX6 a).2.1 ≠ (TX6 b).2.1 := by decide +kernel
theorem tyX6_ok : ∀ k, k < 1 → parseFieldDescriptor (TX6 k).2.2.1 = some (tyX6 k) := by decide +kernel
abbrev cX6_init : ByteArray := prog_8_method_1_code
def yX6_init : MethodName := ⟨RX6, "<init>", "(I)V"⟩
abbrev cX6_at : ByteArray := prog_8_method_2_code
def yX6_at : MethodName := ⟨RX6, "at", "(I)I"⟩
abbrev cX6_put : ByteArray := prog_8_method_3_code
def yX6_put : MethodName := ⟨RX6, "put", "(II)V"⟩
abbrev cX6_add : ByteArray := prog_8_method_4_code
def yX6_add : MethodName := ⟨RX6, "add", "(II)V"⟩
abbrev cX6_fill : ByteArray := prog_8_method_5_code
def yX6_fill : MethodName := ⟨RX6, "fill", "(I)V"⟩
abbrev cX6_sum : ByteArray := prog_8_method_6_code
def yX6_sum : MethodName := ⟨RX6, "sum", "()I"⟩
abbrev cX6_become : ByteArray := prog_8_method_7_code
def yX6_become : MethodName := ⟨RX6, "become", "(LShipStores$Row;)V"⟩
def RX7 : String := "ShipStores$Ship"
def TX7 : u_T := fun k => match k with
  | 0 => ("ShipStores$Ship", "day", "I", false)
  | 1 => ("ShipStores$Ship", "heads", "I", false)
  | 2 => ("ShipStores$Ship", "purse", "I", false)
  | 3 => ("ShipStores$Ship", "spent", "I", false)
  | 4 => ("ShipStores$Ship", "hungryDays", "I", false)
  | 5 => ("ShipStores$Ship", "kinds", "LShipStores$Kinds;", true)
  | 6 => ("ShipStores$Ship", "stores", "LShipStores$Stores;", true)
  | 7 => ("ShipStores$Ship", "lots", "LShipStores$Lots;", true)
  | 8 => ("ShipStores$Ship", "ports", "LShipStores$Ports;", true)
  | 9 => ("ShipStores$Ship", "menus", "LShipStores$Menus;", true)
  | _ => ("ShipStores$Ship", "daysLeft", "LShipStores$Row;", true)
def tyX7 : Nat → FieldType := fun k => match k with
  | 0 => .int
  | 1 => .int
  | 2 => .int
  | 3 => .int
  | 4 => .int
  | 5 => .object "ShipStores$Kinds"
  | 6 => .object "ShipStores$Stores"
  | 7 => .object "ShipStores$Lots"
  | 8 => .object "ShipStores$Ports"
  | 9 => .object "ShipStores$Menus"
  | _ => .object "ShipStores$Row"
abbrev wsX70 : List Cond := u_ws RX7 TX7 11
theorem nmX7 : ∀ a, a < 11 → ∀ b, b < 11 → a ≠ b → (TX7 a).2.1 ≠ (TX7 b).2.1 := by decide +kernel
theorem tyX7_ok : ∀ k, k < 11 → parseFieldDescriptor (TX7 k).2.2.1 = some (tyX7 k) := by decide +kernel
abbrev cX7_init : ByteArray := prog_9_method_1_code
def yX7_init : MethodName := ⟨RX7, "<init>", "()V"⟩
abbrev cX7_lifeNow : ByteArray := prog_9_method_2_code
def yX7_lifeNow : MethodName := ⟨RX7, "lifeNow", "(II)I"⟩
abbrev cX7_roomLeft : ByteArray := prog_9_method_3_code
def yX7_roomLeft : MethodName := ⟨RX7, "roomLeft", "(I)I"⟩
abbrev cX7_refusal : ByteArray := prog_9_method_4_code
def yX7_refusal : MethodName := ⟨RX7, "refusal", "(III)I"⟩
abbrev cX7_purchase : ByteArray := prog_9_method_5_code
def yX7_purchase : MethodName := ⟨RX7, "purchase", "(III)I"⟩
abbrev cX7_daysToNextPort : ByteArray := prog_9_method_6_code
def yX7_daysToNextPort : MethodName := ⟨RX7, "daysToNextPort", "()I"⟩
abbrev cX7_daysLeftOf : ByteArray := prog_9_method_7_code
def yX7_daysLeftOf : MethodName := ⟨RX7, "daysLeftOf", "(I)I"⟩
abbrev cX7_eatingPlaceOf : ByteArray := prog_9_method_8_code
def yX7_eatingPlaceOf : MethodName := ⟨RX7, "eatingPlaceOf", "(I)I"⟩
abbrev cX7_firstShort : ByteArray := prog_9_method_9_code
def yX7_firstShort : MethodName := ⟨RX7, "firstShort", "(II)I"⟩
abbrev cX7_passDays : ByteArray := prog_9_method_10_code
def yX7_passDays : MethodName := ⟨RX7, "passDays", "(I)V"⟩
abbrev cX7_passDay : ByteArray := prog_9_method_11_code
def yX7_passDay : MethodName := ⟨RX7, "passDay", "()V"⟩
abbrev cX7_serveItem : ByteArray := prog_9_method_12_code
def yX7_serveItem : MethodName := ⟨RX7, "serveItem", "(I)I"⟩
abbrev cX7_eatOf : ByteArray := prog_9_method_13_code
def yX7_eatOf : MethodName := ⟨RX7, "eatOf", "(II)I"⟩
abbrev cX7_nextToEat : ByteArray := prog_9_method_14_code
def yX7_nextToEat : MethodName := ⟨RX7, "nextToEat", "(I)I"⟩
abbrev cX7_ageLots : ByteArray := prog_9_method_15_code
def yX7_ageLots : MethodName := ⟨RX7, "ageLots", "()V"⟩
abbrev cX7_stepFor : ByteArray := prog_9_method_16_code
def yX7_stepFor : MethodName := ⟨RX7, "stepFor", "(I)I"⟩
abbrev cX7_stepsTo : ByteArray := prog_9_method_17_code
def yX7_stepsTo : MethodName := ⟨RX7, "stepsTo", "(II)I"⟩
abbrev cX7_become : ByteArray := prog_9_method_18_code
def yX7_become : MethodName := ⟨RX7, "become", "(LShipStores$Ship;)V"⟩
def RX8 : String := "ShipStores$Stores"
def TX8 : u_T := fun k => match k with
  | 0 => ("ShipStores$Stores", "room", "LShipStores$Row;", true)
  | _ => ("ShipStores$Stores", "warmDays", "LShipStores$Row;", true)
def tyX8 : Nat → FieldType := fun k => match k with
  | 0 => .object "ShipStores$Row"
  | _ => .object "ShipStores$Row"
abbrev wsX80 : List Cond := u_ws RX8 TX8 2
theorem nmX8 : ∀ a, a < 2 → ∀ b, b < 2 → a ≠ b → (TX8 a).2.1 ≠ (TX8 b).2.1 := by decide +kernel
theorem tyX8_ok : ∀ k, k < 2 → parseFieldDescriptor (TX8 k).2.2.1 = some (tyX8 k) := by decide +kernel
abbrev cX8_init : ByteArray := prog_10_method_1_code
def yX8_init : MethodName := ⟨RX8, "<init>", "()V"⟩
abbrev cX8_endDay : ByteArray := prog_10_method_2_code
def yX8_endDay : MethodName := ⟨RX8, "endDay", "()V"⟩
abbrev cX8_become : ByteArray := prog_10_method_3_code
def yX8_become : MethodName := ⟨RX8, "become", "(LShipStores$Stores;)V"⟩
def RX9 : String := "ShipStores"
def TX9 : u_T := fun k => match k with
  | 0 => ("ShipStores", "ship", "LShipStores$Ship;", true)
  | 1 => ("ShipStores", "trial", "LShipStores$Ship;", true)
  | 2 => ("ShipStores", "history", "LShipStores$History;", true)
  | _ => ("ShipStores", "text", "LShipStores$MenuText;", true)
def tyX9 : Nat → FieldType := fun k => match k with
  | 0 => .object "ShipStores$Ship"
  | 1 => .object "ShipStores$Ship"
  | 2 => .object "ShipStores$History"
  | _ => .object "ShipStores$MenuText"
abbrev wsX90 : List Cond := u_ws RX9 TX9 4
theorem nmX9 : ∀ a, a < 4 → ∀ b, b < 4 → a ≠ b → (TX9 a).2.1 ≠ (TX9 b).2.1 := by decide +kernel
theorem tyX9_ok : ∀ k, k < 4 → parseFieldDescriptor (TX9 k).2.2.1 = some (tyX9 k) := by decide +kernel
abbrev cX9_init : ByteArray := prog_1_method_1_code
def yX9_init : MethodName := ⟨RX9, "<init>", "()V"⟩
abbrev cX9_addKind : ByteArray := prog_1_method_2_code
def yX9_addKind : MethodName := ⟨RX9, "addKind", "(III)I"⟩
abbrev cX9_setRoom : ByteArray := prog_1_method_3_code
def yX9_setRoom : MethodName := ⟨RX9, "setRoom", "(II)I"⟩
abbrev cX9_warm : ByteArray := prog_1_method_4_code
def yX9_warm : MethodName := ⟨RX9, "warm", "(II)I"⟩
abbrev cX9_setCrew : ByteArray := prog_1_method_5_code
def yX9_setCrew : MethodName := ⟨RX9, "setCrew", "(I)I"⟩
abbrev cX9_pay : ByteArray := prog_1_method_6_code
def yX9_pay : MethodName := ⟨RX9, "pay", "(I)I"⟩
abbrev cX9_addPort : ByteArray := prog_1_method_7_code
def yX9_addPort : MethodName := ⟨RX9, "addPort", "(II)I"⟩
abbrev cX9_removePort : ByteArray := prog_1_method_8_code
def yX9_removePort : MethodName := ⟨RX9, "removePort", "(I)I"⟩
abbrev cX9_setPrice : ByteArray := prog_1_method_9_code
def yX9_setPrice : MethodName := ⟨RX9, "setPrice", "(III)I"⟩
abbrev cX9_buy : ByteArray := prog_1_method_10_code
def yX9_buy : MethodName := ⟨RX9, "buy", "(III)I"⟩
abbrev cX9_move : ByteArray := prog_1_method_11_code
def yX9_move : MethodName := ⟨RX9, "move", "(III)I"⟩
abbrev cX9_discard : ByteArray := prog_1_method_12_code
def yX9_discard : MethodName := ⟨RX9, "discard", "(II)I"⟩
abbrev cX9_pass : ByteArray := prog_1_method_13_code
def yX9_pass : MethodName := ⟨RX9, "pass", "(I)I"⟩
abbrev cX9_append : ByteArray := prog_1_method_14_code
def yX9_append : MethodName := ⟨RX9, "append", "(I)I"⟩
abbrev cX9_clearBuffer : ByteArray := prog_1_method_15_code
def yX9_clearBuffer : MethodName := ⟨RX9, "clearBuffer", "()I"⟩
abbrev cX9_firstError : ByteArray := prog_1_method_16_code
def yX9_firstError : MethodName := ⟨RX9, "firstError", "()I"⟩
abbrev cX9_load : ByteArray := prog_1_method_17_code
def yX9_load : MethodName := ⟨RX9, "load", "()I"⟩
abbrev cX9_undo : ByteArray := prog_1_method_18_code
def yX9_undo : MethodName := ⟨RX9, "undo", "()I"⟩
abbrev cX9_lot : ByteArray := prog_1_method_19_code
def yX9_lot : MethodName := ⟨RX9, "lot", "(II)I"⟩
abbrev cX9_store : ByteArray := prog_1_method_20_code
def yX9_store : MethodName := ⟨RX9, "store", "(II)I"⟩
abbrev cX9_kind : ByteArray := prog_1_method_21_code
def yX9_kind : MethodName := ⟨RX9, "kind", "(II)I"⟩
abbrev cX9_port : ByteArray := prog_1_method_22_code
def yX9_port : MethodName := ⟨RX9, "port", "(II)I"⟩
abbrev cX9_menu : ByteArray := prog_1_method_23_code
def yX9_menu : MethodName := ⟨RX9, "menu", "(III)I"⟩
abbrev cX9_count : ByteArray := prog_1_method_24_code
def yX9_count : MethodName := ⟨RX9, "count", "(I)I"⟩
abbrev cX9_why : ByteArray := prog_1_method_25_code
def yX9_why : MethodName := ⟨RX9, "why", "(III)I"⟩
abbrev cX9_ifPass : ByteArray := prog_1_method_26_code
def yX9_ifPass : MethodName := ⟨RX9, "ifPass", "(II)I"⟩
abbrev cX9_spoils : ByteArray := prog_1_method_27_code
def yX9_spoils : MethodName := ⟨RX9, "spoils", "(II)I"⟩
abbrev cX9_shortIn : ByteArray := prog_1_method_28_code
def yX9_shortIn : MethodName := ⟨RX9, "shortIn", "(I)I"⟩
abbrev cX9_bestStore : ByteArray := prog_1_method_29_code
def yX9_bestStore : MethodName := ⟨RX9, "bestStore", "(I)I"⟩
abbrev cX9_leastPurchase : ByteArray := prog_1_method_30_code
def yX9_leastPurchase : MethodName := ⟨RX9, "leastPurchase", "(II)I"⟩
abbrev cX9_cheapest : ByteArray := prog_1_method_31_code
def yX9_cheapest : MethodName := ⟨RX9, "cheapest", "(I)I"⟩
abbrev cX9_meanAge : ByteArray := prog_1_method_32_code
def yX9_meanAge : MethodName := ⟨RX9, "meanAge", "()D"⟩
abbrev cX9_digest : ByteArray := prog_1_method_33_code
def yX9_digest : MethodName := ⟨RX9, "digest", "()J"⟩
abbrev cX9_outcomeOfTrial : ByteArray := prog_1_method_34_code
def yX9_outcomeOfTrial : MethodName := ⟨RX9, "outcomeOfTrial", "(I)I"⟩
abbrev cX9_bitsOf : ByteArray := prog_1_method_35_code
def yX9_bitsOf : MethodName := ⟨RX9, "bitsOf", "(D)J"⟩
abbrev cX9_isWithin : ByteArray := prog_1_method_36_code
def yX9_isWithin : MethodName := ⟨RX9, "isWithin", "(III)Z"⟩
abbrev cX9_requireWithin : ByteArray := prog_1_method_37_code
def yX9_requireWithin : MethodName := ⟨RX9, "requireWithin", "(III)V"⟩
abbrev cX9_requireStore : ByteArray := prog_1_method_38_code
def yX9_requireStore : MethodName := ⟨RX9, "requireStore", "(I)V"⟩
abbrev cX9_requireKind : ByteArray := prog_1_method_39_code
def yX9_requireKind : MethodName := ⟨RX9, "requireKind", "(I)V"⟩
abbrev cX9_requireLot : ByteArray := prog_1_method_40_code
def yX9_requireLot : MethodName := ⟨RX9, "requireLot", "(I)V"⟩
abbrev cX9_requirePort : ByteArray := prog_1_method_41_code
def yX9_requirePort : MethodName := ⟨RX9, "requirePort", "(I)V"⟩
def RX10 : String := "ShipStoresModel"
def TX10 : u_T := fun k => match k with
  | 0 => ("ShipStoresModel", "thrown", "I", false)
  | 1 => ("ShipStoresModel", "z", "[I", true)
  | 2 => ("ShipStoresModel", "aside", "[I", true)
  | 3 => ("ShipStoresModel", "states", "I", false)
  | 4 => ("ShipStoresModel", "saved", "[I", true)
  | 5 => ("ShipStoresModel", "length", "I", false)
  | 6 => ("ShipStoresModel", "buffer", "[I", true)
  | 7 => ("ShipStoresModel", "mornings", "[I", true)
  | 8 => ("ShipStoresModel", "items", "[I", true)
  | 9 => ("ShipStoresModel", "itemsOf", "[I", true)
  | 10 => ("ShipStoresModel", "menus", "I", false)
  | 11 => ("ShipStoresModel", "due", "I", false)
  | _ => ("ShipStoresModel", "hash", "J", false)
def tyX10 : Nat → FieldType := fun k => match k with
  | 0 => .int
  | 1 => .array .int
  | 2 => .array .int
  | 3 => .int
  | 4 => .array .int
  | 5 => .int
  | 6 => .array .int
  | 7 => .array .int
  | 8 => .array .int
  | 9 => .array .int
  | 10 => .int
  | 11 => .int
  | _ => .long
abbrev wsX100 : List Cond := u_ws RX10 TX10 13
theorem nmX10 : ∀ a, a < 13 → ∀ b, b < 13 → a ≠ b → (TX10 a).2.1 ≠ (TX10 b).2.1 := by decide +kernel
theorem tyX10_ok : ∀ k, k < 13 → parseFieldDescriptor (TX10 k).2.2.1 = some (tyX10 k) := by decide +kernel
abbrev cX10_init : ByteArray := prog_12_method_1_code
def yX10_init : MethodName := ⟨RX10, "<init>", "()V"⟩
abbrev cX10_thrown : ByteArray := prog_12_method_2_code
def yX10_thrown : MethodName := ⟨RX10, "thrown", "()I"⟩
abbrev cX10_within : ByteArray := prog_12_method_3_code
def yX10_within : MethodName := ⟨RX10, "within", "(III)Z"⟩
abbrev cX10_of : ByteArray := prog_12_method_4_code
def yX10_of : MethodName := ⟨RX10, "of", "(II)I"⟩
abbrev cX10_tally : ByteArray := prog_12_method_5_code
def yX10_tally : MethodName := ⟨RX10, "tally", "(III)V"⟩
abbrev cX10_isKind : ByteArray := prog_12_method_6_code
def yX10_isKind : MethodName := ⟨RX10, "isKind", "(I)Z"⟩
abbrev cX10_isLot : ByteArray := prog_12_method_7_code
def yX10_isLot : MethodName := ⟨RX10, "isLot", "(I)Z"⟩
abbrev cX10_isPort : ByteArray := prog_12_method_8_code
def yX10_isPort : MethodName := ⟨RX10, "isPort", "(I)Z"⟩
abbrev cX10_isStore : ByteArray := prog_12_method_9_code
def yX10_isStore : MethodName := ⟨RX10, "isStore", "(I)Z"⟩
abbrev cX10_copy : ByteArray := prog_12_method_10_code
def yX10_copy : MethodName := ⟨RX10, "copy", "([II[II)V"⟩
abbrev cX10_save : ByteArray := prog_12_method_11_code
def yX10_save : MethodName := ⟨RX10, "save", "()V"⟩
abbrev cX10_isLife : ByteArray := prog_12_method_12_code
def yX10_isLife : MethodName := ⟨RX10, "isLife", "(I)Z"⟩
abbrev cX10_addKind : ByteArray := prog_12_method_13_code
def yX10_addKind : MethodName := ⟨RX10, "addKind", "(III)I"⟩
abbrev cX10_inStore : ByteArray := prog_12_method_14_code
def yX10_inStore : MethodName := ⟨RX10, "inStore", "(I)I"⟩
abbrev cX10_setRoom : ByteArray := prog_12_method_15_code
def yX10_setRoom : MethodName := ⟨RX10, "setRoom", "(II)I"⟩
abbrev cX10_warm : ByteArray := prog_12_method_16_code
def yX10_warm : MethodName := ⟨RX10, "warm", "(II)I"⟩
abbrev cX10_setCrew : ByteArray := prog_12_method_17_code
def yX10_setCrew : MethodName := ⟨RX10, "setCrew", "(I)I"⟩
abbrev cX10_pay : ByteArray := prog_12_method_18_code
def yX10_pay : MethodName := ⟨RX10, "pay", "(I)I"⟩
abbrev cX10_portOf : ByteArray := prog_12_method_19_code
def yX10_portOf : MethodName := ⟨RX10, "portOf", "(I)I"⟩
abbrev cX10_addPort : ByteArray := prog_12_method_20_code
def yX10_addPort : MethodName := ⟨RX10, "addPort", "(II)I"⟩
abbrev cX10_removePort : ByteArray := prog_12_method_21_code
def yX10_removePort : MethodName := ⟨RX10, "removePort", "(I)I"⟩
abbrev cX10_setPrice : ByteArray := prog_12_method_22_code
def yX10_setPrice : MethodName := ⟨RX10, "setPrice", "(III)I"⟩
abbrev cX10_lifeIn : ByteArray := prog_12_method_23_code
def yX10_lifeIn : MethodName := ⟨RX10, "lifeIn", "(III)I"⟩
abbrev cX10_ages : ByteArray := prog_12_method_24_code
def yX10_ages : MethodName := ⟨RX10, "ages", "(III)I"⟩
abbrev cX10_daysLeft : ByteArray := prog_12_method_25_code
def yX10_daysLeft : MethodName := ⟨RX10, "daysLeft", "(I)I"⟩
abbrev cX10_putLot : ByteArray := prog_12_method_26_code
def yX10_putLot : MethodName := ⟨RX10, "putLot", "(IIII)V"⟩
abbrev cX10_dropEmpty : ByteArray := prog_12_method_27_code
def yX10_dropEmpty : MethodName := ⟨RX10, "dropEmpty", "()V"⟩
abbrev cX10_refusal : ByteArray := prog_12_method_28_code
def yX10_refusal : MethodName := ⟨RX10, "refusal", "(III)I"⟩
abbrev cX10_isAmount : ByteArray := prog_12_method_29_code
def yX10_isAmount : MethodName := ⟨RX10, "isAmount", "(I)Z"⟩
abbrev cX10_buy : ByteArray := prog_12_method_30_code
def yX10_buy : MethodName := ⟨RX10, "buy", "(III)I"⟩
abbrev cX10_move : ByteArray := prog_12_method_31_code
def yX10_move : MethodName := ⟨RX10, "move", "(III)I"⟩
abbrev cX10_rations : ByteArray := prog_12_method_32_code
def yX10_rations : MethodName := ⟨RX10, "rations", "()I"⟩
abbrev cX10_discard : ByteArray := prog_12_method_33_code
def yX10_discard : MethodName := ⟨RX10, "discard", "(II)I"⟩
abbrev cX10_nextLot : ByteArray := prog_12_method_34_code
def yX10_nextLot : MethodName := ⟨RX10, "nextLot", "(I)I"⟩
abbrev cX10_eat : ByteArray := prog_12_method_35_code
def yX10_eat : MethodName := ⟨RX10, "eat", "(II)I"⟩
abbrev cX10_serve : ByteArray := prog_12_method_36_code
def yX10_serve : MethodName := ⟨RX10, "serve", "()Z"⟩
abbrev cX10_age : ByteArray := prog_12_method_37_code
def yX10_age : MethodName := ⟨RX10, "age", "()V"⟩
abbrev cX10_passDay : ByteArray := prog_12_method_38_code
def yX10_passDay : MethodName := ⟨RX10, "passDay", "()V"⟩
abbrev cX10_all : ByteArray := prog_12_method_39_code
def yX10_all : MethodName := ⟨RX10, "all", "(I)I"⟩
abbrev cX10_passDays : ByteArray := prog_12_method_40_code
def yX10_passDays : MethodName := ⟨RX10, "passDays", "(I)V"⟩
abbrev cX10_pass : ByteArray := prog_12_method_41_code
def yX10_pass : MethodName := ⟨RX10, "pass", "(I)I"⟩
abbrev cX10_takesItem : ByteArray := prog_12_method_42_code
def yX10_takesItem : MethodName := ⟨RX10, "takesItem", "(I)Z"⟩
abbrev cX10_goesOn : ByteArray := prog_12_method_43_code
def yX10_goesOn : MethodName := ⟨RX10, "goesOn", "(I)Z"⟩
abbrev cX10_takes : ByteArray := prog_12_method_44_code
def yX10_takes : MethodName := ⟨RX10, "takes", "(I)Z"⟩
abbrev cX10_rightLength : ByteArray := prog_12_method_45_code
def yX10_rightLength : MethodName := ⟨RX10, "rightLength", "()I"⟩
abbrev cX10_append : ByteArray := prog_12_method_46_code
def yX10_append : MethodName := ⟨RX10, "append", "(I)I"⟩
abbrev cX10_clearBuffer : ByteArray := prog_12_method_47_code
def yX10_clearBuffer : MethodName := ⟨RX10, "clearBuffer", "()I"⟩
abbrev cX10_firstError : ByteArray := prog_12_method_48_code
def yX10_firstError : MethodName := ⟨RX10, "firstError", "()I"⟩
abbrev cX10_areKinds : ByteArray := prog_12_method_49_code
def yX10_areKinds : MethodName := ⟨RX10, "areKinds", "()Z"⟩
abbrev cX10_load : ByteArray := prog_12_method_50_code
def yX10_load : MethodName := ⟨RX10, "load", "()I"⟩
abbrev cX10_undo : ByteArray := prog_12_method_51_code
def yX10_undo : MethodName := ⟨RX10, "undo", "()I"⟩
abbrev cX10_placeOf : ByteArray := prog_12_method_52_code
def yX10_placeOf : MethodName := ⟨RX10, "placeOf", "(I)I"⟩
abbrev cX10_lotNow : ByteArray := prog_12_method_53_code
def yX10_lotNow : MethodName := ⟨RX10, "lotNow", "(II)I"⟩
abbrev cX10_lot : ByteArray := prog_12_method_54_code
def yX10_lot : MethodName := ⟨RX10, "lot", "(II)I"⟩
abbrev cX10_lotsWith : ByteArray := prog_12_method_55_code
def yX10_lotsWith : MethodName := ⟨RX10, "lotsWith", "(II)I"⟩
abbrev cX10_storeNow : ByteArray := prog_12_method_56_code
def yX10_storeNow : MethodName := ⟨RX10, "storeNow", "(II)I"⟩
abbrev cX10_store : ByteArray := prog_12_method_57_code
def yX10_store : MethodName := ⟨RX10, "store", "(II)I"⟩
abbrev cX10_inLots : ByteArray := prog_12_method_58_code
def yX10_inLots : MethodName := ⟨RX10, "inLots", "(I)I"⟩
abbrev cX10_kindNow : ByteArray := prog_12_method_59_code
def yX10_kindNow : MethodName := ⟨RX10, "kindNow", "(II)I"⟩
abbrev cX10_kind : ByteArray := prog_12_method_60_code
def yX10_kind : MethodName := ⟨RX10, "kind", "(II)I"⟩
abbrev cX10_port : ByteArray := prog_12_method_61_code
def yX10_port : MethodName := ⟨RX10, "port", "(II)I"⟩
abbrev cX10_menuNow : ByteArray := prog_12_method_62_code
def yX10_menuNow : MethodName := ⟨RX10, "menuNow", "(III)I"⟩
abbrev cX10_menu : ByteArray := prog_12_method_63_code
def yX10_menu : MethodName := ⟨RX10, "menu", "(III)I"⟩
abbrev cX10_nextPort : ByteArray := prog_12_method_64_code
def yX10_nextPort : MethodName := ⟨RX10, "nextPort", "()I"⟩
abbrev cX10_counted : ByteArray := prog_12_method_65_code
def yX10_counted : MethodName := ⟨RX10, "counted", "(I)I"⟩
abbrev cX10_count : ByteArray := prog_12_method_66_code
def yX10_count : MethodName := ⟨RX10, "count", "(I)I"⟩
abbrev cX10_why : ByteArray := prog_12_method_67_code
def yX10_why : MethodName := ⟨RX10, "why", "(III)I"⟩
abbrev cX10_ahead : ByteArray := prog_12_method_68_code
def yX10_ahead : MethodName := ⟨RX10, "ahead", "(II)I"⟩
abbrev cX10_isDays : ByteArray := prog_12_method_69_code
def yX10_isDays : MethodName := ⟨RX10, "isDays", "(I)Z"⟩
abbrev cX10_ifPass : ByteArray := prog_12_method_70_code
def yX10_ifPass : MethodName := ⟨RX10, "ifPass", "(II)I"⟩
abbrev cX10_spoils : ByteArray := prog_12_method_71_code
def yX10_spoils : MethodName := ⟨RX10, "spoils", "(II)I"⟩
abbrev cX10_firstShort : ByteArray := prog_12_method_72_code
def yX10_firstShort : MethodName := ⟨RX10, "firstShort", "(II)I"⟩
abbrev cX10_shortNow : ByteArray := prog_12_method_73_code
def yX10_shortNow : MethodName := ⟨RX10, "shortNow", "(I)I"⟩
abbrev cX10_shortIn : ByteArray := prog_12_method_74_code
def yX10_shortIn : MethodName := ⟨RX10, "shortIn", "(I)I"⟩
abbrev cX10_bestNow : ByteArray := prog_12_method_75_code
def yX10_bestNow : MethodName := ⟨RX10, "bestNow", "(I)I"⟩
abbrev cX10_bestStore : ByteArray := prog_12_method_76_code
def yX10_bestStore : MethodName := ⟨RX10, "bestStore", "(I)I"⟩
abbrev cX10_leastPurchase : ByteArray := prog_12_method_77_code
def yX10_leastPurchase : MethodName := ⟨RX10, "leastPurchase", "(II)I"⟩
abbrev cX10_cheapest : ByteArray := prog_12_method_78_code
def yX10_cheapest : MethodName := ⟨RX10, "cheapest", "(I)I"⟩
abbrev cX10_meanNow : ByteArray := prog_12_method_79_code
def yX10_meanNow : MethodName := ⟨RX10, "meanNow", "()D"⟩
abbrev cX10_meanAge : ByteArray := prog_12_method_80_code
def yX10_meanAge : MethodName := ⟨RX10, "meanAge", "()D"⟩
abbrev cX10_mix : ByteArray := prog_12_method_81_code
def yX10_mix : MethodName := ⟨RX10, "mix", "(J)V"⟩
abbrev cX10_mixKinds : ByteArray := prog_12_method_82_code
def yX10_mixKinds : MethodName := ⟨RX10, "mixKinds", "()V"⟩
abbrev cX10_mixPorts : ByteArray := prog_12_method_83_code
def yX10_mixPorts : MethodName := ⟨RX10, "mixPorts", "()V"⟩
abbrev cX10_digest : ByteArray := prog_12_method_84_code
def yX10_digest : MethodName := ⟨RX10, "digest", "()J"⟩
def RJxe99ae : String := "java/lang/Double"
def TJxe99ae : u_T := fun k => match k with
  | _ => ("", "", "", false)
def tyJxe99ae : Nat → FieldType := fun k => match k with
  | _ => .int
abbrev wsJxe99ae0 : List Cond := u_ws RJxe99ae TJxe99ae 0
theorem nmJxe99ae : ∀ a, a < 0 → ∀ b, b < 0 → a ≠ b → (TJxe99ae a).2.1 ≠ (TJxe99ae b).2.1 := by decide +kernel
theorem tyJxe99ae_ok : ∀ k, k < 0 → parseFieldDescriptor (TJxe99ae k).2.2.1 = some (tyJxe99ae k) := by decide +kernel
abbrev cJxe99ae_isNaN_b9ae7 : ByteArray := prog_13_method_6_code
def yJxe99ae_isNaN_b9ae7 : MethodName := ⟨RJxe99ae, "isNaN", "(D)Z"⟩
abbrev cJxe99ae_doubleToLongBits_ccdee : ByteArray := prog_13_method_23_code
def yJxe99ae_doubleToLongBits_ccdee : MethodName := ⟨RJxe99ae, "doubleToLongBits", "(D)J"⟩
def RJ9 : String := "java/lang/Math"
def TJ9 : u_T := fun k => match k with
  | _ => ("", "", "", false)
def tyJ9 : Nat → FieldType := fun k => match k with
  | _ => .int
abbrev wsJ90 : List Cond := u_ws RJ9 TJ9 0
theorem nmJ9 : ∀ a, a < 0 → ∀ b, b < 0 → a ≠ b → (TJ9 a).2.1 ≠ (TJ9 b).2.1 := by decide +kernel
theorem tyJ9_ok : ∀ k, k < 0 → parseFieldDescriptor (TJ9 k).2.2.1 = some (tyJ9 k) := by decide +kernel
abbrev cJ9_floorMod_7cf53 : ByteArray := prog_18_method_50_code
def yJ9_floorMod_7cf53 : MethodName := ⟨RJ9, "floorMod", "(II)I"⟩
abbrev cJ9_max_7cf53 : ByteArray := prog_18_method_65_code
def yJ9_max_7cf53 : MethodName := ⟨RJ9, "max", "(II)I"⟩
abbrev cJ9_min_7cf53 : ByteArray := prog_18_method_69_code
def yJ9_min_7cf53 : MethodName := ⟨RJ9, "min", "(II)I"⟩
def RJ0 : String := "java/lang/String"
def TJ0 : u_T := fun k => match k with
  | _ => ("", "", "", false)
def tyJ0 : Nat → FieldType := fun k => match k with
  | _ => .int
abbrev wsJ00 : List Cond := u_ws RJ0 TJ0 0
theorem nmJ0 : ∀ a, a < 0 → ∀ b, b < 0 → a ≠ b → (TJ0 a).2.1 ≠ (TJ0 b).2.1 := by decide +kernel
theorem tyJ0_ok : ∀ k, k < 0 → parseFieldDescriptor (TJ0 k).2.2.1 = some (tyJ0 k) := by decide +kernel
def RJ10 : String := "java/lang/System"
def TJ10 : u_T := fun k => match k with
  | _ => ("", "", "", false)
def tyJ10 : Nat → FieldType := fun k => match k with
  | _ => .int
abbrev wsJ100 : List Cond := u_ws RJ10 TJ10 0
theorem nmJ10 : ∀ a, a < 0 → ∀ b, b < 0 → a ≠ b → (TJ10 a).2.1 ≠ (TJ10 b).2.1 := by decide +kernel
theorem tyJ10_ok : ∀ k, k < 0 → parseFieldDescriptor (TJ10 k).2.2.1 = some (tyJ10 k) := by decide +kernel
def RL : String := "ShipStoresLaw"
abbrev cL_addKind : ByteArray := method_3_code
def yL_addKind : MethodName := ⟨RL, "addKind", "(LShipStores;III[J)I"⟩
abbrev cL_setRoom : ByteArray := method_4_code
def yL_setRoom : MethodName := ⟨RL, "setRoom", "(LShipStores;II[J)I"⟩
abbrev cL_warm : ByteArray := method_5_code
def yL_warm : MethodName := ⟨RL, "warm", "(LShipStores;II[J)I"⟩
abbrev cL_setCrew : ByteArray := method_6_code
def yL_setCrew : MethodName := ⟨RL, "setCrew", "(LShipStores;I[J)I"⟩
abbrev cL_pay : ByteArray := method_7_code
def yL_pay : MethodName := ⟨RL, "pay", "(LShipStores;I[J)I"⟩
abbrev cL_addPort : ByteArray := method_8_code
def yL_addPort : MethodName := ⟨RL, "addPort", "(LShipStores;II[J)I"⟩
abbrev cL_removePort : ByteArray := method_9_code
def yL_removePort : MethodName := ⟨RL, "removePort", "(LShipStores;I[J)I"⟩
abbrev cL_setPrice : ByteArray := method_10_code
def yL_setPrice : MethodName := ⟨RL, "setPrice", "(LShipStores;III[J)I"⟩
abbrev cL_buy : ByteArray := method_11_code
def yL_buy : MethodName := ⟨RL, "buy", "(LShipStores;III[J)I"⟩
abbrev cL_move : ByteArray := method_12_code
def yL_move : MethodName := ⟨RL, "move", "(LShipStores;III[J)I"⟩
abbrev cL_discard : ByteArray := method_13_code
def yL_discard : MethodName := ⟨RL, "discard", "(LShipStores;II[J)I"⟩
abbrev cL_pass : ByteArray := method_14_code
def yL_pass : MethodName := ⟨RL, "pass", "(LShipStores;I[J)I"⟩
abbrev cL_append : ByteArray := method_15_code
def yL_append : MethodName := ⟨RL, "append", "(LShipStores;I[J)I"⟩
abbrev cL_load : ByteArray := method_16_code
def yL_load : MethodName := ⟨RL, "load", "(LShipStores;[J)I"⟩
abbrev cL_undo : ByteArray := method_17_code
def yL_undo : MethodName := ⟨RL, "undo", "(LShipStores;[J)I"⟩
abbrev cL_lot : ByteArray := method_18_code
def yL_lot : MethodName := ⟨RL, "lot", "(LShipStores;II[J)I"⟩
abbrev cL_store : ByteArray := method_19_code
def yL_store : MethodName := ⟨RL, "store", "(LShipStores;II[J)I"⟩
abbrev cL_kind : ByteArray := method_20_code
def yL_kind : MethodName := ⟨RL, "kind", "(LShipStores;II[J)I"⟩
abbrev cL_port : ByteArray := method_21_code
def yL_port : MethodName := ⟨RL, "port", "(LShipStores;II[J)I"⟩
abbrev cL_menu : ByteArray := method_22_code
def yL_menu : MethodName := ⟨RL, "menu", "(LShipStores;III[J)I"⟩
abbrev cL_count : ByteArray := method_23_code
def yL_count : MethodName := ⟨RL, "count", "(LShipStores;I[J)I"⟩
abbrev cL_why : ByteArray := method_24_code
def yL_why : MethodName := ⟨RL, "why", "(LShipStores;III[J)I"⟩
abbrev cL_ifPass : ByteArray := method_25_code
def yL_ifPass : MethodName := ⟨RL, "ifPass", "(LShipStores;II[J)I"⟩
abbrev cL_spoils : ByteArray := method_26_code
def yL_spoils : MethodName := ⟨RL, "spoils", "(LShipStores;II[J)I"⟩
abbrev cL_shortIn : ByteArray := method_27_code
def yL_shortIn : MethodName := ⟨RL, "shortIn", "(LShipStores;I[J)I"⟩
abbrev cL_bestStore : ByteArray := method_28_code
def yL_bestStore : MethodName := ⟨RL, "bestStore", "(LShipStores;I[J)I"⟩
abbrev cL_leastPurchase : ByteArray := method_29_code
def yL_leastPurchase : MethodName := ⟨RL, "leastPurchase", "(LShipStores;II[J)I"⟩
abbrev cL_cheapest : ByteArray := method_30_code
def yL_cheapest : MethodName := ⟨RL, "cheapest", "(LShipStores;I[J)I"⟩
abbrev cL_law : ByteArray := code
def yL_law : MethodName := ⟨RL, "law", "([I)Z"⟩
def wsX6_init : List Cond := .code yX6_init cX6_init 2 none :: ([.methodLink RX6 1 objectInit, .instanceMethod objectInit, .code objectInit ⟨#[0xb1]⟩ 1 none, .arrayClass .int, .fieldLink RX6 7 "ShipStores$Row" "cells" "[I"] ++ wsX60)
def wsX1_init : List Cond := .code yX1_init cX1_init 1 none :: ([.methodLink RX1 3 objectInit, .instanceMethod objectInit, .code objectInit ⟨#[0xb1]⟩ 1 none, .classLink RX1 9 RX6, .instantiable RX6 1, .initialized RX6, .fieldLink RX1 14 "ShipStores$Kinds" "lives" "LShipStores$Row;", .fieldLink RX1 20 "ShipStores$Kinds" "bought" "LShipStores$Row;", .fieldLink RX1 23 "ShipStores$Kinds" "eaten" "LShipStores$Row;", .fieldLink RX1 26 "ShipStores$Kinds" "spoiled" "LShipStores$Row;", .fieldLink RX1 29 "ShipStores$Kinds" "thrown" "LShipStores$Row;", .fieldLink RX1 32 "ShipStores$Kinds" "lacking" "LShipStores$Row;", .methodLink RX1 11 yX6_init, .instanceMethod yX6_init, .code yX6_init cX6_init 2 none, .methodLink RX6 1 objectInit, .arrayClass .int, .fieldLink RX6 7 "ShipStores$Row" "cells" "[I"] ++ wsX60 ++ wsX10)
def wsX6_fill : List Cond := .code yX6_fill cX6_fill 3 none :: ([.fieldLink RX6 7 "ShipStores$Row" "cells" "[I"] ++ wsX60)
def wsX8_init : List Cond := .code yX8_init cX8_init 1 none :: ([.methodLink RX8 3 objectInit, .instanceMethod objectInit, .code objectInit ⟨#[0xb1]⟩ 1 none, .classLink RX8 9 RX6, .instantiable RX6 1, .initialized RX6, .fieldLink RX8 14 "ShipStores$Stores" "room" "LShipStores$Row;", .fieldLink RX8 20 "ShipStores$Stores" "warmDays" "LShipStores$Row;", .methodLink RX8 11 yX6_init, .instanceMethod yX6_init, .code yX6_init cX6_init 2 none, .methodLink RX6 1 objectInit, .arrayClass .int, .fieldLink RX6 7 "ShipStores$Row" "cells" "[I", .methodLink RX8 23 yX6_fill, .instanceMethod yX6_fill, .selects RX6 yX6_fill yX6_fill, .code yX6_fill cX6_fill 3 none] ++ wsX60 ++ wsX80)
def wsX2_init : List Cond := .code yX2_init cX2_init 1 none :: ([.methodLink RX2 3 objectInit, .instanceMethod objectInit, .code objectInit ⟨#[0xb1]⟩ 1 none, .classLink RX2 9 RX6, .instantiable RX6 1, .initialized RX6, .fieldLink RX2 14 "ShipStores$Lots" "kindOf" "LShipStores$Row;", .fieldLink RX2 20 "ShipStores$Lots" "storeOf" "LShipStores$Row;", .fieldLink RX2 23 "ShipStores$Lots" "amount" "LShipStores$Row;", .fieldLink RX2 26 "ShipStores$Lots" "age" "LShipStores$Row;", .methodLink RX2 11 yX6_init, .instanceMethod yX6_init, .code yX6_init cX6_init 2 none, .methodLink RX6 1 objectInit, .arrayClass .int, .fieldLink RX6 7 "ShipStores$Row" "cells" "[I"] ++ wsX60 ++ wsX20)
def wsX5_init : List Cond := .code yX5_init cX5_init 1 none :: ([.methodLink RX5 3 objectInit, .instanceMethod objectInit, .code objectInit ⟨#[0xb1]⟩ 1 none, .classLink RX5 9 RX6, .instantiable RX6 1, .initialized RX6, .fieldLink RX5 14 "ShipStores$Ports" "day" "LShipStores$Row;", .fieldLink RX5 20 "ShipStores$Ports" "staleness" "LShipStores$Row;", .fieldLink RX5 23 "ShipStores$Ports" "prices" "LShipStores$Row;", .methodLink RX5 11 yX6_init, .instanceMethod yX6_init, .code yX6_init cX6_init 2 none, .methodLink RX6 1 objectInit, .arrayClass .int, .fieldLink RX6 7 "ShipStores$Row" "cells" "[I"] ++ wsX60 ++ wsX50)
def wsX4_init : List Cond := .code yX4_init cX4_init 1 none :: ([.methodLink RX4 3 objectInit, .instanceMethod objectInit, .code objectInit ⟨#[0xb1]⟩ 1 none, .fieldLink RX4 9 "ShipStores$Menus" "number" "I", .classLink RX4 15 RX6, .instantiable RX6 1, .initialized RX6, .fieldLink RX4 20 "ShipStores$Menus" "kindOf" "LShipStores$Row;", .fieldLink RX4 24 "ShipStores$Menus" "amount" "LShipStores$Row;", .fieldLink RX4 27 "ShipStores$Menus" "substitute" "LShipStores$Row;", .methodLink RX4 17 yX6_init, .instanceMethod yX6_init, .code yX6_init cX6_init 2 none, .methodLink RX6 1 objectInit, .arrayClass .int, .fieldLink RX6 7 "ShipStores$Row" "cells" "[I"] ++ wsX40 ++ wsX60)
def wsX7_init_r1 : List Cond := [Cond.methodLink RX7 3 objectInit, Cond.instanceMethod objectInit, Cond.code objectInit ⟨#[0xb1]⟩ 1 none, Cond.fieldLink RX7 9 "ShipStores$Ship" "heads" "I", Cond.fieldLink RX7 15 "ShipStores$Ship" "purse" "I", Cond.classLink RX7 18 RX1, Cond.instantiable RX1 7, Cond.initialized RX1, Cond.fieldLink RX7 21 "ShipStores$Ship" "kinds" "LShipStores$Kinds;", Cond.classLink RX7 25 RX8, Cond.instantiable RX8 2, Cond.initialized RX8, Cond.fieldLink RX7 28 "ShipStores$Ship" "stores" "LShipStores$Stores;", Cond.classLink RX7 32 RX2, Cond.instantiable RX2 5, Cond.initialized RX2, Cond.fieldLink RX7 35 "ShipStores$Ship" "lots" "LShipStores$Lots;", Cond.classLink RX7 39 RX5, Cond.instantiable RX5 4, Cond.initialized RX5, Cond.fieldLink RX7 42 "ShipStores$Ship" "ports" "LShipStores$Ports;", Cond.classLink RX7 46 RX4, Cond.instantiable RX4 4, Cond.initialized RX4]
def wsX7_init_r2 : List Cond := [Cond.fieldLink RX7 49 "ShipStores$Ship" "menus" "LShipStores$Menus;", Cond.classLink RX7 53 RX6, Cond.instantiable RX6 1, Cond.initialized RX6, Cond.fieldLink RX7 58 "ShipStores$Ship" "daysLeft" "LShipStores$Row;", Cond.instanceMethod yX1_init, Cond.code yX1_init cX1_init 1 none, Cond.methodLink RX1 3 objectInit, Cond.classLink RX1 9 RX6, Cond.fieldLink RX1 14 "ShipStores$Kinds" "lives" "LShipStores$Row;", Cond.fieldLink RX1 20 "ShipStores$Kinds" "bought" "LShipStores$Row;", Cond.fieldLink RX1 23 "ShipStores$Kinds" "eaten" "LShipStores$Row;", Cond.fieldLink RX1 26 "ShipStores$Kinds" "spoiled" "LShipStores$Row;", Cond.fieldLink RX1 29 "ShipStores$Kinds" "thrown" "LShipStores$Row;", Cond.fieldLink RX1 32 "ShipStores$Kinds" "lacking" "LShipStores$Row;", Cond.methodLink RX1 11 yX6_init, Cond.instanceMethod yX6_init, Cond.code yX6_init cX6_init 2 none, Cond.methodLink RX6 1 objectInit, Cond.arrayClass .int, Cond.fieldLink RX6 7 "ShipStores$Row" "cells" "[I", Cond.methodLink RX7 27 yX8_init, Cond.instanceMethod yX8_init, Cond.code yX8_init cX8_init 1 none]
def wsX7_init_r3 : List Cond := [Cond.methodLink RX8 3 objectInit, Cond.classLink RX8 9 RX6, Cond.fieldLink RX8 14 "ShipStores$Stores" "room" "LShipStores$Row;", Cond.fieldLink RX8 20 "ShipStores$Stores" "warmDays" "LShipStores$Row;", Cond.methodLink RX8 11 yX6_init, Cond.methodLink RX8 23 yX6_fill, Cond.instanceMethod yX6_fill, Cond.selects RX6 yX6_fill yX6_fill, Cond.code yX6_fill cX6_fill 3 none, Cond.instanceMethod yX2_init, Cond.code yX2_init cX2_init 1 none, Cond.methodLink RX2 3 objectInit, Cond.classLink RX2 9 RX6, Cond.fieldLink RX2 14 "ShipStores$Lots" "kindOf" "LShipStores$Row;", Cond.fieldLink RX2 20 "ShipStores$Lots" "storeOf" "LShipStores$Row;", Cond.fieldLink RX2 23 "ShipStores$Lots" "amount" "LShipStores$Row;", Cond.fieldLink RX2 26 "ShipStores$Lots" "age" "LShipStores$Row;", Cond.methodLink RX2 11 yX6_init, Cond.instanceMethod yX5_init, Cond.code yX5_init cX5_init 1 none, Cond.methodLink RX5 3 objectInit, Cond.classLink RX5 9 RX6, Cond.fieldLink RX5 14 "ShipStores$Ports" "day" "LShipStores$Row;", Cond.fieldLink RX5 20 "ShipStores$Ports" "staleness" "LShipStores$Row;"]
def wsX7_init_r4 : List Cond := [Cond.fieldLink RX5 23 "ShipStores$Ports" "prices" "LShipStores$Row;", Cond.methodLink RX5 11 yX6_init, Cond.instanceMethod yX4_init, Cond.code yX4_init cX4_init 1 none, Cond.methodLink RX4 3 objectInit, Cond.fieldLink RX4 9 "ShipStores$Menus" "number" "I", Cond.classLink RX4 15 RX6, Cond.fieldLink RX4 20 "ShipStores$Menus" "kindOf" "LShipStores$Row;", Cond.fieldLink RX4 24 "ShipStores$Menus" "amount" "LShipStores$Row;", Cond.fieldLink RX4 27 "ShipStores$Menus" "substitute" "LShipStores$Row;", Cond.methodLink RX4 17 yX6_init, Cond.methodLink RX7 55 yX6_init]
def wsX7_init : List Cond := .code yX7_init cX7_init 1 none :: ((wsX7_init_r1 ++ (wsX7_init_r2 ++ (wsX7_init_r3 ++ wsX7_init_r4))) ++ wsX70 ++ wsX10 ++ wsX80 ++ wsX20 ++ wsX50 ++ wsX40 ++ wsX60)
abbrev vwCl : List vw_C := [(RX0, TX0, 3), (RX1, TX1, 7), (RX2, TX2, 5), (RX3, TX3, 6), (RX4, TX4, 4), (RX5, TX5, 4), (RX6, TX6, 1), (RX7, TX7, 11), (RX8, TX8, 2), (RX9, TX9, 4), (RX10, TX10, 13)]
end
section
theorem dX0_init_0 : decode cX0_init 0 = .ok (.aload_n 0, 1) := by decide +kernel
theorem dX0_init_1 : decode cX0_init 1 = .ok (.invokespecial 3, 3) := by decide +kernel
theorem dX0_init_4 : decode cX0_init 4 = .ok (.aload_n 0, 1) := by decide +kernel
theorem dX0_init_5 : decode cX0_init 5 = .ok (.bipush 6, 2) := by decide +kernel
theorem dX0_init_7 : decode cX0_init 7 = .ok (.anewarray 9, 3) := by decide +kernel
theorem dX0_init_10 : decode cX0_init 10 = .ok (.putfield 11, 3) := by decide +kernel
theorem dX0_init_13 : decode cX0_init 13 = .ok (.iconst 0, 1) := by decide +kernel
theorem dX0_init_14 : decode cX0_init 14 = .ok (.istore_n 1, 1) := by decide +kernel
theorem dX0_init_15 : decode cX0_init 15 = .ok (.iload_n 1, 1) := by decide +kernel
theorem dX0_init_16 : decode cX0_init 16 = .ok (.aload_n 0, 1) := by decide +kernel
theorem dX0_init_17 : decode cX0_init 17 = .ok (.getfield 11, 3) := by decide +kernel
theorem dX0_init_20 : decode cX0_init 20 = .ok (.arraylength, 1) := by decide +kernel
theorem dX0_init_21 : decode cX0_init 21 = .ok (.if_icmp .ge 22, 3) := by decide +kernel
theorem dX0_init_24 : decode cX0_init 24 = .ok (.aload_n 0, 1) := by decide +kernel
theorem dX0_init_25 : decode cX0_init 25 = .ok (.getfield 11, 3) := by decide +kernel
theorem dX0_init_28 : decode cX0_init 28 = .ok (.iload_n 1, 1) := by decide +kernel
theorem dX0_init_29 : decode cX0_init 29 = .ok (.new 9, 3) := by decide +kernel
theorem dX0_init_32 : decode cX0_init 32 = .ok (.dup, 1) := by decide +kernel
theorem dX0_init_33 : decode cX0_init 33 = .ok (.invokespecial 17, 3) := by decide +kernel
theorem dX0_init_36 : decode cX0_init 36 = .ok (.aastore, 1) := by decide +kernel
theorem dX0_init_37 : decode cX0_init 37 = .ok (.iinc 1 1, 3) := by decide +kernel
theorem dX0_init_40 : decode cX0_init 40 = .ok (.goto (-25), 3) := by decide +kernel
theorem dX0_init_43 : decode cX0_init 43 = .ok (.return_, 1) := by decide +kernel
theorem dX0_save_0 : decode cX0_save 0 = .ok (.aload_n 0, 1) := by decide +kernel
theorem dX0_save_1 : decode cX0_save 1 = .ok (.getfield 18, 3) := by decide +kernel
theorem dX0_save_4 : decode cX0_save 4 = .ok (.bipush 6, 2) := by decide +kernel
theorem dX0_save_6 : decode cX0_save 6 = .ok (.if_icmp .lt 26, 3) := by decide +kernel
theorem dX0_save_9 : decode cX0_save 9 = .ok (.aload_n 0, 1) := by decide +kernel
theorem dX0_save_10 : decode cX0_save 10 = .ok (.aload_n 0, 1) := by decide +kernel
theorem dX0_save_11 : decode cX0_save 11 = .ok (.getfield 22, 3) := by decide +kernel
theorem dX0_save_14 : decode cX0_save 14 = .ok (.iconst 1, 1) := by decide +kernel
theorem dX0_save_15 : decode cX0_save 15 = .ok (.iadd, 1) := by decide +kernel
theorem dX0_save_16 : decode cX0_save 16 = .ok (.bipush 6, 2) := by decide +kernel
theorem dX0_save_18 : decode cX0_save 18 = .ok (.irem, 1) := by decide +kernel
theorem dX0_save_19 : decode cX0_save 19 = .ok (.putfield 22, 3) := by decide +kernel
theorem dX0_save_22 : decode cX0_save 22 = .ok (.aload_n 0, 1) := by decide +kernel
theorem dX0_save_23 : decode cX0_save 23 = .ok (.dup, 1) := by decide +kernel
theorem dX0_save_24 : decode cX0_save 24 = .ok (.getfield 18, 3) := by decide +kernel
theorem dX0_save_27 : decode cX0_save 27 = .ok (.iconst 1, 1) := by decide +kernel
theorem dX0_save_28 : decode cX0_save 28 = .ok (.isub, 1) := by decide +kernel
theorem dX0_save_29 : decode cX0_save 29 = .ok (.putfield 18, 3) := by decide +kernel
theorem dX0_save_32 : decode cX0_save 32 = .ok (.aload_n 0, 1) := by decide +kernel
theorem dX0_save_33 : decode cX0_save 33 = .ok (.aload_n 0, 1) := by decide +kernel
theorem dX0_save_34 : decode cX0_save 34 = .ok (.getfield 18, 3) := by decide +kernel
theorem dX0_save_37 : decode cX0_save 37 = .ok (.invokevirtual 25, 3) := by decide +kernel
theorem dX0_save_40 : decode cX0_save 40 = .ok (.astore_n 2, 1) := by decide +kernel
theorem dX0_save_41 : decode cX0_save 41 = .ok (.aload_n 2, 1) := by decide +kernel
theorem dX0_save_42 : decode cX0_save 42 = .ok (.ifnull 8, 3) := by decide +kernel
theorem dX0_save_45 : decode cX0_save 45 = .ok (.aload_n 2, 1) := by decide +kernel
theorem dX0_save_46 : decode cX0_save 46 = .ok (.aload_n 1, 1) := by decide +kernel
theorem dX0_save_47 : decode cX0_save 47 = .ok (.invokevirtual 29, 3) := by decide +kernel
theorem dX0_save_50 : decode cX0_save 50 = .ok (.aload_n 0, 1) := by decide +kernel
theorem dX0_save_51 : decode cX0_save 51 = .ok (.dup, 1) := by decide +kernel
theorem dX0_save_52 : decode cX0_save 52 = .ok (.getfield 18, 3) := by decide +kernel
theorem dX0_save_55 : decode cX0_save 55 = .ok (.iconst 1, 1) := by decide +kernel
theorem dX0_save_56 : decode cX0_save 56 = .ok (.iadd, 1) := by decide +kernel
theorem dX0_save_57 : decode cX0_save 57 = .ok (.putfield 18, 3) := by decide +kernel
theorem dX0_save_60 : decode cX0_save 60 = .ok (.return_, 1) := by decide +kernel
theorem dX0_restore_0 : decode cX0_restore 0 = .ok (.aload_n 0, 1) := by decide +kernel
theorem dX0_restore_1 : decode cX0_restore 1 = .ok (.getfield 18, 3) := by decide +kernel
theorem dX0_restore_4 : decode cX0_restore 4 = .ok (.iconst 1, 1) := by decide +kernel
theorem dX0_restore_5 : decode cX0_restore 5 = .ok (.if_icmp .lt 7, 3) := by decide +kernel
theorem dX0_restore_8 : decode cX0_restore 8 = .ok (.aload_n 1, 1) := by decide +kernel
theorem dX0_restore_9 : decode cX0_restore 9 = .ok (.ifnonnull 4, 3) := by decide +kernel
theorem dX0_restore_12 : decode cX0_restore 12 = .ok (.return_, 1) := by decide +kernel
theorem dX0_restore_13 : decode cX0_restore 13 = .ok (.aload_n 0, 1) := by decide +kernel
theorem dX0_restore_14 : decode cX0_restore 14 = .ok (.dup, 1) := by decide +kernel
theorem dX0_restore_15 : decode cX0_restore 15 = .ok (.getfield 18, 3) := by decide +kernel
theorem dX0_restore_18 : decode cX0_restore 18 = .ok (.iconst 1, 1) := by decide +kernel
theorem dX0_restore_19 : decode cX0_restore 19 = .ok (.isub, 1) := by decide +kernel
theorem dX0_restore_20 : decode cX0_restore 20 = .ok (.putfield 18, 3) := by decide +kernel
theorem dX0_restore_23 : decode cX0_restore 23 = .ok (.aload_n 1, 1) := by decide +kernel
theorem dX0_restore_24 : decode cX0_restore 24 = .ok (.aload_n 0, 1) := by decide +kernel
theorem dX0_restore_25 : decode cX0_restore 25 = .ok (.aload_n 0, 1) := by decide +kernel
theorem dX0_restore_26 : decode cX0_restore 26 = .ok (.getfield 18, 3) := by decide +kernel
theorem dX0_restore_29 : decode cX0_restore 29 = .ok (.invokevirtual 25, 3) := by decide +kernel
theorem dX0_restore_32 : decode cX0_restore 32 = .ok (.invokevirtual 29, 3) := by decide +kernel
theorem dX0_restore_35 : decode cX0_restore 35 = .ok (.return_, 1) := by decide +kernel
theorem dX0_stateAt_0 : decode cX0_stateAt 0 = .ok (.aload_n 0, 1) := by decide +kernel
theorem dX0_stateAt_1 : decode cX0_stateAt 1 = .ok (.getfield 22, 3) := by decide +kernel
theorem dX0_stateAt_4 : decode cX0_stateAt 4 = .ok (.iload_n 1, 1) := by decide +kernel
theorem dX0_stateAt_5 : decode cX0_stateAt 5 = .ok (.iadd, 1) := by decide +kernel
theorem dX0_stateAt_6 : decode cX0_stateAt 6 = .ok (.bipush 6, 2) := by decide +kernel
theorem dX0_stateAt_8 : decode cX0_stateAt 8 = .ok (.irem, 1) := by decide +kernel
theorem dX0_stateAt_9 : decode cX0_stateAt 9 = .ok (.istore_n 2, 1) := by decide +kernel
theorem dX0_stateAt_10 : decode cX0_stateAt 10 = .ok (.iload_n 2, 1) := by decide +kernel
theorem dX0_stateAt_11 : decode cX0_stateAt 11 = .ok (.ifCond .lt 12, 3) := by decide +kernel
theorem dX0_stateAt_14 : decode cX0_stateAt 14 = .ok (.iload_n 2, 1) := by decide +kernel
theorem dX0_stateAt_15 : decode cX0_stateAt 15 = .ok (.aload_n 0, 1) := by decide +kernel
theorem dX0_stateAt_16 : decode cX0_stateAt 16 = .ok (.getfield 11, 3) := by decide +kernel
theorem dX0_stateAt_19 : decode cX0_stateAt 19 = .ok (.arraylength, 1) := by decide +kernel
theorem dX0_stateAt_20 : decode cX0_stateAt 20 = .ok (.if_icmp .lt 7, 3) := by decide +kernel
theorem dX0_stateAt_23 : decode cX0_stateAt 23 = .ok (.aconst_null, 1) := by decide +kernel
theorem dX0_stateAt_24 : decode cX0_stateAt 24 = .ok (.goto 9, 3) := by decide +kernel
theorem dX0_stateAt_27 : decode cX0_stateAt 27 = .ok (.aload_n 0, 1) := by decide +kernel
theorem dX0_stateAt_28 : decode cX0_stateAt 28 = .ok (.getfield 11, 3) := by decide +kernel
theorem dX0_stateAt_31 : decode cX0_stateAt 31 = .ok (.iload_n 2, 1) := by decide +kernel
theorem dX0_stateAt_32 : decode cX0_stateAt 32 = .ok (.aaload, 1) := by decide +kernel
theorem dX0_stateAt_33 : decode cX0_stateAt 33 = .ok (.areturn, 1) := by decide +kernel
theorem dX1_init_0 : decode cX1_init 0 = .ok (.aload_n 0, 1) := by decide +kernel
theorem dX1_init_1 : decode cX1_init 1 = .ok (.invokespecial 3, 3) := by decide +kernel
theorem dX1_init_4 : decode cX1_init 4 = .ok (.aload_n 0, 1) := by decide +kernel
theorem dX1_init_5 : decode cX1_init 5 = .ok (.new 9, 3) := by decide +kernel
theorem dX1_init_8 : decode cX1_init 8 = .ok (.dup, 1) := by decide +kernel
theorem dX1_init_9 : decode cX1_init 9 = .ok (.bipush 24, 2) := by decide +kernel
theorem dX1_init_11 : decode cX1_init 11 = .ok (.invokespecial 11, 3) := by decide +kernel
theorem dX1_init_14 : decode cX1_init 14 = .ok (.putfield 14, 3) := by decide +kernel
theorem dX1_init_17 : decode cX1_init 17 = .ok (.aload_n 0, 1) := by decide +kernel
theorem dX1_init_18 : decode cX1_init 18 = .ok (.new 9, 3) := by decide +kernel
theorem dX1_init_21 : decode cX1_init 21 = .ok (.dup, 1) := by decide +kernel
theorem dX1_init_22 : decode cX1_init 22 = .ok (.bipush 8, 2) := by decide +kernel
theorem dX1_init_24 : decode cX1_init 24 = .ok (.invokespecial 11, 3) := by decide +kernel
theorem dX1_init_27 : decode cX1_init 27 = .ok (.putfield 20, 3) := by decide +kernel
theorem dX1_init_30 : decode cX1_init 30 = .ok (.aload_n 0, 1) := by decide +kernel
theorem dX1_init_31 : decode cX1_init 31 = .ok (.new 9, 3) := by decide +kernel
theorem dX1_init_34 : decode cX1_init 34 = .ok (.dup, 1) := by decide +kernel
theorem dX1_init_35 : decode cX1_init 35 = .ok (.bipush 8, 2) := by decide +kernel
theorem dX1_init_37 : decode cX1_init 37 = .ok (.invokespecial 11, 3) := by decide +kernel
theorem dX1_init_40 : decode cX1_init 40 = .ok (.putfield 23, 3) := by decide +kernel
theorem dX1_init_43 : decode cX1_init 43 = .ok (.aload_n 0, 1) := by decide +kernel
theorem dX1_init_44 : decode cX1_init 44 = .ok (.new 9, 3) := by decide +kernel
theorem dX1_init_47 : decode cX1_init 47 = .ok (.dup, 1) := by decide +kernel
theorem dX1_init_48 : decode cX1_init 48 = .ok (.bipush 8, 2) := by decide +kernel
theorem dX1_init_50 : decode cX1_init 50 = .ok (.invokespecial 11, 3) := by decide +kernel
theorem dX1_init_53 : decode cX1_init 53 = .ok (.putfield 26, 3) := by decide +kernel
theorem dX1_init_56 : decode cX1_init 56 = .ok (.aload_n 0, 1) := by decide +kernel
theorem dX1_init_57 : decode cX1_init 57 = .ok (.new 9, 3) := by decide +kernel
theorem dX1_init_60 : decode cX1_init 60 = .ok (.dup, 1) := by decide +kernel
theorem dX1_init_61 : decode cX1_init 61 = .ok (.bipush 8, 2) := by decide +kernel
theorem dX1_init_63 : decode cX1_init 63 = .ok (.invokespecial 11, 3) := by decide +kernel
theorem dX1_init_66 : decode cX1_init 66 = .ok (.putfield 29, 3) := by decide +kernel
theorem dX1_init_69 : decode cX1_init 69 = .ok (.aload_n 0, 1) := by decide +kernel
theorem dX1_init_70 : decode cX1_init 70 = .ok (.new 9, 3) := by decide +kernel
theorem dX1_init_73 : decode cX1_init 73 = .ok (.dup, 1) := by decide +kernel
theorem dX1_init_74 : decode cX1_init 74 = .ok (.bipush 8, 2) := by decide +kernel
theorem dX1_init_76 : decode cX1_init 76 = .ok (.invokespecial 11, 3) := by decide +kernel
theorem dX1_init_79 : decode cX1_init 79 = .ok (.putfield 32, 3) := by decide +kernel
theorem dX1_init_82 : decode cX1_init 82 = .ok (.return_, 1) := by decide +kernel
theorem dX1_addOne_0 : decode cX1_addOne 0 = .ok (.aload_n 0, 1) := by decide +kernel
theorem dX1_addOne_1 : decode cX1_addOne 1 = .ok (.getfield 35, 3) := by decide +kernel
theorem dX1_addOne_4 : decode cX1_addOne 4 = .ok (.iconst 3, 1) := by decide +kernel
theorem dX1_addOne_5 : decode cX1_addOne 5 = .ok (.imul, 1) := by decide +kernel
theorem dX1_addOne_6 : decode cX1_addOne 6 = .ok (.istore 4, 2) := by decide +kernel
theorem dX1_addOne_8 : decode cX1_addOne 8 = .ok (.aload_n 0, 1) := by decide +kernel
theorem dX1_addOne_9 : decode cX1_addOne 9 = .ok (.getfield 14, 3) := by decide +kernel
theorem dX1_addOne_12 : decode cX1_addOne 12 = .ok (.iload 4, 2) := by decide +kernel
theorem dX1_addOne_14 : decode cX1_addOne 14 = .ok (.iload_n 1, 1) := by decide +kernel
theorem dX1_addOne_15 : decode cX1_addOne 15 = .ok (.invokevirtual 39, 3) := by decide +kernel
theorem dX1_addOne_18 : decode cX1_addOne 18 = .ok (.aload_n 0, 1) := by decide +kernel
theorem dX1_addOne_19 : decode cX1_addOne 19 = .ok (.getfield 14, 3) := by decide +kernel
theorem dX1_addOne_22 : decode cX1_addOne 22 = .ok (.iload 4, 2) := by decide +kernel
theorem dX1_addOne_24 : decode cX1_addOne 24 = .ok (.iconst 1, 1) := by decide +kernel
theorem dX1_addOne_25 : decode cX1_addOne 25 = .ok (.iadd, 1) := by decide +kernel
theorem dX1_addOne_26 : decode cX1_addOne 26 = .ok (.iload_n 2, 1) := by decide +kernel
theorem dX1_addOne_27 : decode cX1_addOne 27 = .ok (.invokevirtual 39, 3) := by decide +kernel
theorem dX1_addOne_30 : decode cX1_addOne 30 = .ok (.aload_n 0, 1) := by decide +kernel
theorem dX1_addOne_31 : decode cX1_addOne 31 = .ok (.getfield 14, 3) := by decide +kernel
theorem dX1_addOne_34 : decode cX1_addOne 34 = .ok (.iload 4, 2) := by decide +kernel
theorem dX1_addOne_36 : decode cX1_addOne 36 = .ok (.iconst 2, 1) := by decide +kernel
theorem dX1_addOne_37 : decode cX1_addOne 37 = .ok (.iadd, 1) := by decide +kernel
theorem dX1_addOne_38 : decode cX1_addOne 38 = .ok (.iload_n 3, 1) := by decide +kernel
theorem dX1_addOne_39 : decode cX1_addOne 39 = .ok (.invokevirtual 39, 3) := by decide +kernel
theorem dX1_addOne_42 : decode cX1_addOne 42 = .ok (.aload_n 0, 1) := by decide +kernel
theorem dX1_addOne_43 : decode cX1_addOne 43 = .ok (.dup, 1) := by decide +kernel
theorem dX1_addOne_44 : decode cX1_addOne 44 = .ok (.getfield 35, 3) := by decide +kernel
theorem dX1_addOne_47 : decode cX1_addOne 47 = .ok (.iconst 1, 1) := by decide +kernel
theorem dX1_addOne_48 : decode cX1_addOne 48 = .ok (.iadd, 1) := by decide +kernel
theorem dX1_addOne_49 : decode cX1_addOne 49 = .ok (.putfield 35, 3) := by decide +kernel
theorem dX1_addOne_52 : decode cX1_addOne 52 = .ok (.aload_n 0, 1) := by decide +kernel
theorem dX1_addOne_53 : decode cX1_addOne 53 = .ok (.getfield 35, 3) := by decide +kernel
theorem dX1_addOne_56 : decode cX1_addOne 56 = .ok (.iconst 1, 1) := by decide +kernel
theorem dX1_addOne_57 : decode cX1_addOne 57 = .ok (.isub, 1) := by decide +kernel
theorem dX1_addOne_58 : decode cX1_addOne 58 = .ok (.ireturn, 1) := by decide +kernel
theorem dX1_lifeIn_0 : decode cX1_lifeIn 0 = .ok (.aload_n 0, 1) := by decide +kernel
theorem dX1_lifeIn_1 : decode cX1_lifeIn 1 = .ok (.getfield 14, 3) := by decide +kernel
theorem dX1_lifeIn_4 : decode cX1_lifeIn 4 = .ok (.iload_n 1, 1) := by decide +kernel
theorem dX1_lifeIn_5 : decode cX1_lifeIn 5 = .ok (.iconst 3, 1) := by decide +kernel
theorem dX1_lifeIn_6 : decode cX1_lifeIn 6 = .ok (.imul, 1) := by decide +kernel
theorem dX1_lifeIn_7 : decode cX1_lifeIn 7 = .ok (.iload_n 2, 1) := by decide +kernel
theorem dX1_lifeIn_8 : decode cX1_lifeIn 8 = .ok (.iadd, 1) := by decide +kernel
theorem dX1_lifeIn_9 : decode cX1_lifeIn 9 = .ok (.invokevirtual 43, 3) := by decide +kernel
theorem dX1_lifeIn_12 : decode cX1_lifeIn 12 = .ok (.ireturn, 1) := by decide +kernel
theorem dX1_become_0 : decode cX1_become 0 = .ok (.aload_n 1, 1) := by decide +kernel
theorem dX1_become_1 : decode cX1_become 1 = .ok (.ifnonnull 4, 3) := by decide +kernel
theorem dX1_become_4 : decode cX1_become 4 = .ok (.return_, 1) := by decide +kernel
theorem dX1_become_5 : decode cX1_become 5 = .ok (.aload_n 0, 1) := by decide +kernel
theorem dX1_become_6 : decode cX1_become 6 = .ok (.aload_n 1, 1) := by decide +kernel
theorem dX1_become_7 : decode cX1_become 7 = .ok (.getfield 35, 3) := by decide +kernel
theorem dX1_become_10 : decode cX1_become 10 = .ok (.putfield 35, 3) := by decide +kernel
theorem dX1_become_13 : decode cX1_become 13 = .ok (.aload_n 0, 1) := by decide +kernel
theorem dX1_become_14 : decode cX1_become 14 = .ok (.getfield 14, 3) := by decide +kernel
theorem dX1_become_17 : decode cX1_become 17 = .ok (.aload_n 1, 1) := by decide +kernel
theorem dX1_become_18 : decode cX1_become 18 = .ok (.getfield 14, 3) := by decide +kernel
theorem dX1_become_21 : decode cX1_become 21 = .ok (.invokevirtual 47, 3) := by decide +kernel
theorem dX1_become_24 : decode cX1_become 24 = .ok (.aload_n 0, 1) := by decide +kernel
theorem dX1_become_25 : decode cX1_become 25 = .ok (.getfield 20, 3) := by decide +kernel
theorem dX1_become_28 : decode cX1_become 28 = .ok (.aload_n 1, 1) := by decide +kernel
theorem dX1_become_29 : decode cX1_become 29 = .ok (.getfield 20, 3) := by decide +kernel
theorem dX1_become_32 : decode cX1_become 32 = .ok (.invokevirtual 47, 3) := by decide +kernel
theorem dX1_become_35 : decode cX1_become 35 = .ok (.aload_n 0, 1) := by decide +kernel
theorem dX1_become_36 : decode cX1_become 36 = .ok (.getfield 23, 3) := by decide +kernel
theorem dX1_become_39 : decode cX1_become 39 = .ok (.aload_n 1, 1) := by decide +kernel
theorem dX1_become_40 : decode cX1_become 40 = .ok (.getfield 23, 3) := by decide +kernel
theorem dX1_become_43 : decode cX1_become 43 = .ok (.invokevirtual 47, 3) := by decide +kernel
theorem dX1_become_46 : decode cX1_become 46 = .ok (.aload_n 0, 1) := by decide +kernel
theorem dX1_become_47 : decode cX1_become 47 = .ok (.getfield 26, 3) := by decide +kernel
theorem dX1_become_50 : decode cX1_become 50 = .ok (.aload_n 1, 1) := by decide +kernel
theorem dX1_become_51 : decode cX1_become 51 = .ok (.getfield 26, 3) := by decide +kernel
theorem dX1_become_54 : decode cX1_become 54 = .ok (.invokevirtual 47, 3) := by decide +kernel
theorem dX1_become_57 : decode cX1_become 57 = .ok (.aload_n 0, 1) := by decide +kernel
theorem dX1_become_58 : decode cX1_become 58 = .ok (.getfield 29, 3) := by decide +kernel
theorem dX1_become_61 : decode cX1_become 61 = .ok (.aload_n 1, 1) := by decide +kernel
theorem dX1_become_62 : decode cX1_become 62 = .ok (.getfield 29, 3) := by decide +kernel
theorem dX1_become_65 : decode cX1_become 65 = .ok (.invokevirtual 47, 3) := by decide +kernel
theorem dX1_become_68 : decode cX1_become 68 = .ok (.aload_n 0, 1) := by decide +kernel
theorem dX1_become_69 : decode cX1_become 69 = .ok (.getfield 32, 3) := by decide +kernel
theorem dX1_become_72 : decode cX1_become 72 = .ok (.aload_n 1, 1) := by decide +kernel
theorem dX1_become_73 : decode cX1_become 73 = .ok (.getfield 32, 3) := by decide +kernel
theorem dX1_become_76 : decode cX1_become 76 = .ok (.invokevirtual 47, 3) := by decide +kernel
theorem dX1_become_79 : decode cX1_become 79 = .ok (.return_, 1) := by decide +kernel
theorem dX2_init_0 : decode cX2_init 0 = .ok (.aload_n 0, 1) := by decide +kernel
theorem dX2_init_1 : decode cX2_init 1 = .ok (.invokespecial 3, 3) := by decide +kernel
theorem dX2_init_4 : decode cX2_init 4 = .ok (.aload_n 0, 1) := by decide +kernel
theorem dX2_init_5 : decode cX2_init 5 = .ok (.new 9, 3) := by decide +kernel
theorem dX2_init_8 : decode cX2_init 8 = .ok (.dup, 1) := by decide +kernel
theorem dX2_init_9 : decode cX2_init 9 = .ok (.bipush 31, 2) := by decide +kernel
theorem dX2_init_11 : decode cX2_init 11 = .ok (.invokespecial 11, 3) := by decide +kernel
theorem dX2_init_14 : decode cX2_init 14 = .ok (.putfield 14, 3) := by decide +kernel
theorem dX2_init_17 : decode cX2_init 17 = .ok (.aload_n 0, 1) := by decide +kernel
theorem dX2_init_18 : decode cX2_init 18 = .ok (.new 9, 3) := by decide +kernel
theorem dX2_init_21 : decode cX2_init 21 = .ok (.dup, 1) := by decide +kernel
theorem dX2_init_22 : decode cX2_init 22 = .ok (.bipush 31, 2) := by decide +kernel
theorem dX2_init_24 : decode cX2_init 24 = .ok (.invokespecial 11, 3) := by decide +kernel
theorem dX2_init_27 : decode cX2_init 27 = .ok (.putfield 20, 3) := by decide +kernel
theorem dX2_init_30 : decode cX2_init 30 = .ok (.aload_n 0, 1) := by decide +kernel
theorem dX2_init_31 : decode cX2_init 31 = .ok (.new 9, 3) := by decide +kernel
theorem dX2_init_34 : decode cX2_init 34 = .ok (.dup, 1) := by decide +kernel
theorem dX2_init_35 : decode cX2_init 35 = .ok (.bipush 31, 2) := by decide +kernel
theorem dX2_init_37 : decode cX2_init 37 = .ok (.invokespecial 11, 3) := by decide +kernel
theorem dX2_init_40 : decode cX2_init 40 = .ok (.putfield 23, 3) := by decide +kernel
theorem dX2_init_43 : decode cX2_init 43 = .ok (.aload_n 0, 1) := by decide +kernel
theorem dX2_init_44 : decode cX2_init 44 = .ok (.new 9, 3) := by decide +kernel
theorem dX2_init_47 : decode cX2_init 47 = .ok (.dup, 1) := by decide +kernel
theorem dX2_init_48 : decode cX2_init 48 = .ok (.bipush 31, 2) := by decide +kernel
theorem dX2_init_50 : decode cX2_init 50 = .ok (.invokespecial 11, 3) := by decide +kernel
theorem dX2_init_53 : decode cX2_init 53 = .ok (.putfield 26, 3) := by decide +kernel
theorem dX2_init_56 : decode cX2_init 56 = .ok (.return_, 1) := by decide +kernel
theorem dX2_addOne_0 : decode cX2_addOne 0 = .ok (.aload_n 0, 1) := by decide +kernel
theorem dX2_addOne_1 : decode cX2_addOne 1 = .ok (.getfield 14, 3) := by decide +kernel
theorem dX2_addOne_4 : decode cX2_addOne 4 = .ok (.aload_n 0, 1) := by decide +kernel
theorem dX2_addOne_5 : decode cX2_addOne 5 = .ok (.getfield 29, 3) := by decide +kernel
theorem dX2_addOne_8 : decode cX2_addOne 8 = .ok (.iload_n 1, 1) := by decide +kernel
theorem dX2_addOne_9 : decode cX2_addOne 9 = .ok (.invokevirtual 33, 3) := by decide +kernel
theorem dX2_addOne_12 : decode cX2_addOne 12 = .ok (.aload_n 0, 1) := by decide +kernel
theorem dX2_addOne_13 : decode cX2_addOne 13 = .ok (.getfield 20, 3) := by decide +kernel
theorem dX2_addOne_16 : decode cX2_addOne 16 = .ok (.aload_n 0, 1) := by decide +kernel
theorem dX2_addOne_17 : decode cX2_addOne 17 = .ok (.getfield 29, 3) := by decide +kernel
theorem dX2_addOne_20 : decode cX2_addOne 20 = .ok (.iload_n 2, 1) := by decide +kernel
theorem dX2_addOne_21 : decode cX2_addOne 21 = .ok (.invokevirtual 33, 3) := by decide +kernel
theorem dX2_addOne_24 : decode cX2_addOne 24 = .ok (.aload_n 0, 1) := by decide +kernel
theorem dX2_addOne_25 : decode cX2_addOne 25 = .ok (.getfield 23, 3) := by decide +kernel
theorem dX2_addOne_28 : decode cX2_addOne 28 = .ok (.aload_n 0, 1) := by decide +kernel
theorem dX2_addOne_29 : decode cX2_addOne 29 = .ok (.getfield 29, 3) := by decide +kernel
theorem dX2_addOne_32 : decode cX2_addOne 32 = .ok (.iload_n 3, 1) := by decide +kernel
theorem dX2_addOne_33 : decode cX2_addOne 33 = .ok (.invokevirtual 33, 3) := by decide +kernel
theorem dX2_addOne_36 : decode cX2_addOne 36 = .ok (.aload_n 0, 1) := by decide +kernel
theorem dX2_addOne_37 : decode cX2_addOne 37 = .ok (.getfield 26, 3) := by decide +kernel
theorem dX2_addOne_40 : decode cX2_addOne 40 = .ok (.aload_n 0, 1) := by decide +kernel
theorem dX2_addOne_41 : decode cX2_addOne 41 = .ok (.getfield 29, 3) := by decide +kernel
theorem dX2_addOne_44 : decode cX2_addOne 44 = .ok (.iload 4, 2) := by decide +kernel
theorem dX2_addOne_46 : decode cX2_addOne 46 = .ok (.invokevirtual 33, 3) := by decide +kernel
theorem dX2_addOne_49 : decode cX2_addOne 49 = .ok (.aload_n 0, 1) := by decide +kernel
theorem dX2_addOne_50 : decode cX2_addOne 50 = .ok (.dup, 1) := by decide +kernel
theorem dX2_addOne_51 : decode cX2_addOne 51 = .ok (.getfield 29, 3) := by decide +kernel
theorem dX2_addOne_54 : decode cX2_addOne 54 = .ok (.iconst 1, 1) := by decide +kernel
theorem dX2_addOne_55 : decode cX2_addOne 55 = .ok (.iadd, 1) := by decide +kernel
theorem dX2_addOne_56 : decode cX2_addOne 56 = .ok (.putfield 29, 3) := by decide +kernel
theorem dX2_addOne_59 : decode cX2_addOne 59 = .ok (.aload_n 0, 1) := by decide +kernel
theorem dX2_addOne_60 : decode cX2_addOne 60 = .ok (.getfield 29, 3) := by decide +kernel
theorem dX2_addOne_63 : decode cX2_addOne 63 = .ok (.iconst 1, 1) := by decide +kernel
theorem dX2_addOne_64 : decode cX2_addOne 64 = .ok (.isub, 1) := by decide +kernel
theorem dX2_addOne_65 : decode cX2_addOne 65 = .ok (.ireturn, 1) := by decide +kernel
theorem dX2_split_0 : decode cX2_split 0 = .ok (.aload_n 0, 1) := by decide +kernel
theorem dX2_split_1 : decode cX2_split 1 = .ok (.getfield 23, 3) := by decide +kernel
theorem dX2_split_4 : decode cX2_split 4 = .ok (.iload_n 1, 1) := by decide +kernel
theorem dX2_split_5 : decode cX2_split 5 = .ok (.iload_n 2, 1) := by decide +kernel
theorem dX2_split_6 : decode cX2_split 6 = .ok (.ineg, 1) := by decide +kernel
theorem dX2_split_7 : decode cX2_split 7 = .ok (.invokevirtual 37, 3) := by decide +kernel
theorem dX2_split_10 : decode cX2_split 10 = .ok (.aload_n 0, 1) := by decide +kernel
theorem dX2_split_11 : decode cX2_split 11 = .ok (.aload_n 0, 1) := by decide +kernel
theorem dX2_split_12 : decode cX2_split 12 = .ok (.getfield 14, 3) := by decide +kernel
theorem dX2_split_15 : decode cX2_split 15 = .ok (.iload_n 1, 1) := by decide +kernel
theorem dX2_split_16 : decode cX2_split 16 = .ok (.invokevirtual 40, 3) := by decide +kernel
theorem dX2_split_19 : decode cX2_split 19 = .ok (.iload_n 3, 1) := by decide +kernel
theorem dX2_split_20 : decode cX2_split 20 = .ok (.iload_n 2, 1) := by decide +kernel
theorem dX2_split_21 : decode cX2_split 21 = .ok (.aload_n 0, 1) := by decide +kernel
theorem dX2_split_22 : decode cX2_split 22 = .ok (.getfield 26, 3) := by decide +kernel
theorem dX2_split_25 : decode cX2_split 25 = .ok (.iload_n 1, 1) := by decide +kernel
theorem dX2_split_26 : decode cX2_split 26 = .ok (.invokevirtual 40, 3) := by decide +kernel
theorem dX2_split_29 : decode cX2_split 29 = .ok (.invokevirtual 44, 3) := by decide +kernel
theorem dX2_split_32 : decode cX2_split 32 = .ok (.ireturn, 1) := by decide +kernel
theorem dX2_dropEmpty_0 : decode cX2_dropEmpty 0 = .ok (.iconst 0, 1) := by decide +kernel
theorem dX2_dropEmpty_1 : decode cX2_dropEmpty 1 = .ok (.istore_n 1, 1) := by decide +kernel
theorem dX2_dropEmpty_2 : decode cX2_dropEmpty 2 = .ok (.iconst 0, 1) := by decide +kernel
theorem dX2_dropEmpty_3 : decode cX2_dropEmpty 3 = .ok (.istore_n 2, 1) := by decide +kernel
theorem dX2_dropEmpty_4 : decode cX2_dropEmpty 4 = .ok (.iload_n 2, 1) := by decide +kernel
theorem dX2_dropEmpty_5 : decode cX2_dropEmpty 5 = .ok (.aload_n 0, 1) := by decide +kernel
theorem dX2_dropEmpty_6 : decode cX2_dropEmpty 6 = .ok (.getfield 29, 3) := by decide +kernel
theorem dX2_dropEmpty_9 : decode cX2_dropEmpty 9 = .ok (.if_icmp .ge 29, 3) := by decide +kernel
theorem dX2_dropEmpty_12 : decode cX2_dropEmpty 12 = .ok (.aload_n 0, 1) := by decide +kernel
theorem dX2_dropEmpty_13 : decode cX2_dropEmpty 13 = .ok (.getfield 23, 3) := by decide +kernel
theorem dX2_dropEmpty_16 : decode cX2_dropEmpty 16 = .ok (.iload_n 2, 1) := by decide +kernel
theorem dX2_dropEmpty_17 : decode cX2_dropEmpty 17 = .ok (.invokevirtual 40, 3) := by decide +kernel
theorem dX2_dropEmpty_20 : decode cX2_dropEmpty 20 = .ok (.ifCond .le 12, 3) := by decide +kernel
theorem dX2_dropEmpty_23 : decode cX2_dropEmpty 23 = .ok (.aload_n 0, 1) := by decide +kernel
theorem dX2_dropEmpty_24 : decode cX2_dropEmpty 24 = .ok (.iload_n 2, 1) := by decide +kernel
theorem dX2_dropEmpty_25 : decode cX2_dropEmpty 25 = .ok (.iload_n 1, 1) := by decide +kernel
theorem dX2_dropEmpty_26 : decode cX2_dropEmpty 26 = .ok (.invokevirtual 48, 3) := by decide +kernel
theorem dX2_dropEmpty_29 : decode cX2_dropEmpty 29 = .ok (.iinc 1 1, 3) := by decide +kernel
theorem dX2_dropEmpty_32 : decode cX2_dropEmpty 32 = .ok (.iinc 2 1, 3) := by decide +kernel
theorem dX2_dropEmpty_35 : decode cX2_dropEmpty 35 = .ok (.goto (-31), 3) := by decide +kernel
theorem dX2_dropEmpty_38 : decode cX2_dropEmpty 38 = .ok (.aload_n 0, 1) := by decide +kernel
theorem dX2_dropEmpty_39 : decode cX2_dropEmpty 39 = .ok (.iload_n 1, 1) := by decide +kernel
theorem dX2_dropEmpty_40 : decode cX2_dropEmpty 40 = .ok (.putfield 29, 3) := by decide +kernel
theorem dX2_dropEmpty_43 : decode cX2_dropEmpty 43 = .ok (.return_, 1) := by decide +kernel
theorem dX2_copyLot_0 : decode cX2_copyLot 0 = .ok (.iload_n 1, 1) := by decide +kernel
theorem dX2_copyLot_1 : decode cX2_copyLot 1 = .ok (.iload_n 2, 1) := by decide +kernel
theorem dX2_copyLot_2 : decode cX2_copyLot 2 = .ok (.if_icmp .eq 67, 3) := by decide +kernel
theorem dX2_copyLot_5 : decode cX2_copyLot 5 = .ok (.aload_n 0, 1) := by decide +kernel
theorem dX2_copyLot_6 : decode cX2_copyLot 6 = .ok (.getfield 14, 3) := by decide +kernel
theorem dX2_copyLot_9 : decode cX2_copyLot 9 = .ok (.iload_n 2, 1) := by decide +kernel
theorem dX2_copyLot_10 : decode cX2_copyLot 10 = .ok (.aload_n 0, 1) := by decide +kernel
theorem dX2_copyLot_11 : decode cX2_copyLot 11 = .ok (.getfield 14, 3) := by decide +kernel
theorem dX2_copyLot_14 : decode cX2_copyLot 14 = .ok (.iload_n 1, 1) := by decide +kernel
theorem dX2_copyLot_15 : decode cX2_copyLot 15 = .ok (.invokevirtual 40, 3) := by decide +kernel
theorem dX2_copyLot_18 : decode cX2_copyLot 18 = .ok (.invokevirtual 33, 3) := by decide +kernel
theorem dX2_copyLot_21 : decode cX2_copyLot 21 = .ok (.aload_n 0, 1) := by decide +kernel
theorem dX2_copyLot_22 : decode cX2_copyLot 22 = .ok (.getfield 20, 3) := by decide +kernel
theorem dX2_copyLot_25 : decode cX2_copyLot 25 = .ok (.iload_n 2, 1) := by decide +kernel
theorem dX2_copyLot_26 : decode cX2_copyLot 26 = .ok (.aload_n 0, 1) := by decide +kernel
theorem dX2_copyLot_27 : decode cX2_copyLot 27 = .ok (.getfield 20, 3) := by decide +kernel
theorem dX2_copyLot_30 : decode cX2_copyLot 30 = .ok (.iload_n 1, 1) := by decide +kernel
theorem dX2_copyLot_31 : decode cX2_copyLot 31 = .ok (.invokevirtual 40, 3) := by decide +kernel
theorem dX2_copyLot_34 : decode cX2_copyLot 34 = .ok (.invokevirtual 33, 3) := by decide +kernel
theorem dX2_copyLot_37 : decode cX2_copyLot 37 = .ok (.aload_n 0, 1) := by decide +kernel
theorem dX2_copyLot_38 : decode cX2_copyLot 38 = .ok (.getfield 23, 3) := by decide +kernel
theorem dX2_copyLot_41 : decode cX2_copyLot 41 = .ok (.iload_n 2, 1) := by decide +kernel
theorem dX2_copyLot_42 : decode cX2_copyLot 42 = .ok (.aload_n 0, 1) := by decide +kernel
theorem dX2_copyLot_43 : decode cX2_copyLot 43 = .ok (.getfield 23, 3) := by decide +kernel
theorem dX2_copyLot_46 : decode cX2_copyLot 46 = .ok (.iload_n 1, 1) := by decide +kernel
theorem dX2_copyLot_47 : decode cX2_copyLot 47 = .ok (.invokevirtual 40, 3) := by decide +kernel
theorem dX2_copyLot_50 : decode cX2_copyLot 50 = .ok (.invokevirtual 33, 3) := by decide +kernel
theorem dX2_copyLot_53 : decode cX2_copyLot 53 = .ok (.aload_n 0, 1) := by decide +kernel
theorem dX2_copyLot_54 : decode cX2_copyLot 54 = .ok (.getfield 26, 3) := by decide +kernel
theorem dX2_copyLot_57 : decode cX2_copyLot 57 = .ok (.iload_n 2, 1) := by decide +kernel
theorem dX2_copyLot_58 : decode cX2_copyLot 58 = .ok (.aload_n 0, 1) := by decide +kernel
theorem dX2_copyLot_59 : decode cX2_copyLot 59 = .ok (.getfield 26, 3) := by decide +kernel
theorem dX2_copyLot_62 : decode cX2_copyLot 62 = .ok (.iload_n 1, 1) := by decide +kernel
theorem dX2_copyLot_63 : decode cX2_copyLot 63 = .ok (.invokevirtual 40, 3) := by decide +kernel
theorem dX2_copyLot_66 : decode cX2_copyLot 66 = .ok (.invokevirtual 33, 3) := by decide +kernel
theorem dX2_copyLot_69 : decode cX2_copyLot 69 = .ok (.return_, 1) := by decide +kernel
theorem dX2_rations_0 : decode cX2_rations 0 = .ok (.iconst 0, 1) := by decide +kernel
theorem dX2_rations_1 : decode cX2_rations 1 = .ok (.istore_n 1, 1) := by decide +kernel
theorem dX2_rations_2 : decode cX2_rations 2 = .ok (.iconst 0, 1) := by decide +kernel
theorem dX2_rations_3 : decode cX2_rations 3 = .ok (.istore_n 2, 1) := by decide +kernel
theorem dX2_rations_4 : decode cX2_rations 4 = .ok (.iload_n 2, 1) := by decide +kernel
theorem dX2_rations_5 : decode cX2_rations 5 = .ok (.aload_n 0, 1) := by decide +kernel
theorem dX2_rations_6 : decode cX2_rations 6 = .ok (.getfield 29, 3) := by decide +kernel
theorem dX2_rations_9 : decode cX2_rations 9 = .ok (.if_icmp .ge 20, 3) := by decide +kernel
theorem dX2_rations_12 : decode cX2_rations 12 = .ok (.iload_n 1, 1) := by decide +kernel
theorem dX2_rations_13 : decode cX2_rations 13 = .ok (.aload_n 0, 1) := by decide +kernel
theorem dX2_rations_14 : decode cX2_rations 14 = .ok (.getfield 23, 3) := by decide +kernel
theorem dX2_rations_17 : decode cX2_rations 17 = .ok (.iload_n 2, 1) := by decide +kernel
theorem dX2_rations_18 : decode cX2_rations 18 = .ok (.invokevirtual 40, 3) := by decide +kernel
theorem dX2_rations_21 : decode cX2_rations 21 = .ok (.iadd, 1) := by decide +kernel
theorem dX2_rations_22 : decode cX2_rations 22 = .ok (.istore_n 1, 1) := by decide +kernel
theorem dX2_rations_23 : decode cX2_rations 23 = .ok (.iinc 2 1, 3) := by decide +kernel
theorem dX2_rations_26 : decode cX2_rations 26 = .ok (.goto (-22), 3) := by decide +kernel
theorem dX2_rations_29 : decode cX2_rations 29 = .ok (.iload_n 1, 1) := by decide +kernel
theorem dX2_rations_30 : decode cX2_rations 30 = .ok (.ireturn, 1) := by decide +kernel
theorem dX2_rationsIn_0 : decode cX2_rationsIn 0 = .ok (.iconst 0, 1) := by decide +kernel
theorem dX2_rationsIn_1 : decode cX2_rationsIn 1 = .ok (.istore_n 2, 1) := by decide +kernel
theorem dX2_rationsIn_2 : decode cX2_rationsIn 2 = .ok (.iconst 0, 1) := by decide +kernel
theorem dX2_rationsIn_3 : decode cX2_rationsIn 3 = .ok (.istore_n 3, 1) := by decide +kernel
theorem dX2_rationsIn_4 : decode cX2_rationsIn 4 = .ok (.iload_n 3, 1) := by decide +kernel
theorem dX2_rationsIn_5 : decode cX2_rationsIn 5 = .ok (.aload_n 0, 1) := by decide +kernel
theorem dX2_rationsIn_6 : decode cX2_rationsIn 6 = .ok (.getfield 29, 3) := by decide +kernel
theorem dX2_rationsIn_9 : decode cX2_rationsIn 9 = .ok (.if_icmp .ge 36, 3) := by decide +kernel
theorem dX2_rationsIn_12 : decode cX2_rationsIn 12 = .ok (.iload_n 2, 1) := by decide +kernel
theorem dX2_rationsIn_13 : decode cX2_rationsIn 13 = .ok (.aload_n 0, 1) := by decide +kernel
theorem dX2_rationsIn_14 : decode cX2_rationsIn 14 = .ok (.getfield 20, 3) := by decide +kernel
theorem dX2_rationsIn_17 : decode cX2_rationsIn 17 = .ok (.iload_n 3, 1) := by decide +kernel
theorem dX2_rationsIn_18 : decode cX2_rationsIn 18 = .ok (.invokevirtual 40, 3) := by decide +kernel
theorem dX2_rationsIn_21 : decode cX2_rationsIn 21 = .ok (.iload_n 1, 1) := by decide +kernel
theorem dX2_rationsIn_22 : decode cX2_rationsIn 22 = .ok (.if_icmp .ne 14, 3) := by decide +kernel
theorem dX2_rationsIn_25 : decode cX2_rationsIn 25 = .ok (.aload_n 0, 1) := by decide +kernel
theorem dX2_rationsIn_26 : decode cX2_rationsIn 26 = .ok (.getfield 23, 3) := by decide +kernel
theorem dX2_rationsIn_29 : decode cX2_rationsIn 29 = .ok (.iload_n 3, 1) := by decide +kernel
theorem dX2_rationsIn_30 : decode cX2_rationsIn 30 = .ok (.invokevirtual 40, 3) := by decide +kernel
theorem dX2_rationsIn_33 : decode cX2_rationsIn 33 = .ok (.goto 4, 3) := by decide +kernel
theorem dX2_rationsIn_36 : decode cX2_rationsIn 36 = .ok (.iconst 0, 1) := by decide +kernel
theorem dX2_rationsIn_37 : decode cX2_rationsIn 37 = .ok (.iadd, 1) := by decide +kernel
theorem dX2_rationsIn_38 : decode cX2_rationsIn 38 = .ok (.istore_n 2, 1) := by decide +kernel
theorem dX2_rationsIn_39 : decode cX2_rationsIn 39 = .ok (.iinc 3 1, 3) := by decide +kernel
theorem dX2_rationsIn_42 : decode cX2_rationsIn 42 = .ok (.goto (-38), 3) := by decide +kernel
theorem dX2_rationsIn_45 : decode cX2_rationsIn 45 = .ok (.iload_n 2, 1) := by decide +kernel
theorem dX2_rationsIn_46 : decode cX2_rationsIn 46 = .ok (.ireturn, 1) := by decide +kernel
theorem dX2_rationsOf_0 : decode cX2_rationsOf 0 = .ok (.iconst 0, 1) := by decide +kernel
theorem dX2_rationsOf_1 : decode cX2_rationsOf 1 = .ok (.istore_n 2, 1) := by decide +kernel
theorem dX2_rationsOf_2 : decode cX2_rationsOf 2 = .ok (.iconst 0, 1) := by decide +kernel
theorem dX2_rationsOf_3 : decode cX2_rationsOf 3 = .ok (.istore_n 3, 1) := by decide +kernel
theorem dX2_rationsOf_4 : decode cX2_rationsOf 4 = .ok (.iload_n 3, 1) := by decide +kernel
theorem dX2_rationsOf_5 : decode cX2_rationsOf 5 = .ok (.aload_n 0, 1) := by decide +kernel
theorem dX2_rationsOf_6 : decode cX2_rationsOf 6 = .ok (.getfield 29, 3) := by decide +kernel
theorem dX2_rationsOf_9 : decode cX2_rationsOf 9 = .ok (.if_icmp .ge 36, 3) := by decide +kernel
theorem dX2_rationsOf_12 : decode cX2_rationsOf 12 = .ok (.iload_n 2, 1) := by decide +kernel
theorem dX2_rationsOf_13 : decode cX2_rationsOf 13 = .ok (.aload_n 0, 1) := by decide +kernel
theorem dX2_rationsOf_14 : decode cX2_rationsOf 14 = .ok (.getfield 14, 3) := by decide +kernel
theorem dX2_rationsOf_17 : decode cX2_rationsOf 17 = .ok (.iload_n 3, 1) := by decide +kernel
theorem dX2_rationsOf_18 : decode cX2_rationsOf 18 = .ok (.invokevirtual 40, 3) := by decide +kernel
theorem dX2_rationsOf_21 : decode cX2_rationsOf 21 = .ok (.iload_n 1, 1) := by decide +kernel
theorem dX2_rationsOf_22 : decode cX2_rationsOf 22 = .ok (.if_icmp .ne 14, 3) := by decide +kernel
theorem dX2_rationsOf_25 : decode cX2_rationsOf 25 = .ok (.aload_n 0, 1) := by decide +kernel
theorem dX2_rationsOf_26 : decode cX2_rationsOf 26 = .ok (.getfield 23, 3) := by decide +kernel
theorem dX2_rationsOf_29 : decode cX2_rationsOf 29 = .ok (.iload_n 3, 1) := by decide +kernel
theorem dX2_rationsOf_30 : decode cX2_rationsOf 30 = .ok (.invokevirtual 40, 3) := by decide +kernel
theorem dX2_rationsOf_33 : decode cX2_rationsOf 33 = .ok (.goto 4, 3) := by decide +kernel
theorem dX2_rationsOf_36 : decode cX2_rationsOf 36 = .ok (.iconst 0, 1) := by decide +kernel
theorem dX2_rationsOf_37 : decode cX2_rationsOf 37 = .ok (.iadd, 1) := by decide +kernel
theorem dX2_rationsOf_38 : decode cX2_rationsOf 38 = .ok (.istore_n 2, 1) := by decide +kernel
theorem dX2_rationsOf_39 : decode cX2_rationsOf 39 = .ok (.iinc 3 1, 3) := by decide +kernel
theorem dX2_rationsOf_42 : decode cX2_rationsOf 42 = .ok (.goto (-38), 3) := by decide +kernel
theorem dX2_rationsOf_45 : decode cX2_rationsOf 45 = .ok (.iload_n 2, 1) := by decide +kernel
theorem dX2_rationsOf_46 : decode cX2_rationsOf 46 = .ok (.ireturn, 1) := by decide +kernel
theorem dX2_numberIn_0 : decode cX2_numberIn 0 = .ok (.iconst 0, 1) := by decide +kernel
theorem dX2_numberIn_1 : decode cX2_numberIn 1 = .ok (.istore_n 2, 1) := by decide +kernel
theorem dX2_numberIn_2 : decode cX2_numberIn 2 = .ok (.iconst 0, 1) := by decide +kernel
theorem dX2_numberIn_3 : decode cX2_numberIn 3 = .ok (.istore_n 3, 1) := by decide +kernel
theorem dX2_numberIn_4 : decode cX2_numberIn 4 = .ok (.iload_n 3, 1) := by decide +kernel
theorem dX2_numberIn_5 : decode cX2_numberIn 5 = .ok (.aload_n 0, 1) := by decide +kernel
theorem dX2_numberIn_6 : decode cX2_numberIn 6 = .ok (.getfield 29, 3) := by decide +kernel
theorem dX2_numberIn_9 : decode cX2_numberIn 9 = .ok (.if_icmp .ge 29, 3) := by decide +kernel
theorem dX2_numberIn_12 : decode cX2_numberIn 12 = .ok (.iload_n 2, 1) := by decide +kernel
theorem dX2_numberIn_13 : decode cX2_numberIn 13 = .ok (.aload_n 0, 1) := by decide +kernel
theorem dX2_numberIn_14 : decode cX2_numberIn 14 = .ok (.getfield 20, 3) := by decide +kernel
theorem dX2_numberIn_17 : decode cX2_numberIn 17 = .ok (.iload_n 3, 1) := by decide +kernel
theorem dX2_numberIn_18 : decode cX2_numberIn 18 = .ok (.invokevirtual 40, 3) := by decide +kernel
theorem dX2_numberIn_21 : decode cX2_numberIn 21 = .ok (.iload_n 1, 1) := by decide +kernel
theorem dX2_numberIn_22 : decode cX2_numberIn 22 = .ok (.if_icmp .ne 7, 3) := by decide +kernel
theorem dX2_numberIn_25 : decode cX2_numberIn 25 = .ok (.iconst 1, 1) := by decide +kernel
theorem dX2_numberIn_26 : decode cX2_numberIn 26 = .ok (.goto 4, 3) := by decide +kernel
theorem dX2_numberIn_29 : decode cX2_numberIn 29 = .ok (.iconst 0, 1) := by decide +kernel
theorem dX2_numberIn_30 : decode cX2_numberIn 30 = .ok (.iadd, 1) := by decide +kernel
theorem dX2_numberIn_31 : decode cX2_numberIn 31 = .ok (.istore_n 2, 1) := by decide +kernel
theorem dX2_numberIn_32 : decode cX2_numberIn 32 = .ok (.iinc 3 1, 3) := by decide +kernel
theorem dX2_numberIn_35 : decode cX2_numberIn 35 = .ok (.goto (-31), 3) := by decide +kernel
theorem dX2_numberIn_38 : decode cX2_numberIn 38 = .ok (.iload_n 2, 1) := by decide +kernel
theorem dX2_numberIn_39 : decode cX2_numberIn 39 = .ok (.ireturn, 1) := by decide +kernel
theorem dX2_numberOf_0 : decode cX2_numberOf 0 = .ok (.iconst 0, 1) := by decide +kernel
theorem dX2_numberOf_1 : decode cX2_numberOf 1 = .ok (.istore_n 2, 1) := by decide +kernel
theorem dX2_numberOf_2 : decode cX2_numberOf 2 = .ok (.iconst 0, 1) := by decide +kernel
theorem dX2_numberOf_3 : decode cX2_numberOf 3 = .ok (.istore_n 3, 1) := by decide +kernel
theorem dX2_numberOf_4 : decode cX2_numberOf 4 = .ok (.iload_n 3, 1) := by decide +kernel
theorem dX2_numberOf_5 : decode cX2_numberOf 5 = .ok (.aload_n 0, 1) := by decide +kernel
theorem dX2_numberOf_6 : decode cX2_numberOf 6 = .ok (.getfield 29, 3) := by decide +kernel
theorem dX2_numberOf_9 : decode cX2_numberOf 9 = .ok (.if_icmp .ge 29, 3) := by decide +kernel
theorem dX2_numberOf_12 : decode cX2_numberOf 12 = .ok (.iload_n 2, 1) := by decide +kernel
theorem dX2_numberOf_13 : decode cX2_numberOf 13 = .ok (.aload_n 0, 1) := by decide +kernel
theorem dX2_numberOf_14 : decode cX2_numberOf 14 = .ok (.getfield 14, 3) := by decide +kernel
theorem dX2_numberOf_17 : decode cX2_numberOf 17 = .ok (.iload_n 3, 1) := by decide +kernel
theorem dX2_numberOf_18 : decode cX2_numberOf 18 = .ok (.invokevirtual 40, 3) := by decide +kernel
theorem dX2_numberOf_21 : decode cX2_numberOf 21 = .ok (.iload_n 1, 1) := by decide +kernel
theorem dX2_numberOf_22 : decode cX2_numberOf 22 = .ok (.if_icmp .ne 7, 3) := by decide +kernel
theorem dX2_numberOf_25 : decode cX2_numberOf 25 = .ok (.iconst 1, 1) := by decide +kernel
theorem dX2_numberOf_26 : decode cX2_numberOf 26 = .ok (.goto 4, 3) := by decide +kernel
theorem dX2_numberOf_29 : decode cX2_numberOf 29 = .ok (.iconst 0, 1) := by decide +kernel
theorem dX2_numberOf_30 : decode cX2_numberOf 30 = .ok (.iadd, 1) := by decide +kernel
theorem dX2_numberOf_31 : decode cX2_numberOf 31 = .ok (.istore_n 2, 1) := by decide +kernel
theorem dX2_numberOf_32 : decode cX2_numberOf 32 = .ok (.iinc 3 1, 3) := by decide +kernel
theorem dX2_numberOf_35 : decode cX2_numberOf 35 = .ok (.goto (-31), 3) := by decide +kernel
theorem dX2_numberOf_38 : decode cX2_numberOf 38 = .ok (.iload_n 2, 1) := by decide +kernel
theorem dX2_numberOf_39 : decode cX2_numberOf 39 = .ok (.ireturn, 1) := by decide +kernel
theorem dX2_ageSum_0 : decode cX2_ageSum 0 = .ok (.lconst 0, 1) := by decide +kernel
theorem dX2_ageSum_1 : decode cX2_ageSum 1 = .ok (.lstore_n 1, 1) := by decide +kernel
theorem dX2_ageSum_2 : decode cX2_ageSum 2 = .ok (.iconst 0, 1) := by decide +kernel
theorem dX2_ageSum_3 : decode cX2_ageSum 3 = .ok (.istore_n 3, 1) := by decide +kernel
theorem dX2_ageSum_4 : decode cX2_ageSum 4 = .ok (.iload_n 3, 1) := by decide +kernel
theorem dX2_ageSum_5 : decode cX2_ageSum 5 = .ok (.aload_n 0, 1) := by decide +kernel
theorem dX2_ageSum_6 : decode cX2_ageSum 6 = .ok (.getfield 29, 3) := by decide +kernel
theorem dX2_ageSum_9 : decode cX2_ageSum 9 = .ok (.if_icmp .ge 31, 3) := by decide +kernel
theorem dX2_ageSum_12 : decode cX2_ageSum 12 = .ok (.lload_n 1, 1) := by decide +kernel
theorem dX2_ageSum_13 : decode cX2_ageSum 13 = .ok (.aload_n 0, 1) := by decide +kernel
theorem dX2_ageSum_14 : decode cX2_ageSum 14 = .ok (.getfield 26, 3) := by decide +kernel
theorem dX2_ageSum_17 : decode cX2_ageSum 17 = .ok (.iload_n 3, 1) := by decide +kernel
theorem dX2_ageSum_18 : decode cX2_ageSum 18 = .ok (.invokevirtual 40, 3) := by decide +kernel
theorem dX2_ageSum_21 : decode cX2_ageSum 21 = .ok (.i2l, 1) := by decide +kernel
theorem dX2_ageSum_22 : decode cX2_ageSum 22 = .ok (.aload_n 0, 1) := by decide +kernel
theorem dX2_ageSum_23 : decode cX2_ageSum 23 = .ok (.getfield 23, 3) := by decide +kernel
theorem dX2_ageSum_26 : decode cX2_ageSum 26 = .ok (.iload_n 3, 1) := by decide +kernel
theorem dX2_ageSum_27 : decode cX2_ageSum 27 = .ok (.invokevirtual 40, 3) := by decide +kernel
theorem dX2_ageSum_30 : decode cX2_ageSum 30 = .ok (.i2l, 1) := by decide +kernel
theorem dX2_ageSum_31 : decode cX2_ageSum 31 = .ok (.lmul, 1) := by decide +kernel
theorem dX2_ageSum_32 : decode cX2_ageSum 32 = .ok (.ladd, 1) := by decide +kernel
theorem dX2_ageSum_33 : decode cX2_ageSum 33 = .ok (.lstore_n 1, 1) := by decide +kernel
theorem dX2_ageSum_34 : decode cX2_ageSum 34 = .ok (.iinc 3 1, 3) := by decide +kernel
theorem dX2_ageSum_37 : decode cX2_ageSum 37 = .ok (.goto (-33), 3) := by decide +kernel
theorem dX2_ageSum_40 : decode cX2_ageSum 40 = .ok (.lload_n 1, 1) := by decide +kernel
theorem dX2_ageSum_41 : decode cX2_ageSum 41 = .ok (.lreturn, 1) := by decide +kernel
theorem dX2_become_0 : decode cX2_become 0 = .ok (.aload_n 1, 1) := by decide +kernel
theorem dX2_become_1 : decode cX2_become 1 = .ok (.ifnonnull 4, 3) := by decide +kernel
theorem dX2_become_4 : decode cX2_become 4 = .ok (.return_, 1) := by decide +kernel
theorem dX2_become_5 : decode cX2_become 5 = .ok (.aload_n 0, 1) := by decide +kernel
theorem dX2_become_6 : decode cX2_become 6 = .ok (.aload_n 1, 1) := by decide +kernel
theorem dX2_become_7 : decode cX2_become 7 = .ok (.getfield 29, 3) := by decide +kernel
theorem dX2_become_10 : decode cX2_become 10 = .ok (.putfield 29, 3) := by decide +kernel
theorem dX2_become_13 : decode cX2_become 13 = .ok (.aload_n 0, 1) := by decide +kernel
theorem dX2_become_14 : decode cX2_become 14 = .ok (.getfield 14, 3) := by decide +kernel
theorem dX2_become_17 : decode cX2_become 17 = .ok (.aload_n 1, 1) := by decide +kernel
theorem dX2_become_18 : decode cX2_become 18 = .ok (.getfield 14, 3) := by decide +kernel
theorem dX2_become_21 : decode cX2_become 21 = .ok (.invokevirtual 51, 3) := by decide +kernel
theorem dX2_become_24 : decode cX2_become 24 = .ok (.aload_n 0, 1) := by decide +kernel
theorem dX2_become_25 : decode cX2_become 25 = .ok (.getfield 20, 3) := by decide +kernel
theorem dX2_become_28 : decode cX2_become 28 = .ok (.aload_n 1, 1) := by decide +kernel
theorem dX2_become_29 : decode cX2_become 29 = .ok (.getfield 20, 3) := by decide +kernel
theorem dX2_become_32 : decode cX2_become 32 = .ok (.invokevirtual 51, 3) := by decide +kernel
theorem dX2_become_35 : decode cX2_become 35 = .ok (.aload_n 0, 1) := by decide +kernel
theorem dX2_become_36 : decode cX2_become 36 = .ok (.getfield 23, 3) := by decide +kernel
theorem dX2_become_39 : decode cX2_become 39 = .ok (.aload_n 1, 1) := by decide +kernel
theorem dX2_become_40 : decode cX2_become 40 = .ok (.getfield 23, 3) := by decide +kernel
theorem dX2_become_43 : decode cX2_become 43 = .ok (.invokevirtual 51, 3) := by decide +kernel
theorem dX2_become_46 : decode cX2_become 46 = .ok (.aload_n 0, 1) := by decide +kernel
theorem dX2_become_47 : decode cX2_become 47 = .ok (.getfield 26, 3) := by decide +kernel
theorem dX2_become_50 : decode cX2_become 50 = .ok (.aload_n 1, 1) := by decide +kernel
theorem dX2_become_51 : decode cX2_become 51 = .ok (.getfield 26, 3) := by decide +kernel
theorem dX2_become_54 : decode cX2_become 54 = .ok (.invokevirtual 51, 3) := by decide +kernel
theorem dX2_become_57 : decode cX2_become 57 = .ok (.return_, 1) := by decide +kernel
theorem dX3_init_0 : decode cX3_init 0 = .ok (.aload_n 0, 1) := by decide +kernel
theorem dX3_init_1 : decode cX3_init 1 = .ok (.invokespecial 3, 3) := by decide +kernel
theorem dX3_init_4 : decode cX3_init 4 = .ok (.aload_n 0, 1) := by decide +kernel
theorem dX3_init_5 : decode cX3_init 5 = .ok (.new 9, 3) := by decide +kernel
theorem dX3_init_8 : decode cX3_init 8 = .ok (.dup, 1) := by decide +kernel
theorem dX3_init_9 : decode cX3_init 9 = .ok (.bipush 60, 2) := by decide +kernel
theorem dX3_init_11 : decode cX3_init 11 = .ok (.invokespecial 11, 3) := by decide +kernel
theorem dX3_init_14 : decode cX3_init 14 = .ok (.putfield 14, 3) := by decide +kernel
theorem dX3_init_17 : decode cX3_init 17 = .ok (.aload_n 0, 1) := by decide +kernel
theorem dX3_init_18 : decode cX3_init 18 = .ok (.new 20, 3) := by decide +kernel
theorem dX3_init_21 : decode cX3_init 21 = .ok (.dup, 1) := by decide +kernel
theorem dX3_init_22 : decode cX3_init 22 = .ok (.invokespecial 22, 3) := by decide +kernel
theorem dX3_init_25 : decode cX3_init 25 = .ok (.putfield 23, 3) := by decide +kernel
theorem dX3_init_28 : decode cX3_init 28 = .ok (.return_, 1) := by decide +kernel
theorem dX3_readMenus_0 : decode cX3_readMenus 0 = .ok (.aload_n 0, 1) := by decide +kernel
theorem dX3_readMenus_1 : decode cX3_readMenus 1 = .ok (.getfield 23, 3) := by decide +kernel
theorem dX3_readMenus_4 : decode cX3_readMenus 4 = .ok (.invokevirtual 27, 3) := by decide +kernel
theorem dX3_readMenus_7 : decode cX3_readMenus 7 = .ok (.aload_n 0, 1) := by decide +kernel
theorem dX3_readMenus_8 : decode cX3_readMenus 8 = .ok (.iconst (-1), 1) := by decide +kernel
theorem dX3_readMenus_9 : decode cX3_readMenus 9 = .ok (.putfield 30, 3) := by decide +kernel
theorem dX3_readMenus_12 : decode cX3_readMenus 12 = .ok (.aload_n 0, 1) := by decide +kernel
theorem dX3_readMenus_13 : decode cX3_readMenus 13 = .ok (.iconst 0, 1) := by decide +kernel
theorem dX3_readMenus_14 : decode cX3_readMenus 14 = .ok (.putfield 34, 3) := by decide +kernel
theorem dX3_readMenus_17 : decode cX3_readMenus 17 = .ok (.aload_n 0, 1) := by decide +kernel
theorem dX3_readMenus_18 : decode cX3_readMenus 18 = .ok (.iconst 0, 1) := by decide +kernel
theorem dX3_readMenus_19 : decode cX3_readMenus 19 = .ok (.putfield 37, 3) := by decide +kernel
theorem dX3_readMenus_22 : decode cX3_readMenus 22 = .ok (.iconst 0, 1) := by decide +kernel
theorem dX3_readMenus_23 : decode cX3_readMenus 23 = .ok (.istore_n 1, 1) := by decide +kernel
theorem dX3_readMenus_24 : decode cX3_readMenus 24 = .ok (.iload_n 1, 1) := by decide +kernel
theorem dX3_readMenus_25 : decode cX3_readMenus 25 = .ok (.aload_n 0, 1) := by decide +kernel
theorem dX3_readMenus_26 : decode cX3_readMenus 26 = .ok (.getfield 40, 3) := by decide +kernel
theorem dX3_readMenus_29 : decode cX3_readMenus 29 = .ok (.if_icmp .ge 26, 3) := by decide +kernel
theorem dX3_readMenus_32 : decode cX3_readMenus 32 = .ok (.aload_n 0, 1) := by decide +kernel
theorem dX3_readMenus_33 : decode cX3_readMenus 33 = .ok (.aload_n 0, 1) := by decide +kernel
theorem dX3_readMenus_34 : decode cX3_readMenus 34 = .ok (.getfield 14, 3) := by decide +kernel
theorem dX3_readMenus_37 : decode cX3_readMenus 37 = .ok (.iload_n 1, 1) := by decide +kernel
theorem dX3_readMenus_38 : decode cX3_readMenus 38 = .ok (.invokevirtual 43, 3) := by decide +kernel
theorem dX3_readMenus_41 : decode cX3_readMenus 41 = .ok (.invokevirtual 47, 3) := by decide +kernel
theorem dX3_readMenus_44 : decode cX3_readMenus 44 = .ok (.ifCond .ne 5, 3) := by decide +kernel
theorem dX3_readMenus_47 : decode cX3_readMenus 47 = .ok (.iload_n 1, 1) := by decide +kernel
theorem dX3_readMenus_48 : decode cX3_readMenus 48 = .ok (.ireturn, 1) := by decide +kernel
theorem dX3_readMenus_49 : decode cX3_readMenus 49 = .ok (.iinc 1 1, 3) := by decide +kernel
theorem dX3_readMenus_52 : decode cX3_readMenus 52 = .ok (.goto (-28), 3) := by decide +kernel
theorem dX3_readMenus_55 : decode cX3_readMenus 55 = .ok (.aload_n 0, 1) := by decide +kernel
theorem dX3_readMenus_56 : decode cX3_readMenus 56 = .ok (.getfield 40, 3) := by decide +kernel
theorem dX3_readMenus_59 : decode cX3_readMenus 59 = .ok (.ireturn, 1) := by decide +kernel
theorem dX3_isComplete_0 : decode cX3_isComplete 0 = .ok (.aload_n 0, 1) := by decide +kernel
theorem dX3_isComplete_1 : decode cX3_isComplete 1 = .ok (.getfield 34, 3) := by decide +kernel
theorem dX3_isComplete_4 : decode cX3_isComplete 4 = .ok (.iconst 1, 1) := by decide +kernel
theorem dX3_isComplete_5 : decode cX3_isComplete 5 = .ok (.if_icmp .eq 20, 3) := by decide +kernel
theorem dX3_isComplete_8 : decode cX3_isComplete 8 = .ok (.aload_n 0, 1) := by decide +kernel
theorem dX3_isComplete_9 : decode cX3_isComplete 9 = .ok (.getfield 34, 3) := by decide +kernel
theorem dX3_isComplete_12 : decode cX3_isComplete 12 = .ok (.iconst 5, 1) := by decide +kernel
theorem dX3_isComplete_13 : decode cX3_isComplete 13 = .ok (.if_icmp .eq 12, 3) := by decide +kernel
theorem dX3_isComplete_16 : decode cX3_isComplete 16 = .ok (.aload_n 0, 1) := by decide +kernel
theorem dX3_isComplete_17 : decode cX3_isComplete 17 = .ok (.getfield 34, 3) := by decide +kernel
theorem dX3_isComplete_20 : decode cX3_isComplete 20 = .ok (.bipush 7, 2) := by decide +kernel
theorem dX3_isComplete_22 : decode cX3_isComplete 22 = .ok (.if_icmp .ne 7, 3) := by decide +kernel
theorem dX3_isComplete_25 : decode cX3_isComplete 25 = .ok (.iconst 1, 1) := by decide +kernel
theorem dX3_isComplete_26 : decode cX3_isComplete 26 = .ok (.goto 4, 3) := by decide +kernel
theorem dX3_isComplete_29 : decode cX3_isComplete 29 = .ok (.iconst 0, 1) := by decide +kernel
theorem dX3_isComplete_30 : decode cX3_isComplete 30 = .ok (.ireturn, 1) := by decide +kernel
theorem dX3_accepts_0 : decode cX3_accepts 0 = .ok (.aload_n 0, 1) := by decide +kernel
theorem dX3_accepts_1 : decode cX3_accepts 1 = .ok (.getfield 34, 3) := by decide +kernel
theorem dX3_accepts_4 : decode cX3_accepts 4 = .ok (.tableswitch 142 0 6 #[44, 64, 83, 89, 109, 115, 136], 44) := by decide +kernel
theorem dX3_accepts_48 : decode cX3_accepts 48 = .ok (.iload_n 1, 1) := by decide +kernel
theorem dX3_accepts_49 : decode cX3_accepts 49 = .ok (.bipush 45, 2) := by decide +kernel
theorem dX3_accepts_51 : decode cX3_accepts 51 = .ok (.if_icmp .ne 11, 3) := by decide +kernel
theorem dX3_accepts_54 : decode cX3_accepts 54 = .ok (.aload_n 0, 1) := by decide +kernel
theorem dX3_accepts_55 : decode cX3_accepts 55 = .ok (.iconst 1, 1) := by decide +kernel
theorem dX3_accepts_56 : decode cX3_accepts 56 = .ok (.invokevirtual 51, 3) := by decide +kernel
theorem dX3_accepts_59 : decode cX3_accepts 59 = .ok (.goto 8, 3) := by decide +kernel
theorem dX3_accepts_62 : decode cX3_accepts 62 = .ok (.aload_n 0, 1) := by decide +kernel
theorem dX3_accepts_63 : decode cX3_accepts 63 = .ok (.iload_n 1, 1) := by decide +kernel
theorem dX3_accepts_64 : decode cX3_accepts 64 = .ok (.invokevirtual 54, 3) := by decide +kernel
theorem dX3_accepts_67 : decode cX3_accepts 67 = .ok (.ireturn, 1) := by decide +kernel
theorem dX3_accepts_68 : decode cX3_accepts 68 = .ok (.iload_n 1, 1) := by decide +kernel
theorem dX3_accepts_69 : decode cX3_accepts 69 = .ok (.bipush 59, 2) := by decide +kernel
theorem dX3_accepts_71 : decode cX3_accepts 71 = .ok (.if_icmp .ne 14, 3) := by decide +kernel
theorem dX3_accepts_74 : decode cX3_accepts 74 = .ok (.aload_n 0, 1) := by decide +kernel
theorem dX3_accepts_75 : decode cX3_accepts 75 = .ok (.invokevirtual 57, 3) := by decide +kernel
theorem dX3_accepts_78 : decode cX3_accepts 78 = .ok (.ifCond .eq 7, 3) := by decide +kernel
theorem dX3_accepts_81 : decode cX3_accepts 81 = .ok (.iconst 1, 1) := by decide +kernel
theorem dX3_accepts_82 : decode cX3_accepts 82 = .ok (.goto 4, 3) := by decide +kernel
theorem dX3_accepts_85 : decode cX3_accepts 85 = .ok (.iconst 0, 1) := by decide +kernel
theorem dX3_accepts_86 : decode cX3_accepts 86 = .ok (.ireturn, 1) := by decide +kernel
theorem dX3_accepts_87 : decode cX3_accepts 87 = .ok (.aload_n 0, 1) := by decide +kernel
theorem dX3_accepts_88 : decode cX3_accepts 88 = .ok (.iload_n 1, 1) := by decide +kernel
theorem dX3_accepts_89 : decode cX3_accepts 89 = .ok (.invokevirtual 54, 3) := by decide +kernel
theorem dX3_accepts_92 : decode cX3_accepts 92 = .ok (.ireturn, 1) := by decide +kernel
theorem dX3_accepts_93 : decode cX3_accepts 93 = .ok (.iload_n 1, 1) := by decide +kernel
theorem dX3_accepts_94 : decode cX3_accepts 94 = .ok (.bipush 42, 2) := by decide +kernel
theorem dX3_accepts_96 : decode cX3_accepts 96 = .ok (.if_icmp .ne 15, 3) := by decide +kernel
theorem dX3_accepts_99 : decode cX3_accepts 99 = .ok (.aload_n 0, 1) := by decide +kernel
theorem dX3_accepts_100 : decode cX3_accepts 100 = .ok (.iconst 4, 1) := by decide +kernel
theorem dX3_accepts_101 : decode cX3_accepts 101 = .ok (.invokevirtual 51, 3) := by decide +kernel
theorem dX3_accepts_104 : decode cX3_accepts 104 = .ok (.ifCond .eq 7, 3) := by decide +kernel
theorem dX3_accepts_107 : decode cX3_accepts 107 = .ok (.iconst 1, 1) := by decide +kernel
theorem dX3_accepts_108 : decode cX3_accepts 108 = .ok (.goto 4, 3) := by decide +kernel
theorem dX3_accepts_111 : decode cX3_accepts 111 = .ok (.iconst 0, 1) := by decide +kernel
theorem dX3_accepts_112 : decode cX3_accepts 112 = .ok (.ireturn, 1) := by decide +kernel
theorem dX3_accepts_113 : decode cX3_accepts 113 = .ok (.aload_n 0, 1) := by decide +kernel
theorem dX3_accepts_114 : decode cX3_accepts 114 = .ok (.iload_n 1, 1) := by decide +kernel
theorem dX3_accepts_115 : decode cX3_accepts 115 = .ok (.invokevirtual 61, 3) := by decide +kernel
theorem dX3_accepts_118 : decode cX3_accepts 118 = .ok (.ireturn, 1) := by decide +kernel
theorem dX3_accepts_119 : decode cX3_accepts 119 = .ok (.iload_n 1, 1) := by decide +kernel
theorem dX3_accepts_120 : decode cX3_accepts 120 = .ok (.bipush 47, 2) := by decide +kernel
theorem dX3_accepts_122 : decode cX3_accepts 122 = .ok (.if_icmp .ne 12, 3) := by decide +kernel
theorem dX3_accepts_125 : decode cX3_accepts 125 = .ok (.aload_n 0, 1) := by decide +kernel
theorem dX3_accepts_126 : decode cX3_accepts 126 = .ok (.bipush 6, 2) := by decide +kernel
theorem dX3_accepts_128 : decode cX3_accepts 128 = .ok (.invokevirtual 51, 3) := by decide +kernel
theorem dX3_accepts_131 : decode cX3_accepts 131 = .ok (.goto 8, 3) := by decide +kernel
theorem dX3_accepts_134 : decode cX3_accepts 134 = .ok (.aload_n 0, 1) := by decide +kernel
theorem dX3_accepts_135 : decode cX3_accepts 135 = .ok (.iload_n 1, 1) := by decide +kernel
theorem dX3_accepts_136 : decode cX3_accepts 136 = .ok (.invokevirtual 64, 3) := by decide +kernel
theorem dX3_accepts_139 : decode cX3_accepts 139 = .ok (.ireturn, 1) := by decide +kernel
theorem dX3_accepts_140 : decode cX3_accepts 140 = .ok (.aload_n 0, 1) := by decide +kernel
theorem dX3_accepts_141 : decode cX3_accepts 141 = .ok (.iload_n 1, 1) := by decide +kernel
theorem dX3_accepts_142 : decode cX3_accepts 142 = .ok (.invokevirtual 67, 3) := by decide +kernel
theorem dX3_accepts_145 : decode cX3_accepts 145 = .ok (.ireturn, 1) := by decide +kernel
theorem dX3_accepts_146 : decode cX3_accepts 146 = .ok (.aload_n 0, 1) := by decide +kernel
theorem dX3_accepts_147 : decode cX3_accepts 147 = .ok (.iload_n 1, 1) := by decide +kernel
theorem dX3_accepts_148 : decode cX3_accepts 148 = .ok (.invokevirtual 64, 3) := by decide +kernel
theorem dX3_accepts_151 : decode cX3_accepts 151 = .ok (.ireturn, 1) := by decide +kernel
theorem dX3_comesTo_0 : decode cX3_comesTo 0 = .ok (.aload_n 0, 1) := by decide +kernel
theorem dX3_comesTo_1 : decode cX3_comesTo 1 = .ok (.iload_n 1, 1) := by decide +kernel
theorem dX3_comesTo_2 : decode cX3_comesTo 2 = .ok (.putfield 34, 3) := by decide +kernel
theorem dX3_comesTo_5 : decode cX3_comesTo 5 = .ok (.iconst 1, 1) := by decide +kernel
theorem dX3_comesTo_6 : decode cX3_comesTo 6 = .ok (.ireturn, 1) := by decide +kernel
theorem dX3_acceptsKind_0 : decode cX3_acceptsKind 0 = .ok (.iload_n 1, 1) := by decide +kernel
theorem dX3_acceptsKind_1 : decode cX3_acceptsKind 1 = .ok (.bipush 48, 2) := by decide +kernel
theorem dX3_acceptsKind_3 : decode cX3_acceptsKind 3 = .ok (.bipush 55, 2) := by decide +kernel
theorem dX3_acceptsKind_5 : decode cX3_acceptsKind 5 = .ok (.invokestatic 70, 3) := by decide +kernel
theorem dX3_acceptsKind_8 : decode cX3_acceptsKind 8 = .ok (.ifCond .ne 5, 3) := by decide +kernel
theorem dX3_acceptsKind_11 : decode cX3_acceptsKind 11 = .ok (.iconst 0, 1) := by decide +kernel
theorem dX3_acceptsKind_12 : decode cX3_acceptsKind 12 = .ok (.ireturn, 1) := by decide +kernel
theorem dX3_acceptsKind_13 : decode cX3_acceptsKind 13 = .ok (.aload_n 0, 1) := by decide +kernel
theorem dX3_acceptsKind_14 : decode cX3_acceptsKind 14 = .ok (.getfield 23, 3) := by decide +kernel
theorem dX3_acceptsKind_17 : decode cX3_acceptsKind 17 = .ok (.getfield 74, 3) := by decide +kernel
theorem dX3_acceptsKind_20 : decode cX3_acceptsKind 20 = .ok (.aload_n 0, 1) := by decide +kernel
theorem dX3_acceptsKind_21 : decode cX3_acceptsKind 21 = .ok (.invokevirtual 77, 3) := by decide +kernel
theorem dX3_acceptsKind_24 : decode cX3_acceptsKind 24 = .ok (.iload_n 1, 1) := by decide +kernel
theorem dX3_acceptsKind_25 : decode cX3_acceptsKind 25 = .ok (.bipush 48, 2) := by decide +kernel
theorem dX3_acceptsKind_27 : decode cX3_acceptsKind 27 = .ok (.isub, 1) := by decide +kernel
theorem dX3_acceptsKind_28 : decode cX3_acceptsKind 28 = .ok (.invokevirtual 81, 3) := by decide +kernel
theorem dX3_acceptsKind_31 : decode cX3_acceptsKind 31 = .ok (.aload_n 0, 1) := by decide +kernel
theorem dX3_acceptsKind_32 : decode cX3_acceptsKind 32 = .ok (.getfield 23, 3) := by decide +kernel
theorem dX3_acceptsKind_35 : decode cX3_acceptsKind 35 = .ok (.getfield 85, 3) := by decide +kernel
theorem dX3_acceptsKind_38 : decode cX3_acceptsKind 38 = .ok (.aload_n 0, 1) := by decide +kernel
theorem dX3_acceptsKind_39 : decode cX3_acceptsKind 39 = .ok (.invokevirtual 77, 3) := by decide +kernel
theorem dX3_acceptsKind_42 : decode cX3_acceptsKind 42 = .ok (.iconst (-1), 1) := by decide +kernel
theorem dX3_acceptsKind_43 : decode cX3_acceptsKind 43 = .ok (.invokevirtual 81, 3) := by decide +kernel
theorem dX3_acceptsKind_46 : decode cX3_acceptsKind 46 = .ok (.aload_n 0, 1) := by decide +kernel
theorem dX3_acceptsKind_47 : decode cX3_acceptsKind 47 = .ok (.aload_n 0, 1) := by decide +kernel
theorem dX3_acceptsKind_48 : decode cX3_acceptsKind 48 = .ok (.getfield 30, 3) := by decide +kernel
theorem dX3_acceptsKind_51 : decode cX3_acceptsKind 51 = .ok (.iload_n 1, 1) := by decide +kernel
theorem dX3_acceptsKind_52 : decode cX3_acceptsKind 52 = .ok (.bipush 48, 2) := by decide +kernel
theorem dX3_acceptsKind_54 : decode cX3_acceptsKind 54 = .ok (.isub, 1) := by decide +kernel
theorem dX3_acceptsKind_55 : decode cX3_acceptsKind 55 = .ok (.invokestatic 88, 3) := by decide +kernel
theorem dX3_acceptsKind_58 : decode cX3_acceptsKind 58 = .ok (.putfield 30, 3) := by decide +kernel
theorem dX3_acceptsKind_61 : decode cX3_acceptsKind 61 = .ok (.aload_n 0, 1) := by decide +kernel
theorem dX3_acceptsKind_62 : decode cX3_acceptsKind 62 = .ok (.iconst 3, 1) := by decide +kernel
theorem dX3_acceptsKind_63 : decode cX3_acceptsKind 63 = .ok (.invokevirtual 51, 3) := by decide +kernel
theorem dX3_acceptsKind_66 : decode cX3_acceptsKind 66 = .ok (.ireturn, 1) := by decide +kernel
theorem dX3_acceptsAmount_0 : decode cX3_acceptsAmount 0 = .ok (.iload_n 1, 1) := by decide +kernel
theorem dX3_acceptsAmount_1 : decode cX3_acceptsAmount 1 = .ok (.bipush 49, 2) := by decide +kernel
theorem dX3_acceptsAmount_3 : decode cX3_acceptsAmount 3 = .ok (.bipush 57, 2) := by decide +kernel
theorem dX3_acceptsAmount_5 : decode cX3_acceptsAmount 5 = .ok (.invokestatic 70, 3) := by decide +kernel
theorem dX3_acceptsAmount_8 : decode cX3_acceptsAmount 8 = .ok (.ifCond .ne 5, 3) := by decide +kernel
theorem dX3_acceptsAmount_11 : decode cX3_acceptsAmount 11 = .ok (.iconst 0, 1) := by decide +kernel
theorem dX3_acceptsAmount_12 : decode cX3_acceptsAmount 12 = .ok (.ireturn, 1) := by decide +kernel
theorem dX3_acceptsAmount_13 : decode cX3_acceptsAmount 13 = .ok (.aload_n 0, 1) := by decide +kernel
theorem dX3_acceptsAmount_14 : decode cX3_acceptsAmount 14 = .ok (.getfield 23, 3) := by decide +kernel
theorem dX3_acceptsAmount_17 : decode cX3_acceptsAmount 17 = .ok (.getfield 94, 3) := by decide +kernel
theorem dX3_acceptsAmount_20 : decode cX3_acceptsAmount 20 = .ok (.aload_n 0, 1) := by decide +kernel
theorem dX3_acceptsAmount_21 : decode cX3_acceptsAmount 21 = .ok (.invokevirtual 77, 3) := by decide +kernel
theorem dX3_acceptsAmount_24 : decode cX3_acceptsAmount 24 = .ok (.iload_n 1, 1) := by decide +kernel
theorem dX3_acceptsAmount_25 : decode cX3_acceptsAmount 25 = .ok (.bipush 48, 2) := by decide +kernel
theorem dX3_acceptsAmount_27 : decode cX3_acceptsAmount 27 = .ok (.isub, 1) := by decide +kernel
theorem dX3_acceptsAmount_28 : decode cX3_acceptsAmount 28 = .ok (.invokevirtual 81, 3) := by decide +kernel
theorem dX3_acceptsAmount_31 : decode cX3_acceptsAmount 31 = .ok (.aload_n 0, 1) := by decide +kernel
theorem dX3_acceptsAmount_32 : decode cX3_acceptsAmount 32 = .ok (.iconst 5, 1) := by decide +kernel
theorem dX3_acceptsAmount_33 : decode cX3_acceptsAmount 33 = .ok (.invokevirtual 51, 3) := by decide +kernel
theorem dX3_acceptsAmount_36 : decode cX3_acceptsAmount 36 = .ok (.ireturn, 1) := by decide +kernel
theorem dX3_acceptsSubstitute_0 : decode cX3_acceptsSubstitute 0 = .ok (.iload_n 1, 1) := by decide +kernel
theorem dX3_acceptsSubstitute_1 : decode cX3_acceptsSubstitute 1 = .ok (.bipush 48, 2) := by decide +kernel
theorem dX3_acceptsSubstitute_3 : decode cX3_acceptsSubstitute 3 = .ok (.bipush 55, 2) := by decide +kernel
theorem dX3_acceptsSubstitute_5 : decode cX3_acceptsSubstitute 5 = .ok (.invokestatic 70, 3) := by decide +kernel
theorem dX3_acceptsSubstitute_8 : decode cX3_acceptsSubstitute 8 = .ok (.ifCond .eq 24, 3) := by decide +kernel
theorem dX3_acceptsSubstitute_11 : decode cX3_acceptsSubstitute 11 = .ok (.iload_n 1, 1) := by decide +kernel
theorem dX3_acceptsSubstitute_12 : decode cX3_acceptsSubstitute 12 = .ok (.bipush 48, 2) := by decide +kernel
theorem dX3_acceptsSubstitute_14 : decode cX3_acceptsSubstitute 14 = .ok (.isub, 1) := by decide +kernel
theorem dX3_acceptsSubstitute_15 : decode cX3_acceptsSubstitute 15 = .ok (.aload_n 0, 1) := by decide +kernel
theorem dX3_acceptsSubstitute_16 : decode cX3_acceptsSubstitute 16 = .ok (.getfield 23, 3) := by decide +kernel
theorem dX3_acceptsSubstitute_19 : decode cX3_acceptsSubstitute 19 = .ok (.getfield 74, 3) := by decide +kernel
theorem dX3_acceptsSubstitute_22 : decode cX3_acceptsSubstitute 22 = .ok (.aload_n 0, 1) := by decide +kernel
theorem dX3_acceptsSubstitute_23 : decode cX3_acceptsSubstitute 23 = .ok (.invokevirtual 77, 3) := by decide +kernel
theorem dX3_acceptsSubstitute_26 : decode cX3_acceptsSubstitute 26 = .ok (.invokevirtual 43, 3) := by decide +kernel
theorem dX3_acceptsSubstitute_29 : decode cX3_acceptsSubstitute 29 = .ok (.if_icmp .ne 5, 3) := by decide +kernel
theorem dX3_acceptsSubstitute_32 : decode cX3_acceptsSubstitute 32 = .ok (.iconst 0, 1) := by decide +kernel
theorem dX3_acceptsSubstitute_33 : decode cX3_acceptsSubstitute 33 = .ok (.ireturn, 1) := by decide +kernel
theorem dX3_acceptsSubstitute_34 : decode cX3_acceptsSubstitute 34 = .ok (.aload_n 0, 1) := by decide +kernel
theorem dX3_acceptsSubstitute_35 : decode cX3_acceptsSubstitute 35 = .ok (.getfield 23, 3) := by decide +kernel
theorem dX3_acceptsSubstitute_38 : decode cX3_acceptsSubstitute 38 = .ok (.getfield 85, 3) := by decide +kernel
theorem dX3_acceptsSubstitute_41 : decode cX3_acceptsSubstitute 41 = .ok (.aload_n 0, 1) := by decide +kernel
theorem dX3_acceptsSubstitute_42 : decode cX3_acceptsSubstitute 42 = .ok (.invokevirtual 77, 3) := by decide +kernel
theorem dX3_acceptsSubstitute_45 : decode cX3_acceptsSubstitute 45 = .ok (.iload_n 1, 1) := by decide +kernel
theorem dX3_acceptsSubstitute_46 : decode cX3_acceptsSubstitute 46 = .ok (.bipush 48, 2) := by decide +kernel
theorem dX3_acceptsSubstitute_48 : decode cX3_acceptsSubstitute 48 = .ok (.isub, 1) := by decide +kernel
theorem dX3_acceptsSubstitute_49 : decode cX3_acceptsSubstitute 49 = .ok (.invokevirtual 81, 3) := by decide +kernel
theorem dX3_acceptsSubstitute_52 : decode cX3_acceptsSubstitute 52 = .ok (.aload_n 0, 1) := by decide +kernel
theorem dX3_acceptsSubstitute_53 : decode cX3_acceptsSubstitute 53 = .ok (.aload_n 0, 1) := by decide +kernel
theorem dX3_acceptsSubstitute_54 : decode cX3_acceptsSubstitute 54 = .ok (.getfield 30, 3) := by decide +kernel
theorem dX3_acceptsSubstitute_57 : decode cX3_acceptsSubstitute 57 = .ok (.iload_n 1, 1) := by decide +kernel
theorem dX3_acceptsSubstitute_58 : decode cX3_acceptsSubstitute 58 = .ok (.bipush 48, 2) := by decide +kernel
theorem dX3_acceptsSubstitute_60 : decode cX3_acceptsSubstitute 60 = .ok (.isub, 1) := by decide +kernel
theorem dX3_acceptsSubstitute_61 : decode cX3_acceptsSubstitute 61 = .ok (.invokestatic 88, 3) := by decide +kernel
theorem dX3_acceptsSubstitute_64 : decode cX3_acceptsSubstitute 64 = .ok (.putfield 30, 3) := by decide +kernel
theorem dX3_acceptsSubstitute_67 : decode cX3_acceptsSubstitute 67 = .ok (.aload_n 0, 1) := by decide +kernel
theorem dX3_acceptsSubstitute_68 : decode cX3_acceptsSubstitute 68 = .ok (.bipush 7, 2) := by decide +kernel
theorem dX3_acceptsSubstitute_70 : decode cX3_acceptsSubstitute 70 = .ok (.invokevirtual 51, 3) := by decide +kernel
theorem dX3_acceptsSubstitute_73 : decode cX3_acceptsSubstitute 73 = .ok (.ireturn, 1) := by decide +kernel
theorem dX3_acceptsSeparator_0 : decode cX3_acceptsSeparator 0 = .ok (.iload_n 1, 1) := by decide +kernel
theorem dX3_acceptsSeparator_1 : decode cX3_acceptsSeparator 1 = .ok (.bipush 59, 2) := by decide +kernel
theorem dX3_acceptsSeparator_3 : decode cX3_acceptsSeparator 3 = .ok (.if_icmp .ne 8, 3) := by decide +kernel
theorem dX3_acceptsSeparator_6 : decode cX3_acceptsSeparator 6 = .ok (.aload_n 0, 1) := by decide +kernel
theorem dX3_acceptsSeparator_7 : decode cX3_acceptsSeparator 7 = .ok (.invokevirtual 57, 3) := by decide +kernel
theorem dX3_acceptsSeparator_10 : decode cX3_acceptsSeparator 10 = .ok (.ireturn, 1) := by decide +kernel
theorem dX3_acceptsSeparator_11 : decode cX3_acceptsSeparator 11 = .ok (.iload_n 1, 1) := by decide +kernel
theorem dX3_acceptsSeparator_12 : decode cX3_acceptsSeparator 12 = .ok (.bipush 44, 2) := by decide +kernel
theorem dX3_acceptsSeparator_14 : decode cX3_acceptsSeparator 14 = .ok (.if_icmp .ne 11, 3) := by decide +kernel
theorem dX3_acceptsSeparator_17 : decode cX3_acceptsSeparator 17 = .ok (.aload_n 0, 1) := by decide +kernel
theorem dX3_acceptsSeparator_18 : decode cX3_acceptsSeparator 18 = .ok (.getfield 37, 3) := by decide +kernel
theorem dX3_acceptsSeparator_21 : decode cX3_acceptsSeparator 21 = .ok (.iconst 3, 1) := by decide +kernel
theorem dX3_acceptsSeparator_22 : decode cX3_acceptsSeparator 22 = .ok (.if_icmp .lt 5, 3) := by decide +kernel
theorem dX3_acceptsSeparator_25 : decode cX3_acceptsSeparator 25 = .ok (.iconst 0, 1) := by decide +kernel
theorem dX3_acceptsSeparator_26 : decode cX3_acceptsSeparator 26 = .ok (.ireturn, 1) := by decide +kernel
theorem dX3_acceptsSeparator_27 : decode cX3_acceptsSeparator 27 = .ok (.aload_n 0, 1) := by decide +kernel
theorem dX3_acceptsSeparator_28 : decode cX3_acceptsSeparator 28 = .ok (.dup, 1) := by decide +kernel
theorem dX3_acceptsSeparator_29 : decode cX3_acceptsSeparator 29 = .ok (.getfield 37, 3) := by decide +kernel
theorem dX3_acceptsSeparator_32 : decode cX3_acceptsSeparator 32 = .ok (.iconst 1, 1) := by decide +kernel
theorem dX3_acceptsSeparator_33 : decode cX3_acceptsSeparator 33 = .ok (.iadd, 1) := by decide +kernel
theorem dX3_acceptsSeparator_34 : decode cX3_acceptsSeparator 34 = .ok (.putfield 37, 3) := by decide +kernel
theorem dX3_acceptsSeparator_37 : decode cX3_acceptsSeparator 37 = .ok (.aload_n 0, 1) := by decide +kernel
theorem dX3_acceptsSeparator_38 : decode cX3_acceptsSeparator 38 = .ok (.iconst 2, 1) := by decide +kernel
theorem dX3_acceptsSeparator_39 : decode cX3_acceptsSeparator 39 = .ok (.invokevirtual 51, 3) := by decide +kernel
theorem dX3_acceptsSeparator_42 : decode cX3_acceptsSeparator 42 = .ok (.ireturn, 1) := by decide +kernel
theorem dX3_beginsMenu_0 : decode cX3_beginsMenu 0 = .ok (.aload_n 0, 1) := by decide +kernel
theorem dX3_beginsMenu_1 : decode cX3_beginsMenu 1 = .ok (.getfield 23, 3) := by decide +kernel
theorem dX3_beginsMenu_4 : decode cX3_beginsMenu 4 = .ok (.getfield 97, 3) := by decide +kernel
theorem dX3_beginsMenu_7 : decode cX3_beginsMenu 7 = .ok (.bipush 10, 2) := by decide +kernel
theorem dX3_beginsMenu_9 : decode cX3_beginsMenu 9 = .ok (.if_icmp .lt 5, 3) := by decide +kernel
theorem dX3_beginsMenu_12 : decode cX3_beginsMenu 12 = .ok (.iconst 0, 1) := by decide +kernel
theorem dX3_beginsMenu_13 : decode cX3_beginsMenu 13 = .ok (.ireturn, 1) := by decide +kernel
theorem dX3_beginsMenu_14 : decode cX3_beginsMenu 14 = .ok (.aload_n 0, 1) := by decide +kernel
theorem dX3_beginsMenu_15 : decode cX3_beginsMenu 15 = .ok (.getfield 23, 3) := by decide +kernel
theorem dX3_beginsMenu_18 : decode cX3_beginsMenu 18 = .ok (.dup, 1) := by decide +kernel
theorem dX3_beginsMenu_19 : decode cX3_beginsMenu 19 = .ok (.getfield 97, 3) := by decide +kernel
theorem dX3_beginsMenu_22 : decode cX3_beginsMenu 22 = .ok (.iconst 1, 1) := by decide +kernel
theorem dX3_beginsMenu_23 : decode cX3_beginsMenu 23 = .ok (.iadd, 1) := by decide +kernel
theorem dX3_beginsMenu_24 : decode cX3_beginsMenu 24 = .ok (.putfield 97, 3) := by decide +kernel
theorem dX3_beginsMenu_27 : decode cX3_beginsMenu 27 = .ok (.aload_n 0, 1) := by decide +kernel
theorem dX3_beginsMenu_28 : decode cX3_beginsMenu 28 = .ok (.iconst 0, 1) := by decide +kernel
theorem dX3_beginsMenu_29 : decode cX3_beginsMenu 29 = .ok (.putfield 37, 3) := by decide +kernel
theorem dX3_beginsMenu_32 : decode cX3_beginsMenu 32 = .ok (.aload_n 0, 1) := by decide +kernel
theorem dX3_beginsMenu_33 : decode cX3_beginsMenu 33 = .ok (.iconst 0, 1) := by decide +kernel
theorem dX3_beginsMenu_34 : decode cX3_beginsMenu 34 = .ok (.invokevirtual 51, 3) := by decide +kernel
theorem dX3_beginsMenu_37 : decode cX3_beginsMenu 37 = .ok (.ireturn, 1) := by decide +kernel
theorem dX3_slot_0 : decode cX3_slot 0 = .ok (.aload_n 0, 1) := by decide +kernel
theorem dX3_slot_1 : decode cX3_slot 1 = .ok (.getfield 23, 3) := by decide +kernel
theorem dX3_slot_4 : decode cX3_slot 4 = .ok (.aload_n 0, 1) := by decide +kernel
theorem dX3_slot_5 : decode cX3_slot 5 = .ok (.getfield 23, 3) := by decide +kernel
theorem dX3_slot_8 : decode cX3_slot 8 = .ok (.getfield 97, 3) := by decide +kernel
theorem dX3_slot_11 : decode cX3_slot 11 = .ok (.iconst 1, 1) := by decide +kernel
theorem dX3_slot_12 : decode cX3_slot 12 = .ok (.isub, 1) := by decide +kernel
theorem dX3_slot_13 : decode cX3_slot 13 = .ok (.aload_n 0, 1) := by decide +kernel
theorem dX3_slot_14 : decode cX3_slot 14 = .ok (.getfield 37, 3) := by decide +kernel
theorem dX3_slot_17 : decode cX3_slot 17 = .ok (.invokevirtual 100, 3) := by decide +kernel
theorem dX3_slot_20 : decode cX3_slot 20 = .ok (.ireturn, 1) := by decide +kernel
theorem dX4_init_0 : decode cX4_init 0 = .ok (.aload_n 0, 1) := by decide +kernel
theorem dX4_init_1 : decode cX4_init 1 = .ok (.invokespecial 3, 3) := by decide +kernel
theorem dX4_init_4 : decode cX4_init 4 = .ok (.aload_n 0, 1) := by decide +kernel
theorem dX4_init_5 : decode cX4_init 5 = .ok (.iconst 1, 1) := by decide +kernel
theorem dX4_init_6 : decode cX4_init 6 = .ok (.putfield 9, 3) := by decide +kernel
theorem dX4_init_9 : decode cX4_init 9 = .ok (.aload_n 0, 1) := by decide +kernel
theorem dX4_init_10 : decode cX4_init 10 = .ok (.new 15, 3) := by decide +kernel
theorem dX4_init_13 : decode cX4_init 13 = .ok (.dup, 1) := by decide +kernel
theorem dX4_init_14 : decode cX4_init 14 = .ok (.bipush 40, 2) := by decide +kernel
theorem dX4_init_16 : decode cX4_init 16 = .ok (.invokespecial 17, 3) := by decide +kernel
theorem dX4_init_19 : decode cX4_init 19 = .ok (.putfield 20, 3) := by decide +kernel
theorem dX4_init_22 : decode cX4_init 22 = .ok (.aload_n 0, 1) := by decide +kernel
theorem dX4_init_23 : decode cX4_init 23 = .ok (.new 15, 3) := by decide +kernel
theorem dX4_init_26 : decode cX4_init 26 = .ok (.dup, 1) := by decide +kernel
theorem dX4_init_27 : decode cX4_init 27 = .ok (.bipush 40, 2) := by decide +kernel
theorem dX4_init_29 : decode cX4_init 29 = .ok (.invokespecial 17, 3) := by decide +kernel
theorem dX4_init_32 : decode cX4_init 32 = .ok (.putfield 24, 3) := by decide +kernel
theorem dX4_init_35 : decode cX4_init 35 = .ok (.aload_n 0, 1) := by decide +kernel
theorem dX4_init_36 : decode cX4_init 36 = .ok (.new 15, 3) := by decide +kernel
theorem dX4_init_39 : decode cX4_init 39 = .ok (.dup, 1) := by decide +kernel
theorem dX4_init_40 : decode cX4_init 40 = .ok (.bipush 40, 2) := by decide +kernel
theorem dX4_init_42 : decode cX4_init 42 = .ok (.invokespecial 17, 3) := by decide +kernel
theorem dX4_init_45 : decode cX4_init 45 = .ok (.putfield 27, 3) := by decide +kernel
theorem dX4_init_48 : decode cX4_init 48 = .ok (.return_, 1) := by decide +kernel
theorem dX4_slot_0 : decode cX4_slot 0 = .ok (.iload_n 1, 1) := by decide +kernel
theorem dX4_slot_1 : decode cX4_slot 1 = .ok (.iconst 4, 1) := by decide +kernel
theorem dX4_slot_2 : decode cX4_slot 2 = .ok (.imul, 1) := by decide +kernel
theorem dX4_slot_3 : decode cX4_slot 3 = .ok (.iload_n 2, 1) := by decide +kernel
theorem dX4_slot_4 : decode cX4_slot 4 = .ok (.iadd, 1) := by decide +kernel
theorem dX4_slot_5 : decode cX4_slot 5 = .ok (.ireturn, 1) := by decide +kernel
theorem dX4_has_0 : decode cX4_has 0 = .ok (.aload_n 0, 1) := by decide +kernel
theorem dX4_has_1 : decode cX4_has 1 = .ok (.getfield 24, 3) := by decide +kernel
theorem dX4_has_4 : decode cX4_has 4 = .ok (.iload_n 1, 1) := by decide +kernel
theorem dX4_has_5 : decode cX4_has 5 = .ok (.invokevirtual 30, 3) := by decide +kernel
theorem dX4_has_8 : decode cX4_has 8 = .ok (.ifCond .le 7, 3) := by decide +kernel
theorem dX4_has_11 : decode cX4_has 11 = .ok (.iconst 1, 1) := by decide +kernel
theorem dX4_has_12 : decode cX4_has 12 = .ok (.goto 4, 3) := by decide +kernel
theorem dX4_has_15 : decode cX4_has 15 = .ok (.iconst 0, 1) := by decide +kernel
theorem dX4_has_16 : decode cX4_has 16 = .ok (.ireturn, 1) := by decide +kernel
theorem dX4_ofDay_0 : decode cX4_ofDay 0 = .ok (.aload_n 0, 1) := by decide +kernel
theorem dX4_ofDay_1 : decode cX4_ofDay 1 = .ok (.getfield 9, 3) := by decide +kernel
theorem dX4_ofDay_4 : decode cX4_ofDay 4 = .ok (.iconst 1, 1) := by decide +kernel
theorem dX4_ofDay_5 : decode cX4_ofDay 5 = .ok (.if_icmp .ge 7, 3) := by decide +kernel
theorem dX4_ofDay_8 : decode cX4_ofDay 8 = .ok (.iconst 0, 1) := by decide +kernel
theorem dX4_ofDay_9 : decode cX4_ofDay 9 = .ok (.goto 11, 3) := by decide +kernel
theorem dX4_ofDay_12 : decode cX4_ofDay 12 = .ok (.iload_n 1, 1) := by decide +kernel
theorem dX4_ofDay_13 : decode cX4_ofDay 13 = .ok (.aload_n 0, 1) := by decide +kernel
theorem dX4_ofDay_14 : decode cX4_ofDay 14 = .ok (.getfield 9, 3) := by decide +kernel
theorem dX4_ofDay_17 : decode cX4_ofDay 17 = .ok (.invokestatic 34, 3) := by decide +kernel
theorem dX4_ofDay_20 : decode cX4_ofDay 20 = .ok (.ireturn, 1) := by decide +kernel
theorem dX4_forget_0 : decode cX4_forget 0 = .ok (.aload_n 0, 1) := by decide +kernel
theorem dX4_forget_1 : decode cX4_forget 1 = .ok (.iconst 1, 1) := by decide +kernel
theorem dX4_forget_2 : decode cX4_forget 2 = .ok (.putfield 9, 3) := by decide +kernel
theorem dX4_forget_5 : decode cX4_forget 5 = .ok (.aload_n 0, 1) := by decide +kernel
theorem dX4_forget_6 : decode cX4_forget 6 = .ok (.getfield 24, 3) := by decide +kernel
theorem dX4_forget_9 : decode cX4_forget 9 = .ok (.iconst 0, 1) := by decide +kernel
theorem dX4_forget_10 : decode cX4_forget 10 = .ok (.invokevirtual 40, 3) := by decide +kernel
theorem dX4_forget_13 : decode cX4_forget 13 = .ok (.return_, 1) := by decide +kernel
theorem dX4_become_0 : decode cX4_become 0 = .ok (.aload_n 1, 1) := by decide +kernel
theorem dX4_become_1 : decode cX4_become 1 = .ok (.ifnonnull 4, 3) := by decide +kernel
theorem dX4_become_4 : decode cX4_become 4 = .ok (.return_, 1) := by decide +kernel
theorem dX4_become_5 : decode cX4_become 5 = .ok (.aload_n 0, 1) := by decide +kernel
theorem dX4_become_6 : decode cX4_become 6 = .ok (.aload_n 1, 1) := by decide +kernel
theorem dX4_become_7 : decode cX4_become 7 = .ok (.getfield 9, 3) := by decide +kernel
theorem dX4_become_10 : decode cX4_become 10 = .ok (.putfield 9, 3) := by decide +kernel
theorem dX4_become_13 : decode cX4_become 13 = .ok (.aload_n 0, 1) := by decide +kernel
theorem dX4_become_14 : decode cX4_become 14 = .ok (.getfield 20, 3) := by decide +kernel
theorem dX4_become_17 : decode cX4_become 17 = .ok (.aload_n 1, 1) := by decide +kernel
theorem dX4_become_18 : decode cX4_become 18 = .ok (.getfield 20, 3) := by decide +kernel
theorem dX4_become_21 : decode cX4_become 21 = .ok (.invokevirtual 43, 3) := by decide +kernel
theorem dX4_become_24 : decode cX4_become 24 = .ok (.aload_n 0, 1) := by decide +kernel
theorem dX4_become_25 : decode cX4_become 25 = .ok (.getfield 24, 3) := by decide +kernel
theorem dX4_become_28 : decode cX4_become 28 = .ok (.aload_n 1, 1) := by decide +kernel
theorem dX4_become_29 : decode cX4_become 29 = .ok (.getfield 24, 3) := by decide +kernel
theorem dX4_become_32 : decode cX4_become 32 = .ok (.invokevirtual 43, 3) := by decide +kernel
theorem dX4_become_35 : decode cX4_become 35 = .ok (.aload_n 0, 1) := by decide +kernel
theorem dX4_become_36 : decode cX4_become 36 = .ok (.getfield 27, 3) := by decide +kernel
theorem dX4_become_39 : decode cX4_become 39 = .ok (.aload_n 1, 1) := by decide +kernel
theorem dX4_become_40 : decode cX4_become 40 = .ok (.getfield 27, 3) := by decide +kernel
theorem dX4_become_43 : decode cX4_become 43 = .ok (.invokevirtual 43, 3) := by decide +kernel
theorem dX4_become_46 : decode cX4_become 46 = .ok (.return_, 1) := by decide +kernel
theorem dX5_init_0 : decode cX5_init 0 = .ok (.aload_n 0, 1) := by decide +kernel
theorem dX5_init_1 : decode cX5_init 1 = .ok (.invokespecial 3, 3) := by decide +kernel
theorem dX5_init_4 : decode cX5_init 4 = .ok (.aload_n 0, 1) := by decide +kernel
theorem dX5_init_5 : decode cX5_init 5 = .ok (.new 9, 3) := by decide +kernel
theorem dX5_init_8 : decode cX5_init 8 = .ok (.dup, 1) := by decide +kernel
theorem dX5_init_9 : decode cX5_init 9 = .ok (.bipush 8, 2) := by decide +kernel
theorem dX5_init_11 : decode cX5_init 11 = .ok (.invokespecial 11, 3) := by decide +kernel
theorem dX5_init_14 : decode cX5_init 14 = .ok (.putfield 14, 3) := by decide +kernel
theorem dX5_init_17 : decode cX5_init 17 = .ok (.aload_n 0, 1) := by decide +kernel
theorem dX5_init_18 : decode cX5_init 18 = .ok (.new 9, 3) := by decide +kernel
theorem dX5_init_21 : decode cX5_init 21 = .ok (.dup, 1) := by decide +kernel
theorem dX5_init_22 : decode cX5_init 22 = .ok (.bipush 8, 2) := by decide +kernel
theorem dX5_init_24 : decode cX5_init 24 = .ok (.invokespecial 11, 3) := by decide +kernel
theorem dX5_init_27 : decode cX5_init 27 = .ok (.putfield 20, 3) := by decide +kernel
theorem dX5_init_30 : decode cX5_init 30 = .ok (.aload_n 0, 1) := by decide +kernel
theorem dX5_init_31 : decode cX5_init 31 = .ok (.new 9, 3) := by decide +kernel
theorem dX5_init_34 : decode cX5_init 34 = .ok (.dup, 1) := by decide +kernel
theorem dX5_init_35 : decode cX5_init 35 = .ok (.bipush 64, 2) := by decide +kernel
theorem dX5_init_37 : decode cX5_init 37 = .ok (.invokespecial 11, 3) := by decide +kernel
theorem dX5_init_40 : decode cX5_init 40 = .ok (.putfield 23, 3) := by decide +kernel
theorem dX5_init_43 : decode cX5_init 43 = .ok (.return_, 1) := by decide +kernel
theorem dX5_onDay_0 : decode cX5_onDay 0 = .ok (.iconst 0, 1) := by decide +kernel
theorem dX5_onDay_1 : decode cX5_onDay 1 = .ok (.istore_n 2, 1) := by decide +kernel
theorem dX5_onDay_2 : decode cX5_onDay 2 = .ok (.iload_n 2, 1) := by decide +kernel
theorem dX5_onDay_3 : decode cX5_onDay 3 = .ok (.aload_n 0, 1) := by decide +kernel
theorem dX5_onDay_4 : decode cX5_onDay 4 = .ok (.getfield 26, 3) := by decide +kernel
theorem dX5_onDay_7 : decode cX5_onDay 7 = .ok (.if_icmp .ge 23, 3) := by decide +kernel
theorem dX5_onDay_10 : decode cX5_onDay 10 = .ok (.aload_n 0, 1) := by decide +kernel
theorem dX5_onDay_11 : decode cX5_onDay 11 = .ok (.getfield 14, 3) := by decide +kernel
theorem dX5_onDay_14 : decode cX5_onDay 14 = .ok (.iload_n 2, 1) := by decide +kernel
theorem dX5_onDay_15 : decode cX5_onDay 15 = .ok (.invokevirtual 30, 3) := by decide +kernel
theorem dX5_onDay_18 : decode cX5_onDay 18 = .ok (.iload_n 1, 1) := by decide +kernel
theorem dX5_onDay_19 : decode cX5_onDay 19 = .ok (.if_icmp .ne 5, 3) := by decide +kernel
theorem dX5_onDay_22 : decode cX5_onDay 22 = .ok (.iload_n 2, 1) := by decide +kernel
theorem dX5_onDay_23 : decode cX5_onDay 23 = .ok (.ireturn, 1) := by decide +kernel
theorem dX5_onDay_24 : decode cX5_onDay 24 = .ok (.iinc 2 1, 3) := by decide +kernel
theorem dX5_onDay_27 : decode cX5_onDay 27 = .ok (.goto (-25), 3) := by decide +kernel
theorem dX5_onDay_30 : decode cX5_onDay 30 = .ok (.iconst (-1), 1) := by decide +kernel
theorem dX5_onDay_31 : decode cX5_onDay 31 = .ok (.ireturn, 1) := by decide +kernel
theorem dX5_after_0 : decode cX5_after 0 = .ok (.iconst 0, 1) := by decide +kernel
theorem dX5_after_1 : decode cX5_after 1 = .ok (.istore_n 2, 1) := by decide +kernel
theorem dX5_after_2 : decode cX5_after 2 = .ok (.iload_n 2, 1) := by decide +kernel
theorem dX5_after_3 : decode cX5_after 3 = .ok (.aload_n 0, 1) := by decide +kernel
theorem dX5_after_4 : decode cX5_after 4 = .ok (.getfield 26, 3) := by decide +kernel
theorem dX5_after_7 : decode cX5_after 7 = .ok (.if_icmp .ge 23, 3) := by decide +kernel
theorem dX5_after_10 : decode cX5_after 10 = .ok (.aload_n 0, 1) := by decide +kernel
theorem dX5_after_11 : decode cX5_after 11 = .ok (.getfield 14, 3) := by decide +kernel
theorem dX5_after_14 : decode cX5_after 14 = .ok (.iload_n 2, 1) := by decide +kernel
theorem dX5_after_15 : decode cX5_after 15 = .ok (.invokevirtual 30, 3) := by decide +kernel
theorem dX5_after_18 : decode cX5_after 18 = .ok (.iload_n 1, 1) := by decide +kernel
theorem dX5_after_19 : decode cX5_after 19 = .ok (.if_icmp .le 5, 3) := by decide +kernel
theorem dX5_after_22 : decode cX5_after 22 = .ok (.iload_n 2, 1) := by decide +kernel
theorem dX5_after_23 : decode cX5_after 23 = .ok (.ireturn, 1) := by decide +kernel
theorem dX5_after_24 : decode cX5_after 24 = .ok (.iinc 2 1, 3) := by decide +kernel
theorem dX5_after_27 : decode cX5_after 27 = .ok (.goto (-25), 3) := by decide +kernel
theorem dX5_after_30 : decode cX5_after 30 = .ok (.iconst (-1), 1) := by decide +kernel
theorem dX5_after_31 : decode cX5_after 31 = .ok (.ireturn, 1) := by decide +kernel
theorem dX5_priceOf_0 : decode cX5_priceOf 0 = .ok (.aload_n 0, 1) := by decide +kernel
theorem dX5_priceOf_1 : decode cX5_priceOf 1 = .ok (.getfield 23, 3) := by decide +kernel
theorem dX5_priceOf_4 : decode cX5_priceOf 4 = .ok (.iload_n 1, 1) := by decide +kernel
theorem dX5_priceOf_5 : decode cX5_priceOf 5 = .ok (.bipush 8, 2) := by decide +kernel
theorem dX5_priceOf_7 : decode cX5_priceOf 7 = .ok (.imul, 1) := by decide +kernel
theorem dX5_priceOf_8 : decode cX5_priceOf 8 = .ok (.iload_n 2, 1) := by decide +kernel
theorem dX5_priceOf_9 : decode cX5_priceOf 9 = .ok (.iadd, 1) := by decide +kernel
theorem dX5_priceOf_10 : decode cX5_priceOf 10 = .ok (.invokevirtual 30, 3) := by decide +kernel
theorem dX5_priceOf_13 : decode cX5_priceOf 13 = .ok (.ireturn, 1) := by decide +kernel
theorem dX5_putPrice_0 : decode cX5_putPrice 0 = .ok (.aload_n 0, 1) := by decide +kernel
theorem dX5_putPrice_1 : decode cX5_putPrice 1 = .ok (.getfield 23, 3) := by decide +kernel
theorem dX5_putPrice_4 : decode cX5_putPrice 4 = .ok (.iload_n 1, 1) := by decide +kernel
theorem dX5_putPrice_5 : decode cX5_putPrice 5 = .ok (.bipush 8, 2) := by decide +kernel
theorem dX5_putPrice_7 : decode cX5_putPrice 7 = .ok (.imul, 1) := by decide +kernel
theorem dX5_putPrice_8 : decode cX5_putPrice 8 = .ok (.iload_n 2, 1) := by decide +kernel
theorem dX5_putPrice_9 : decode cX5_putPrice 9 = .ok (.iadd, 1) := by decide +kernel
theorem dX5_putPrice_10 : decode cX5_putPrice 10 = .ok (.iload_n 3, 1) := by decide +kernel
theorem dX5_putPrice_11 : decode cX5_putPrice 11 = .ok (.invokevirtual 34, 3) := by decide +kernel
theorem dX5_putPrice_14 : decode cX5_putPrice 14 = .ok (.return_, 1) := by decide +kernel
theorem dX5_insert_0 : decode cX5_insert 0 = .ok (.aload_n 0, 1) := by decide +kernel
theorem dX5_insert_1 : decode cX5_insert 1 = .ok (.iload_n 1, 1) := by decide +kernel
theorem dX5_insert_2 : decode cX5_insert 2 = .ok (.invokevirtual 38, 3) := by decide +kernel
theorem dX5_insert_5 : decode cX5_insert 5 = .ok (.istore_n 3, 1) := by decide +kernel
theorem dX5_insert_6 : decode cX5_insert 6 = .ok (.iload_n 3, 1) := by decide +kernel
theorem dX5_insert_7 : decode cX5_insert 7 = .ok (.iconst (-1), 1) := by decide +kernel
theorem dX5_insert_8 : decode cX5_insert 8 = .ok (.if_icmp .ne 10, 3) := by decide +kernel
theorem dX5_insert_11 : decode cX5_insert 11 = .ok (.aload_n 0, 1) := by decide +kernel
theorem dX5_insert_12 : decode cX5_insert 12 = .ok (.getfield 26, 3) := by decide +kernel
theorem dX5_insert_15 : decode cX5_insert 15 = .ok (.goto 4, 3) := by decide +kernel
theorem dX5_insert_18 : decode cX5_insert 18 = .ok (.iload_n 3, 1) := by decide +kernel
theorem dX5_insert_19 : decode cX5_insert 19 = .ok (.istore 4, 2) := by decide +kernel
theorem dX5_insert_21 : decode cX5_insert 21 = .ok (.aload_n 0, 1) := by decide +kernel
theorem dX5_insert_22 : decode cX5_insert 22 = .ok (.getfield 26, 3) := by decide +kernel
theorem dX5_insert_25 : decode cX5_insert 25 = .ok (.istore 5, 2) := by decide +kernel
theorem dX5_insert_27 : decode cX5_insert 27 = .ok (.iload 5, 2) := by decide +kernel
theorem dX5_insert_29 : decode cX5_insert 29 = .ok (.iload 4, 2) := by decide +kernel
theorem dX5_insert_31 : decode cX5_insert 31 = .ok (.if_icmp .le 19, 3) := by decide +kernel
theorem dX5_insert_34 : decode cX5_insert 34 = .ok (.aload_n 0, 1) := by decide +kernel
theorem dX5_insert_35 : decode cX5_insert 35 = .ok (.iload 5, 2) := by decide +kernel
theorem dX5_insert_37 : decode cX5_insert 37 = .ok (.iconst 1, 1) := by decide +kernel
theorem dX5_insert_38 : decode cX5_insert 38 = .ok (.isub, 1) := by decide +kernel
theorem dX5_insert_39 : decode cX5_insert 39 = .ok (.iload 5, 2) := by decide +kernel
theorem dX5_insert_41 : decode cX5_insert 41 = .ok (.invokevirtual 41, 3) := by decide +kernel
theorem dX5_insert_44 : decode cX5_insert 44 = .ok (.iinc 5 (-1), 3) := by decide +kernel
theorem dX5_insert_47 : decode cX5_insert 47 = .ok (.goto (-20), 3) := by decide +kernel
theorem dX5_insert_50 : decode cX5_insert 50 = .ok (.aload_n 0, 1) := by decide +kernel
theorem dX5_insert_51 : decode cX5_insert 51 = .ok (.getfield 14, 3) := by decide +kernel
theorem dX5_insert_54 : decode cX5_insert 54 = .ok (.iload 4, 2) := by decide +kernel
theorem dX5_insert_56 : decode cX5_insert 56 = .ok (.iload_n 1, 1) := by decide +kernel
theorem dX5_insert_57 : decode cX5_insert 57 = .ok (.invokevirtual 34, 3) := by decide +kernel
theorem dX5_insert_60 : decode cX5_insert 60 = .ok (.aload_n 0, 1) := by decide +kernel
theorem dX5_insert_61 : decode cX5_insert 61 = .ok (.getfield 20, 3) := by decide +kernel
theorem dX5_insert_64 : decode cX5_insert 64 = .ok (.iload 4, 2) := by decide +kernel
theorem dX5_insert_66 : decode cX5_insert 66 = .ok (.iload_n 2, 1) := by decide +kernel
theorem dX5_insert_67 : decode cX5_insert 67 = .ok (.invokevirtual 34, 3) := by decide +kernel
theorem dX5_insert_70 : decode cX5_insert 70 = .ok (.iconst 0, 1) := by decide +kernel
theorem dX5_insert_71 : decode cX5_insert 71 = .ok (.istore 5, 2) := by decide +kernel
theorem dX5_insert_73 : decode cX5_insert 73 = .ok (.iload 5, 2) := by decide +kernel
theorem dX5_insert_75 : decode cX5_insert 75 = .ok (.bipush 8, 2) := by decide +kernel
theorem dX5_insert_77 : decode cX5_insert 77 = .ok (.if_icmp .ge 18, 3) := by decide +kernel
theorem dX5_insert_80 : decode cX5_insert 80 = .ok (.aload_n 0, 1) := by decide +kernel
theorem dX5_insert_81 : decode cX5_insert 81 = .ok (.iload 4, 2) := by decide +kernel
theorem dX5_insert_83 : decode cX5_insert 83 = .ok (.iload 5, 2) := by decide +kernel
theorem dX5_insert_85 : decode cX5_insert 85 = .ok (.iconst 0, 1) := by decide +kernel
theorem dX5_insert_86 : decode cX5_insert 86 = .ok (.invokevirtual 44, 3) := by decide +kernel
theorem dX5_insert_89 : decode cX5_insert 89 = .ok (.iinc 5 1, 3) := by decide +kernel
theorem dX5_insert_92 : decode cX5_insert 92 = .ok (.goto (-19), 3) := by decide +kernel
theorem dX5_insert_95 : decode cX5_insert 95 = .ok (.aload_n 0, 1) := by decide +kernel
theorem dX5_insert_96 : decode cX5_insert 96 = .ok (.dup, 1) := by decide +kernel
theorem dX5_insert_97 : decode cX5_insert 97 = .ok (.getfield 26, 3) := by decide +kernel
theorem dX5_insert_100 : decode cX5_insert 100 = .ok (.iconst 1, 1) := by decide +kernel
theorem dX5_insert_101 : decode cX5_insert 101 = .ok (.iadd, 1) := by decide +kernel
theorem dX5_insert_102 : decode cX5_insert 102 = .ok (.putfield 26, 3) := by decide +kernel
theorem dX5_insert_105 : decode cX5_insert 105 = .ok (.iload 4, 2) := by decide +kernel
theorem dX5_insert_107 : decode cX5_insert 107 = .ok (.ireturn, 1) := by decide +kernel
theorem dX5_takeOut_0 : decode cX5_takeOut 0 = .ok (.iload_n 1, 1) := by decide +kernel
theorem dX5_takeOut_1 : decode cX5_takeOut 1 = .ok (.iconst 1, 1) := by decide +kernel
theorem dX5_takeOut_2 : decode cX5_takeOut 2 = .ok (.iadd, 1) := by decide +kernel
theorem dX5_takeOut_3 : decode cX5_takeOut 3 = .ok (.istore_n 2, 1) := by decide +kernel
theorem dX5_takeOut_4 : decode cX5_takeOut 4 = .ok (.iload_n 2, 1) := by decide +kernel
theorem dX5_takeOut_5 : decode cX5_takeOut 5 = .ok (.aload_n 0, 1) := by decide +kernel
theorem dX5_takeOut_6 : decode cX5_takeOut 6 = .ok (.getfield 26, 3) := by decide +kernel
theorem dX5_takeOut_9 : decode cX5_takeOut 9 = .ok (.if_icmp .ge 17, 3) := by decide +kernel
theorem dX5_takeOut_12 : decode cX5_takeOut 12 = .ok (.aload_n 0, 1) := by decide +kernel
theorem dX5_takeOut_13 : decode cX5_takeOut 13 = .ok (.iload_n 2, 1) := by decide +kernel
theorem dX5_takeOut_14 : decode cX5_takeOut 14 = .ok (.iload_n 2, 1) := by decide +kernel
theorem dX5_takeOut_15 : decode cX5_takeOut 15 = .ok (.iconst 1, 1) := by decide +kernel
theorem dX5_takeOut_16 : decode cX5_takeOut 16 = .ok (.isub, 1) := by decide +kernel
theorem dX5_takeOut_17 : decode cX5_takeOut 17 = .ok (.invokevirtual 41, 3) := by decide +kernel
theorem dX5_takeOut_20 : decode cX5_takeOut 20 = .ok (.iinc 2 1, 3) := by decide +kernel
theorem dX5_takeOut_23 : decode cX5_takeOut 23 = .ok (.goto (-19), 3) := by decide +kernel
theorem dX5_takeOut_26 : decode cX5_takeOut 26 = .ok (.aload_n 0, 1) := by decide +kernel
theorem dX5_takeOut_27 : decode cX5_takeOut 27 = .ok (.dup, 1) := by decide +kernel
theorem dX5_takeOut_28 : decode cX5_takeOut 28 = .ok (.getfield 26, 3) := by decide +kernel
theorem dX5_takeOut_31 : decode cX5_takeOut 31 = .ok (.iconst 1, 1) := by decide +kernel
theorem dX5_takeOut_32 : decode cX5_takeOut 32 = .ok (.isub, 1) := by decide +kernel
theorem dX5_takeOut_33 : decode cX5_takeOut 33 = .ok (.putfield 26, 3) := by decide +kernel
theorem dX5_takeOut_36 : decode cX5_takeOut 36 = .ok (.return_, 1) := by decide +kernel
theorem dX5_copyPort_0 : decode cX5_copyPort 0 = .ok (.aload_n 0, 1) := by decide +kernel
theorem dX5_copyPort_1 : decode cX5_copyPort 1 = .ok (.getfield 14, 3) := by decide +kernel
theorem dX5_copyPort_4 : decode cX5_copyPort 4 = .ok (.iload_n 2, 1) := by decide +kernel
theorem dX5_copyPort_5 : decode cX5_copyPort 5 = .ok (.aload_n 0, 1) := by decide +kernel
theorem dX5_copyPort_6 : decode cX5_copyPort 6 = .ok (.getfield 14, 3) := by decide +kernel
theorem dX5_copyPort_9 : decode cX5_copyPort 9 = .ok (.iload_n 1, 1) := by decide +kernel
theorem dX5_copyPort_10 : decode cX5_copyPort 10 = .ok (.invokevirtual 30, 3) := by decide +kernel
theorem dX5_copyPort_13 : decode cX5_copyPort 13 = .ok (.invokevirtual 34, 3) := by decide +kernel
theorem dX5_copyPort_16 : decode cX5_copyPort 16 = .ok (.aload_n 0, 1) := by decide +kernel
theorem dX5_copyPort_17 : decode cX5_copyPort 17 = .ok (.getfield 20, 3) := by decide +kernel
theorem dX5_copyPort_20 : decode cX5_copyPort 20 = .ok (.iload_n 2, 1) := by decide +kernel
theorem dX5_copyPort_21 : decode cX5_copyPort 21 = .ok (.aload_n 0, 1) := by decide +kernel
theorem dX5_copyPort_22 : decode cX5_copyPort 22 = .ok (.getfield 20, 3) := by decide +kernel
theorem dX5_copyPort_25 : decode cX5_copyPort 25 = .ok (.iload_n 1, 1) := by decide +kernel
theorem dX5_copyPort_26 : decode cX5_copyPort 26 = .ok (.invokevirtual 30, 3) := by decide +kernel
theorem dX5_copyPort_29 : decode cX5_copyPort 29 = .ok (.invokevirtual 34, 3) := by decide +kernel
theorem dX5_copyPort_32 : decode cX5_copyPort 32 = .ok (.iconst 0, 1) := by decide +kernel
theorem dX5_copyPort_33 : decode cX5_copyPort 33 = .ok (.istore_n 3, 1) := by decide +kernel
theorem dX5_copyPort_34 : decode cX5_copyPort 34 = .ok (.iload_n 3, 1) := by decide +kernel
theorem dX5_copyPort_35 : decode cX5_copyPort 35 = .ok (.bipush 8, 2) := by decide +kernel
theorem dX5_copyPort_37 : decode cX5_copyPort 37 = .ok (.if_icmp .ge 21, 3) := by decide +kernel
theorem dX5_copyPort_40 : decode cX5_copyPort 40 = .ok (.aload_n 0, 1) := by decide +kernel
theorem dX5_copyPort_41 : decode cX5_copyPort 41 = .ok (.iload_n 2, 1) := by decide +kernel
theorem dX5_copyPort_42 : decode cX5_copyPort 42 = .ok (.iload_n 3, 1) := by decide +kernel
theorem dX5_copyPort_43 : decode cX5_copyPort 43 = .ok (.aload_n 0, 1) := by decide +kernel
theorem dX5_copyPort_44 : decode cX5_copyPort 44 = .ok (.iload_n 1, 1) := by decide +kernel
theorem dX5_copyPort_45 : decode cX5_copyPort 45 = .ok (.iload_n 3, 1) := by decide +kernel
theorem dX5_copyPort_46 : decode cX5_copyPort 46 = .ok (.invokevirtual 48, 3) := by decide +kernel
theorem dX5_copyPort_49 : decode cX5_copyPort 49 = .ok (.invokevirtual 44, 3) := by decide +kernel
theorem dX5_copyPort_52 : decode cX5_copyPort 52 = .ok (.iinc 3 1, 3) := by decide +kernel
theorem dX5_copyPort_55 : decode cX5_copyPort 55 = .ok (.goto (-21), 3) := by decide +kernel
theorem dX5_copyPort_58 : decode cX5_copyPort 58 = .ok (.return_, 1) := by decide +kernel
theorem dX5_become_0 : decode cX5_become 0 = .ok (.aload_n 1, 1) := by decide +kernel
theorem dX5_become_1 : decode cX5_become 1 = .ok (.ifnonnull 4, 3) := by decide +kernel
theorem dX5_become_4 : decode cX5_become 4 = .ok (.return_, 1) := by decide +kernel
theorem dX5_become_5 : decode cX5_become 5 = .ok (.aload_n 0, 1) := by decide +kernel
theorem dX5_become_6 : decode cX5_become 6 = .ok (.aload_n 1, 1) := by decide +kernel
theorem dX5_become_7 : decode cX5_become 7 = .ok (.getfield 26, 3) := by decide +kernel
theorem dX5_become_10 : decode cX5_become 10 = .ok (.putfield 26, 3) := by decide +kernel
theorem dX5_become_13 : decode cX5_become 13 = .ok (.aload_n 0, 1) := by decide +kernel
theorem dX5_become_14 : decode cX5_become 14 = .ok (.getfield 14, 3) := by decide +kernel
theorem dX5_become_17 : decode cX5_become 17 = .ok (.aload_n 1, 1) := by decide +kernel
theorem dX5_become_18 : decode cX5_become 18 = .ok (.getfield 14, 3) := by decide +kernel
theorem dX5_become_21 : decode cX5_become 21 = .ok (.invokevirtual 52, 3) := by decide +kernel
theorem dX5_become_24 : decode cX5_become 24 = .ok (.aload_n 0, 1) := by decide +kernel
theorem dX5_become_25 : decode cX5_become 25 = .ok (.getfield 20, 3) := by decide +kernel
theorem dX5_become_28 : decode cX5_become 28 = .ok (.aload_n 1, 1) := by decide +kernel
theorem dX5_become_29 : decode cX5_become 29 = .ok (.getfield 20, 3) := by decide +kernel
theorem dX5_become_32 : decode cX5_become 32 = .ok (.invokevirtual 52, 3) := by decide +kernel
theorem dX5_become_35 : decode cX5_become 35 = .ok (.aload_n 0, 1) := by decide +kernel
theorem dX5_become_36 : decode cX5_become 36 = .ok (.getfield 23, 3) := by decide +kernel
theorem dX5_become_39 : decode cX5_become 39 = .ok (.aload_n 1, 1) := by decide +kernel
theorem dX5_become_40 : decode cX5_become 40 = .ok (.getfield 23, 3) := by decide +kernel
theorem dX5_become_43 : decode cX5_become 43 = .ok (.invokevirtual 52, 3) := by decide +kernel
theorem dX5_become_46 : decode cX5_become 46 = .ok (.return_, 1) := by decide +kernel
theorem dX6_init_0 : decode cX6_init 0 = .ok (.aload_n 0, 1) := by decide +kernel
theorem dX6_init_1 : decode cX6_init 1 = .ok (.invokespecial 1, 3) := by decide +kernel
theorem dX6_init_4 : decode cX6_init 4 = .ok (.aload_n 0, 1) := by decide +kernel
theorem dX6_init_5 : decode cX6_init 5 = .ok (.iload_n 1, 1) := by decide +kernel
theorem dX6_init_6 : decode cX6_init 6 = .ok (.ifCond .ge 7, 3) := by decide +kernel
theorem dX6_init_9 : decode cX6_init 9 = .ok (.iconst 0, 1) := by decide +kernel
theorem dX6_init_10 : decode cX6_init 10 = .ok (.goto 4, 3) := by decide +kernel
theorem dX6_init_13 : decode cX6_init 13 = .ok (.iload_n 1, 1) := by decide +kernel
theorem dX6_init_14 : decode cX6_init 14 = .ok (.newarray .int, 2) := by decide +kernel
theorem dX6_init_16 : decode cX6_init 16 = .ok (.putfield 7, 3) := by decide +kernel
theorem dX6_init_19 : decode cX6_init 19 = .ok (.return_, 1) := by decide +kernel
theorem dX6_at_0 : decode cX6_at 0 = .ok (.iload_n 1, 1) := by decide +kernel
theorem dX6_at_1 : decode cX6_at 1 = .ok (.ifCond .lt 12, 3) := by decide +kernel
theorem dX6_at_4 : decode cX6_at 4 = .ok (.iload_n 1, 1) := by decide +kernel
theorem dX6_at_5 : decode cX6_at 5 = .ok (.aload_n 0, 1) := by decide +kernel
theorem dX6_at_6 : decode cX6_at 6 = .ok (.getfield 7, 3) := by decide +kernel
theorem dX6_at_9 : decode cX6_at 9 = .ok (.arraylength, 1) := by decide +kernel
theorem dX6_at_10 : decode cX6_at 10 = .ok (.if_icmp .lt 7, 3) := by decide +kernel
theorem dX6_at_13 : decode cX6_at 13 = .ok (.iconst 0, 1) := by decide +kernel
theorem dX6_at_14 : decode cX6_at 14 = .ok (.goto 9, 3) := by decide +kernel
theorem dX6_at_17 : decode cX6_at 17 = .ok (.aload_n 0, 1) := by decide +kernel
theorem dX6_at_18 : decode cX6_at 18 = .ok (.getfield 7, 3) := by decide +kernel
theorem dX6_at_21 : decode cX6_at 21 = .ok (.iload_n 1, 1) := by decide +kernel
theorem dX6_at_22 : decode cX6_at 22 = .ok (.iaload, 1) := by decide +kernel
theorem dX6_at_23 : decode cX6_at 23 = .ok (.ireturn, 1) := by decide +kernel
theorem dX6_put_0 : decode cX6_put 0 = .ok (.iload_n 1, 1) := by decide +kernel
theorem dX6_put_1 : decode cX6_put 1 = .ok (.ifCond .lt 19, 3) := by decide +kernel
theorem dX6_put_4 : decode cX6_put 4 = .ok (.iload_n 1, 1) := by decide +kernel
theorem dX6_put_5 : decode cX6_put 5 = .ok (.aload_n 0, 1) := by decide +kernel
theorem dX6_put_6 : decode cX6_put 6 = .ok (.getfield 7, 3) := by decide +kernel
theorem dX6_put_9 : decode cX6_put 9 = .ok (.arraylength, 1) := by decide +kernel
theorem dX6_put_10 : decode cX6_put 10 = .ok (.if_icmp .ge 10, 3) := by decide +kernel
theorem dX6_put_13 : decode cX6_put 13 = .ok (.aload_n 0, 1) := by decide +kernel
theorem dX6_put_14 : decode cX6_put 14 = .ok (.getfield 7, 3) := by decide +kernel
theorem dX6_put_17 : decode cX6_put 17 = .ok (.iload_n 1, 1) := by decide +kernel
theorem dX6_put_18 : decode cX6_put 18 = .ok (.iload_n 2, 1) := by decide +kernel
theorem dX6_put_19 : decode cX6_put 19 = .ok (.iastore, 1) := by decide +kernel
theorem dX6_put_20 : decode cX6_put 20 = .ok (.return_, 1) := by decide +kernel
theorem dX6_add_0 : decode cX6_add 0 = .ok (.aload_n 0, 1) := by decide +kernel
theorem dX6_add_1 : decode cX6_add 1 = .ok (.iload_n 1, 1) := by decide +kernel
theorem dX6_add_2 : decode cX6_add 2 = .ok (.aload_n 0, 1) := by decide +kernel
theorem dX6_add_3 : decode cX6_add 3 = .ok (.iload_n 1, 1) := by decide +kernel
theorem dX6_add_4 : decode cX6_add 4 = .ok (.invokevirtual 13, 3) := by decide +kernel
theorem dX6_add_7 : decode cX6_add 7 = .ok (.iload_n 2, 1) := by decide +kernel
theorem dX6_add_8 : decode cX6_add 8 = .ok (.iadd, 1) := by decide +kernel
theorem dX6_add_9 : decode cX6_add 9 = .ok (.invokevirtual 17, 3) := by decide +kernel
theorem dX6_add_12 : decode cX6_add 12 = .ok (.return_, 1) := by decide +kernel
theorem dX6_fill_0 : decode cX6_fill 0 = .ok (.iconst 0, 1) := by decide +kernel
theorem dX6_fill_1 : decode cX6_fill 1 = .ok (.istore_n 2, 1) := by decide +kernel
theorem dX6_fill_2 : decode cX6_fill 2 = .ok (.iload_n 2, 1) := by decide +kernel
theorem dX6_fill_3 : decode cX6_fill 3 = .ok (.aload_n 0, 1) := by decide +kernel
theorem dX6_fill_4 : decode cX6_fill 4 = .ok (.getfield 7, 3) := by decide +kernel
theorem dX6_fill_7 : decode cX6_fill 7 = .ok (.arraylength, 1) := by decide +kernel
theorem dX6_fill_8 : decode cX6_fill 8 = .ok (.if_icmp .ge 16, 3) := by decide +kernel
theorem dX6_fill_11 : decode cX6_fill 11 = .ok (.aload_n 0, 1) := by decide +kernel
theorem dX6_fill_12 : decode cX6_fill 12 = .ok (.getfield 7, 3) := by decide +kernel
theorem dX6_fill_15 : decode cX6_fill 15 = .ok (.iload_n 2, 1) := by decide +kernel
theorem dX6_fill_16 : decode cX6_fill 16 = .ok (.iload_n 1, 1) := by decide +kernel
theorem dX6_fill_17 : decode cX6_fill 17 = .ok (.iastore, 1) := by decide +kernel
theorem dX6_fill_18 : decode cX6_fill 18 = .ok (.iinc 2 1, 3) := by decide +kernel
theorem dX6_fill_21 : decode cX6_fill 21 = .ok (.goto (-19), 3) := by decide +kernel
theorem dX6_fill_24 : decode cX6_fill 24 = .ok (.return_, 1) := by decide +kernel
theorem dX6_sum_0 : decode cX6_sum 0 = .ok (.iconst 0, 1) := by decide +kernel
theorem dX6_sum_1 : decode cX6_sum 1 = .ok (.istore_n 1, 1) := by decide +kernel
theorem dX6_sum_2 : decode cX6_sum 2 = .ok (.iconst 0, 1) := by decide +kernel
theorem dX6_sum_3 : decode cX6_sum 3 = .ok (.istore_n 2, 1) := by decide +kernel
theorem dX6_sum_4 : decode cX6_sum 4 = .ok (.iload_n 2, 1) := by decide +kernel
theorem dX6_sum_5 : decode cX6_sum 5 = .ok (.aload_n 0, 1) := by decide +kernel
theorem dX6_sum_6 : decode cX6_sum 6 = .ok (.getfield 7, 3) := by decide +kernel
theorem dX6_sum_9 : decode cX6_sum 9 = .ok (.arraylength, 1) := by decide +kernel
theorem dX6_sum_10 : decode cX6_sum 10 = .ok (.if_icmp .ge 18, 3) := by decide +kernel
theorem dX6_sum_13 : decode cX6_sum 13 = .ok (.iload_n 1, 1) := by decide +kernel
theorem dX6_sum_14 : decode cX6_sum 14 = .ok (.aload_n 0, 1) := by decide +kernel
theorem dX6_sum_15 : decode cX6_sum 15 = .ok (.getfield 7, 3) := by decide +kernel
theorem dX6_sum_18 : decode cX6_sum 18 = .ok (.iload_n 2, 1) := by decide +kernel
theorem dX6_sum_19 : decode cX6_sum 19 = .ok (.iaload, 1) := by decide +kernel
theorem dX6_sum_20 : decode cX6_sum 20 = .ok (.iadd, 1) := by decide +kernel
theorem dX6_sum_21 : decode cX6_sum 21 = .ok (.istore_n 1, 1) := by decide +kernel
theorem dX6_sum_22 : decode cX6_sum 22 = .ok (.iinc 2 1, 3) := by decide +kernel
theorem dX6_sum_25 : decode cX6_sum 25 = .ok (.goto (-21), 3) := by decide +kernel
theorem dX6_sum_28 : decode cX6_sum 28 = .ok (.iload_n 1, 1) := by decide +kernel
theorem dX6_sum_29 : decode cX6_sum 29 = .ok (.ireturn, 1) := by decide +kernel
theorem dX6_become_0 : decode cX6_become 0 = .ok (.aload_n 1, 1) := by decide +kernel
theorem dX6_become_1 : decode cX6_become 1 = .ok (.ifnull 34, 3) := by decide +kernel
theorem dX6_become_4 : decode cX6_become 4 = .ok (.aload_n 1, 1) := by decide +kernel
theorem dX6_become_5 : decode cX6_become 5 = .ok (.getfield 7, 3) := by decide +kernel
theorem dX6_become_8 : decode cX6_become 8 = .ok (.arraylength, 1) := by decide +kernel
theorem dX6_become_9 : decode cX6_become 9 = .ok (.aload_n 0, 1) := by decide +kernel
theorem dX6_become_10 : decode cX6_become 10 = .ok (.getfield 7, 3) := by decide +kernel
theorem dX6_become_13 : decode cX6_become 13 = .ok (.arraylength, 1) := by decide +kernel
theorem dX6_become_14 : decode cX6_become 14 = .ok (.if_icmp .ne 21, 3) := by decide +kernel
theorem dX6_become_17 : decode cX6_become 17 = .ok (.aload_n 1, 1) := by decide +kernel
theorem dX6_become_18 : decode cX6_become 18 = .ok (.getfield 7, 3) := by decide +kernel
theorem dX6_become_21 : decode cX6_become 21 = .ok (.iconst 0, 1) := by decide +kernel
theorem dX6_become_22 : decode cX6_become 22 = .ok (.aload_n 0, 1) := by decide +kernel
theorem dX6_become_23 : decode cX6_become 23 = .ok (.getfield 7, 3) := by decide +kernel
theorem dX6_become_26 : decode cX6_become 26 = .ok (.iconst 0, 1) := by decide +kernel
theorem dX6_become_27 : decode cX6_become 27 = .ok (.aload_n 0, 1) := by decide +kernel
theorem dX6_become_28 : decode cX6_become 28 = .ok (.getfield 7, 3) := by decide +kernel
theorem dX6_become_31 : decode cX6_become 31 = .ok (.arraylength, 1) := by decide +kernel
theorem dX6_become_32 : decode cX6_become 32 = .ok (.invokestatic 21, 3) := by decide +kernel
theorem dX6_become_35 : decode cX6_become 35 = .ok (.return_, 1) := by decide +kernel
theorem dX7_init_0 : decode cX7_init 0 = .ok (.aload_n 0, 1) := by decide +kernel
theorem dX7_init_1 : decode cX7_init 1 = .ok (.invokespecial 3, 3) := by decide +kernel
theorem dX7_init_4 : decode cX7_init 4 = .ok (.aload_n 0, 1) := by decide +kernel
theorem dX7_init_5 : decode cX7_init 5 = .ok (.bipush 10, 2) := by decide +kernel
theorem dX7_init_7 : decode cX7_init 7 = .ok (.putfield 9, 3) := by decide +kernel
theorem dX7_init_10 : decode cX7_init 10 = .ok (.aload_n 0, 1) := by decide +kernel
theorem dX7_init_11 : decode cX7_init 11 = .ok (.sipush 10000, 3) := by decide +kernel
theorem dX7_init_14 : decode cX7_init 14 = .ok (.putfield 15, 3) := by decide +kernel
theorem dX7_init_17 : decode cX7_init 17 = .ok (.aload_n 0, 1) := by decide +kernel
theorem dX7_init_18 : decode cX7_init 18 = .ok (.new 18, 3) := by decide +kernel
theorem dX7_init_21 : decode cX7_init 21 = .ok (.dup, 1) := by decide +kernel
theorem dX7_init_22 : decode cX7_init 22 = .ok (.invokespecial 20, 3) := by decide +kernel
theorem dX7_init_25 : decode cX7_init 25 = .ok (.putfield 21, 3) := by decide +kernel
theorem dX7_init_28 : decode cX7_init 28 = .ok (.aload_n 0, 1) := by decide +kernel
theorem dX7_init_29 : decode cX7_init 29 = .ok (.new 25, 3) := by decide +kernel
theorem dX7_init_32 : decode cX7_init 32 = .ok (.dup, 1) := by decide +kernel
theorem dX7_init_33 : decode cX7_init 33 = .ok (.invokespecial 27, 3) := by decide +kernel
theorem dX7_init_36 : decode cX7_init 36 = .ok (.putfield 28, 3) := by decide +kernel
theorem dX7_init_39 : decode cX7_init 39 = .ok (.aload_n 0, 1) := by decide +kernel
theorem dX7_init_40 : decode cX7_init 40 = .ok (.new 32, 3) := by decide +kernel
theorem dX7_init_43 : decode cX7_init 43 = .ok (.dup, 1) := by decide +kernel
theorem dX7_init_44 : decode cX7_init 44 = .ok (.invokespecial 34, 3) := by decide +kernel
theorem dX7_init_47 : decode cX7_init 47 = .ok (.putfield 35, 3) := by decide +kernel
theorem dX7_init_50 : decode cX7_init 50 = .ok (.aload_n 0, 1) := by decide +kernel
theorem dX7_init_51 : decode cX7_init 51 = .ok (.new 39, 3) := by decide +kernel
theorem dX7_init_54 : decode cX7_init 54 = .ok (.dup, 1) := by decide +kernel
theorem dX7_init_55 : decode cX7_init 55 = .ok (.invokespecial 41, 3) := by decide +kernel
theorem dX7_init_58 : decode cX7_init 58 = .ok (.putfield 42, 3) := by decide +kernel
theorem dX7_init_61 : decode cX7_init 61 = .ok (.aload_n 0, 1) := by decide +kernel
theorem dX7_init_62 : decode cX7_init 62 = .ok (.new 46, 3) := by decide +kernel
theorem dX7_init_65 : decode cX7_init 65 = .ok (.dup, 1) := by decide +kernel
theorem dX7_init_66 : decode cX7_init 66 = .ok (.invokespecial 48, 3) := by decide +kernel
theorem dX7_init_69 : decode cX7_init 69 = .ok (.putfield 49, 3) := by decide +kernel
theorem dX7_init_72 : decode cX7_init 72 = .ok (.aload_n 0, 1) := by decide +kernel
theorem dX7_init_73 : decode cX7_init 73 = .ok (.new 53, 3) := by decide +kernel
theorem dX7_init_76 : decode cX7_init 76 = .ok (.dup, 1) := by decide +kernel
theorem dX7_init_77 : decode cX7_init 77 = .ok (.bipush 31, 2) := by decide +kernel
theorem dX7_init_79 : decode cX7_init 79 = .ok (.invokespecial 55, 3) := by decide +kernel
theorem dX7_init_82 : decode cX7_init 82 = .ok (.putfield 58, 3) := by decide +kernel
theorem dX7_init_85 : decode cX7_init 85 = .ok (.return_, 1) := by decide +kernel
theorem dX7_lifeNow_0 : decode cX7_lifeNow 0 = .ok (.aload_n 0, 1) := by decide +kernel
theorem dX7_lifeNow_1 : decode cX7_lifeNow 1 = .ok (.getfield 21, 3) := by decide +kernel
theorem dX7_lifeNow_4 : decode cX7_lifeNow 4 = .ok (.iload_n 1, 1) := by decide +kernel
theorem dX7_lifeNow_5 : decode cX7_lifeNow 5 = .ok (.aload_n 0, 1) := by decide +kernel
theorem dX7_lifeNow_6 : decode cX7_lifeNow 6 = .ok (.getfield 28, 3) := by decide +kernel
theorem dX7_lifeNow_9 : decode cX7_lifeNow 9 = .ok (.getfield 62, 3) := by decide +kernel
theorem dX7_lifeNow_12 : decode cX7_lifeNow 12 = .ok (.iload_n 2, 1) := by decide +kernel
theorem dX7_lifeNow_13 : decode cX7_lifeNow 13 = .ok (.invokevirtual 65, 3) := by decide +kernel
theorem dX7_lifeNow_16 : decode cX7_lifeNow 16 = .ok (.ifCond .le 7, 3) := by decide +kernel
theorem dX7_lifeNow_19 : decode cX7_lifeNow 19 = .ok (.iconst 0, 1) := by decide +kernel
theorem dX7_lifeNow_20 : decode cX7_lifeNow 20 = .ok (.goto 4, 3) := by decide +kernel
theorem dX7_lifeNow_23 : decode cX7_lifeNow 23 = .ok (.iload_n 2, 1) := by decide +kernel
theorem dX7_lifeNow_24 : decode cX7_lifeNow 24 = .ok (.invokevirtual 69, 3) := by decide +kernel
theorem dX7_lifeNow_27 : decode cX7_lifeNow 27 = .ok (.ireturn, 1) := by decide +kernel
theorem dX7_roomLeft_0 : decode cX7_roomLeft 0 = .ok (.aload_n 0, 1) := by decide +kernel
theorem dX7_roomLeft_1 : decode cX7_roomLeft 1 = .ok (.getfield 28, 3) := by decide +kernel
theorem dX7_roomLeft_4 : decode cX7_roomLeft 4 = .ok (.getfield 73, 3) := by decide +kernel
theorem dX7_roomLeft_7 : decode cX7_roomLeft 7 = .ok (.iload_n 1, 1) := by decide +kernel
theorem dX7_roomLeft_8 : decode cX7_roomLeft 8 = .ok (.invokevirtual 65, 3) := by decide +kernel
theorem dX7_roomLeft_11 : decode cX7_roomLeft 11 = .ok (.aload_n 0, 1) := by decide +kernel
theorem dX7_roomLeft_12 : decode cX7_roomLeft 12 = .ok (.getfield 35, 3) := by decide +kernel
theorem dX7_roomLeft_15 : decode cX7_roomLeft 15 = .ok (.iload_n 1, 1) := by decide +kernel
theorem dX7_roomLeft_16 : decode cX7_roomLeft 16 = .ok (.invokevirtual 76, 3) := by decide +kernel
theorem dX7_roomLeft_19 : decode cX7_roomLeft 19 = .ok (.isub, 1) := by decide +kernel
theorem dX7_roomLeft_20 : decode cX7_roomLeft 20 = .ok (.ireturn, 1) := by decide +kernel
theorem dX7_refusal_0 : decode cX7_refusal 0 = .ok (.aload_n 0, 1) := by decide +kernel
theorem dX7_refusal_1 : decode cX7_refusal 1 = .ok (.getfield 42, 3) := by decide +kernel
theorem dX7_refusal_4 : decode cX7_refusal 4 = .ok (.aload_n 0, 1) := by decide +kernel
theorem dX7_refusal_5 : decode cX7_refusal 5 = .ok (.getfield 79, 3) := by decide +kernel
theorem dX7_refusal_8 : decode cX7_refusal 8 = .ok (.invokevirtual 82, 3) := by decide +kernel
theorem dX7_refusal_11 : decode cX7_refusal 11 = .ok (.istore 4, 2) := by decide +kernel
theorem dX7_refusal_13 : decode cX7_refusal 13 = .ok (.iload 4, 2) := by decide +kernel
theorem dX7_refusal_15 : decode cX7_refusal 15 = .ok (.iconst (-1), 1) := by decide +kernel
theorem dX7_refusal_16 : decode cX7_refusal 16 = .ok (.if_icmp .ne 5, 3) := by decide +kernel
theorem dX7_refusal_19 : decode cX7_refusal 19 = .ok (.iconst 1, 1) := by decide +kernel
theorem dX7_refusal_20 : decode cX7_refusal 20 = .ok (.ireturn, 1) := by decide +kernel
theorem dX7_refusal_21 : decode cX7_refusal 21 = .ok (.aload_n 0, 1) := by decide +kernel
theorem dX7_refusal_22 : decode cX7_refusal 22 = .ok (.getfield 42, 3) := by decide +kernel
theorem dX7_refusal_25 : decode cX7_refusal 25 = .ok (.iload 4, 2) := by decide +kernel
theorem dX7_refusal_27 : decode cX7_refusal 27 = .ok (.iload_n 1, 1) := by decide +kernel
theorem dX7_refusal_28 : decode cX7_refusal 28 = .ok (.invokevirtual 85, 3) := by decide +kernel
theorem dX7_refusal_31 : decode cX7_refusal 31 = .ok (.istore 5, 2) := by decide +kernel
theorem dX7_refusal_33 : decode cX7_refusal 33 = .ok (.iload 5, 2) := by decide +kernel
theorem dX7_refusal_35 : decode cX7_refusal 35 = .ok (.ifCond .ne 5, 3) := by decide +kernel
theorem dX7_refusal_38 : decode cX7_refusal 38 = .ok (.iconst 2, 1) := by decide +kernel
theorem dX7_refusal_39 : decode cX7_refusal 39 = .ok (.ireturn, 1) := by decide +kernel
theorem dX7_refusal_40 : decode cX7_refusal 40 = .ok (.aload_n 0, 1) := by decide +kernel
theorem dX7_refusal_41 : decode cX7_refusal 41 = .ok (.iload_n 1, 1) := by decide +kernel
theorem dX7_refusal_42 : decode cX7_refusal 42 = .ok (.iload_n 3, 1) := by decide +kernel
theorem dX7_refusal_43 : decode cX7_refusal 43 = .ok (.invokevirtual 88, 3) := by decide +kernel
theorem dX7_refusal_46 : decode cX7_refusal 46 = .ok (.ifCond .ne 5, 3) := by decide +kernel
theorem dX7_refusal_49 : decode cX7_refusal 49 = .ok (.iconst 3, 1) := by decide +kernel
theorem dX7_refusal_50 : decode cX7_refusal 50 = .ok (.ireturn, 1) := by decide +kernel
theorem dX7_refusal_51 : decode cX7_refusal 51 = .ok (.aload_n 0, 1) := by decide +kernel
theorem dX7_refusal_52 : decode cX7_refusal 52 = .ok (.iload_n 3, 1) := by decide +kernel
theorem dX7_refusal_53 : decode cX7_refusal 53 = .ok (.invokevirtual 91, 3) := by decide +kernel
theorem dX7_refusal_56 : decode cX7_refusal 56 = .ok (.iload_n 2, 1) := by decide +kernel
theorem dX7_refusal_57 : decode cX7_refusal 57 = .ok (.if_icmp .ge 5, 3) := by decide +kernel
theorem dX7_refusal_60 : decode cX7_refusal 60 = .ok (.iconst 4, 1) := by decide +kernel
theorem dX7_refusal_61 : decode cX7_refusal 61 = .ok (.ireturn, 1) := by decide +kernel
theorem dX7_refusal_62 : decode cX7_refusal 62 = .ok (.iload 5, 2) := by decide +kernel
theorem dX7_refusal_64 : decode cX7_refusal 64 = .ok (.iload_n 2, 1) := by decide +kernel
theorem dX7_refusal_65 : decode cX7_refusal 65 = .ok (.imul, 1) := by decide +kernel
theorem dX7_refusal_66 : decode cX7_refusal 66 = .ok (.aload_n 0, 1) := by decide +kernel
theorem dX7_refusal_67 : decode cX7_refusal 67 = .ok (.getfield 15, 3) := by decide +kernel
theorem dX7_refusal_70 : decode cX7_refusal 70 = .ok (.if_icmp .le 5, 3) := by decide +kernel
theorem dX7_refusal_73 : decode cX7_refusal 73 = .ok (.iconst 5, 1) := by decide +kernel
theorem dX7_refusal_74 : decode cX7_refusal 74 = .ok (.ireturn, 1) := by decide +kernel
theorem dX7_refusal_75 : decode cX7_refusal 75 = .ok (.aload_n 0, 1) := by decide +kernel
theorem dX7_refusal_76 : decode cX7_refusal 76 = .ok (.getfield 35, 3) := by decide +kernel
theorem dX7_refusal_79 : decode cX7_refusal 79 = .ok (.getfield 94, 3) := by decide +kernel
theorem dX7_refusal_82 : decode cX7_refusal 82 = .ok (.bipush 30, 2) := by decide +kernel
theorem dX7_refusal_84 : decode cX7_refusal 84 = .ok (.if_icmp .lt 8, 3) := by decide +kernel
theorem dX7_refusal_87 : decode cX7_refusal 87 = .ok (.bipush 6, 2) := by decide +kernel
theorem dX7_refusal_89 : decode cX7_refusal 89 = .ok (.goto 4, 3) := by decide +kernel
theorem dX7_refusal_92 : decode cX7_refusal 92 = .ok (.iconst 0, 1) := by decide +kernel
theorem dX7_refusal_93 : decode cX7_refusal 93 = .ok (.ireturn, 1) := by decide +kernel
theorem dX7_purchase_0 : decode cX7_purchase 0 = .ok (.aload_n 0, 1) := by decide +kernel
theorem dX7_purchase_1 : decode cX7_purchase 1 = .ok (.getfield 42, 3) := by decide +kernel
theorem dX7_purchase_4 : decode cX7_purchase 4 = .ok (.aload_n 0, 1) := by decide +kernel
theorem dX7_purchase_5 : decode cX7_purchase 5 = .ok (.getfield 79, 3) := by decide +kernel
theorem dX7_purchase_8 : decode cX7_purchase 8 = .ok (.invokevirtual 82, 3) := by decide +kernel
theorem dX7_purchase_11 : decode cX7_purchase 11 = .ok (.istore 4, 2) := by decide +kernel
theorem dX7_purchase_13 : decode cX7_purchase 13 = .ok (.aload_n 0, 1) := by decide +kernel
theorem dX7_purchase_14 : decode cX7_purchase 14 = .ok (.getfield 42, 3) := by decide +kernel
theorem dX7_purchase_17 : decode cX7_purchase 17 = .ok (.iload 4, 2) := by decide +kernel
theorem dX7_purchase_19 : decode cX7_purchase 19 = .ok (.iload_n 1, 1) := by decide +kernel
theorem dX7_purchase_20 : decode cX7_purchase 20 = .ok (.invokevirtual 85, 3) := by decide +kernel
theorem dX7_purchase_23 : decode cX7_purchase 23 = .ok (.iload_n 2, 1) := by decide +kernel
theorem dX7_purchase_24 : decode cX7_purchase 24 = .ok (.imul, 1) := by decide +kernel
theorem dX7_purchase_25 : decode cX7_purchase 25 = .ok (.istore 5, 2) := by decide +kernel
theorem dX7_purchase_27 : decode cX7_purchase 27 = .ok (.aload_n 0, 1) := by decide +kernel
theorem dX7_purchase_28 : decode cX7_purchase 28 = .ok (.dup, 1) := by decide +kernel
theorem dX7_purchase_29 : decode cX7_purchase 29 = .ok (.getfield 15, 3) := by decide +kernel
theorem dX7_purchase_32 : decode cX7_purchase 32 = .ok (.iload 5, 2) := by decide +kernel
theorem dX7_purchase_34 : decode cX7_purchase 34 = .ok (.isub, 1) := by decide +kernel
theorem dX7_purchase_35 : decode cX7_purchase 35 = .ok (.putfield 15, 3) := by decide +kernel
theorem dX7_purchase_38 : decode cX7_purchase 38 = .ok (.aload_n 0, 1) := by decide +kernel
theorem dX7_purchase_39 : decode cX7_purchase 39 = .ok (.dup, 1) := by decide +kernel
theorem dX7_purchase_40 : decode cX7_purchase 40 = .ok (.getfield 97, 3) := by decide +kernel
theorem dX7_purchase_43 : decode cX7_purchase 43 = .ok (.iload 5, 2) := by decide +kernel
theorem dX7_purchase_45 : decode cX7_purchase 45 = .ok (.iadd, 1) := by decide +kernel
theorem dX7_purchase_46 : decode cX7_purchase 46 = .ok (.putfield 97, 3) := by decide +kernel
theorem dX7_purchase_49 : decode cX7_purchase 49 = .ok (.aload_n 0, 1) := by decide +kernel
theorem dX7_purchase_50 : decode cX7_purchase 50 = .ok (.getfield 21, 3) := by decide +kernel
theorem dX7_purchase_53 : decode cX7_purchase 53 = .ok (.getfield 100, 3) := by decide +kernel
theorem dX7_purchase_56 : decode cX7_purchase 56 = .ok (.iload_n 1, 1) := by decide +kernel
theorem dX7_purchase_57 : decode cX7_purchase 57 = .ok (.iload_n 2, 1) := by decide +kernel
theorem dX7_purchase_58 : decode cX7_purchase 58 = .ok (.invokevirtual 103, 3) := by decide +kernel
theorem dX7_purchase_61 : decode cX7_purchase 61 = .ok (.aload_n 0, 1) := by decide +kernel
theorem dX7_purchase_62 : decode cX7_purchase 62 = .ok (.getfield 35, 3) := by decide +kernel
theorem dX7_purchase_65 : decode cX7_purchase 65 = .ok (.iload_n 1, 1) := by decide +kernel
theorem dX7_purchase_66 : decode cX7_purchase 66 = .ok (.iload_n 3, 1) := by decide +kernel
theorem dX7_purchase_67 : decode cX7_purchase 67 = .ok (.iload_n 2, 1) := by decide +kernel
theorem dX7_purchase_68 : decode cX7_purchase 68 = .ok (.aload_n 0, 1) := by decide +kernel
theorem dX7_purchase_69 : decode cX7_purchase 69 = .ok (.getfield 42, 3) := by decide +kernel
theorem dX7_purchase_72 : decode cX7_purchase 72 = .ok (.getfield 107, 3) := by decide +kernel
theorem dX7_purchase_75 : decode cX7_purchase 75 = .ok (.iload 4, 2) := by decide +kernel
theorem dX7_purchase_77 : decode cX7_purchase 77 = .ok (.invokevirtual 65, 3) := by decide +kernel
theorem dX7_purchase_80 : decode cX7_purchase 80 = .ok (.invokevirtual 110, 3) := by decide +kernel
theorem dX7_purchase_83 : decode cX7_purchase 83 = .ok (.ireturn, 1) := by decide +kernel
theorem dX7_daysToNextPort_0 : decode cX7_daysToNextPort 0 = .ok (.aload_n 0, 1) := by decide +kernel
theorem dX7_daysToNextPort_1 : decode cX7_daysToNextPort 1 = .ok (.getfield 42, 3) := by decide +kernel
theorem dX7_daysToNextPort_4 : decode cX7_daysToNextPort 4 = .ok (.aload_n 0, 1) := by decide +kernel
theorem dX7_daysToNextPort_5 : decode cX7_daysToNextPort 5 = .ok (.getfield 79, 3) := by decide +kernel
theorem dX7_daysToNextPort_8 : decode cX7_daysToNextPort 8 = .ok (.invokevirtual 114, 3) := by decide +kernel
theorem dX7_daysToNextPort_11 : decode cX7_daysToNextPort 11 = .ok (.istore_n 1, 1) := by decide +kernel
theorem dX7_daysToNextPort_12 : decode cX7_daysToNextPort 12 = .ok (.iload_n 1, 1) := by decide +kernel
theorem dX7_daysToNextPort_13 : decode cX7_daysToNextPort 13 = .ok (.iconst (-1), 1) := by decide +kernel
theorem dX7_daysToNextPort_14 : decode cX7_daysToNextPort 14 = .ok (.if_icmp .ne 8, 3) := by decide +kernel
theorem dX7_daysToNextPort_17 : decode cX7_daysToNextPort 17 = .ok (.bipush 60, 2) := by decide +kernel
theorem dX7_daysToNextPort_19 : decode cX7_daysToNextPort 19 = .ok (.goto 24, 3) := by decide +kernel
theorem dX7_daysToNextPort_22 : decode cX7_daysToNextPort 22 = .ok (.aload_n 0, 1) := by decide +kernel
theorem dX7_daysToNextPort_23 : decode cX7_daysToNextPort 23 = .ok (.getfield 42, 3) := by decide +kernel
theorem dX7_daysToNextPort_26 : decode cX7_daysToNextPort 26 = .ok (.getfield 117, 3) := by decide +kernel
theorem dX7_daysToNextPort_29 : decode cX7_daysToNextPort 29 = .ok (.iload_n 1, 1) := by decide +kernel
theorem dX7_daysToNextPort_30 : decode cX7_daysToNextPort 30 = .ok (.invokevirtual 65, 3) := by decide +kernel
theorem dX7_daysToNextPort_33 : decode cX7_daysToNextPort 33 = .ok (.aload_n 0, 1) := by decide +kernel
theorem dX7_daysToNextPort_34 : decode cX7_daysToNextPort 34 = .ok (.getfield 79, 3) := by decide +kernel
theorem dX7_daysToNextPort_37 : decode cX7_daysToNextPort 37 = .ok (.isub, 1) := by decide +kernel
theorem dX7_daysToNextPort_38 : decode cX7_daysToNextPort 38 = .ok (.bipush 60, 2) := by decide +kernel
theorem dX7_daysToNextPort_40 : decode cX7_daysToNextPort 40 = .ok (.invokestatic 119, 3) := by decide +kernel
theorem dX7_daysToNextPort_43 : decode cX7_daysToNextPort 43 = .ok (.ireturn, 1) := by decide +kernel
theorem dX7_daysLeftOf_0 : decode cX7_daysLeftOf 0 = .ok (.aload_n 0, 1) := by decide +kernel
theorem dX7_daysLeftOf_1 : decode cX7_daysLeftOf 1 = .ok (.getfield 35, 3) := by decide +kernel
theorem dX7_daysLeftOf_4 : decode cX7_daysLeftOf 4 = .ok (.getfield 124, 3) := by decide +kernel
theorem dX7_daysLeftOf_7 : decode cX7_daysLeftOf 7 = .ok (.iload_n 1, 1) := by decide +kernel
theorem dX7_daysLeftOf_8 : decode cX7_daysLeftOf 8 = .ok (.invokevirtual 65, 3) := by decide +kernel
theorem dX7_daysLeftOf_11 : decode cX7_daysLeftOf 11 = .ok (.istore_n 2, 1) := by decide +kernel
theorem dX7_daysLeftOf_12 : decode cX7_daysLeftOf 12 = .ok (.aload_n 0, 1) := by decide +kernel
theorem dX7_daysLeftOf_13 : decode cX7_daysLeftOf 13 = .ok (.getfield 35, 3) := by decide +kernel
theorem dX7_daysLeftOf_16 : decode cX7_daysLeftOf 16 = .ok (.getfield 127, 3) := by decide +kernel
theorem dX7_daysLeftOf_19 : decode cX7_daysLeftOf 19 = .ok (.iload_n 1, 1) := by decide +kernel
theorem dX7_daysLeftOf_20 : decode cX7_daysLeftOf 20 = .ok (.invokevirtual 65, 3) := by decide +kernel
theorem dX7_daysLeftOf_23 : decode cX7_daysLeftOf 23 = .ok (.istore_n 3, 1) := by decide +kernel
theorem dX7_daysLeftOf_24 : decode cX7_daysLeftOf 24 = .ok (.sipush 1000, 3) := by decide +kernel
theorem dX7_daysLeftOf_27 : decode cX7_daysLeftOf 27 = .ok (.aload_n 0, 1) := by decide +kernel
theorem dX7_daysLeftOf_28 : decode cX7_daysLeftOf 28 = .ok (.getfield 35, 3) := by decide +kernel
theorem dX7_daysLeftOf_31 : decode cX7_daysLeftOf 31 = .ok (.getfield 130, 3) := by decide +kernel
theorem dX7_daysLeftOf_34 : decode cX7_daysLeftOf 34 = .ok (.iload_n 1, 1) := by decide +kernel
theorem dX7_daysLeftOf_35 : decode cX7_daysLeftOf 35 = .ok (.invokevirtual 65, 3) := by decide +kernel
theorem dX7_daysLeftOf_38 : decode cX7_daysLeftOf 38 = .ok (.isub, 1) := by decide +kernel
theorem dX7_daysLeftOf_39 : decode cX7_daysLeftOf 39 = .ok (.istore 4, 2) := by decide +kernel
theorem dX7_daysLeftOf_41 : decode cX7_daysLeftOf 41 = .ok (.aload_n 0, 1) := by decide +kernel
theorem dX7_daysLeftOf_42 : decode cX7_daysLeftOf 42 = .ok (.getfield 28, 3) := by decide +kernel
theorem dX7_daysLeftOf_45 : decode cX7_daysLeftOf 45 = .ok (.getfield 62, 3) := by decide +kernel
theorem dX7_daysLeftOf_48 : decode cX7_daysLeftOf 48 = .ok (.iload_n 3, 1) := by decide +kernel
theorem dX7_daysLeftOf_49 : decode cX7_daysLeftOf 49 = .ok (.invokevirtual 65, 3) := by decide +kernel
theorem dX7_daysLeftOf_52 : decode cX7_daysLeftOf 52 = .ok (.istore 5, 2) := by decide +kernel
theorem dX7_daysLeftOf_54 : decode cX7_daysLeftOf 54 = .ok (.aload_n 0, 1) := by decide +kernel
theorem dX7_daysLeftOf_55 : decode cX7_daysLeftOf 55 = .ok (.getfield 21, 3) := by decide +kernel
theorem dX7_daysLeftOf_58 : decode cX7_daysLeftOf 58 = .ok (.iload_n 2, 1) := by decide +kernel
theorem dX7_daysLeftOf_59 : decode cX7_daysLeftOf 59 = .ok (.iconst 0, 1) := by decide +kernel
theorem dX7_daysLeftOf_60 : decode cX7_daysLeftOf 60 = .ok (.invokevirtual 69, 3) := by decide +kernel
theorem dX7_daysLeftOf_63 : decode cX7_daysLeftOf 63 = .ok (.invokestatic 133, 3) := by decide +kernel
theorem dX7_daysLeftOf_66 : decode cX7_daysLeftOf 66 = .ok (.istore 6, 2) := by decide +kernel
theorem dX7_daysLeftOf_68 : decode cX7_daysLeftOf 68 = .ok (.iload 4, 2) := by decide +kernel
theorem dX7_daysLeftOf_70 : decode cX7_daysLeftOf 70 = .ok (.iload 5, 2) := by decide +kernel
theorem dX7_daysLeftOf_72 : decode cX7_daysLeftOf 72 = .ok (.iload 6, 2) := by decide +kernel
theorem dX7_daysLeftOf_74 : decode cX7_daysLeftOf 74 = .ok (.imul, 1) := by decide +kernel
theorem dX7_daysLeftOf_75 : decode cX7_daysLeftOf 75 = .ok (.if_icmp .gt 11, 3) := by decide +kernel
theorem dX7_daysLeftOf_78 : decode cX7_daysLeftOf 78 = .ok (.iload 4, 2) := by decide +kernel
theorem dX7_daysLeftOf_80 : decode cX7_daysLeftOf 80 = .ok (.iload 6, 2) := by decide +kernel
theorem dX7_daysLeftOf_82 : decode cX7_daysLeftOf 82 = .ok (.invokestatic 136, 3) := by decide +kernel
theorem dX7_daysLeftOf_85 : decode cX7_daysLeftOf 85 = .ok (.ireturn, 1) := by decide +kernel
theorem dX7_daysLeftOf_86 : decode cX7_daysLeftOf 86 = .ok (.iload 5, 2) := by decide +kernel
theorem dX7_daysLeftOf_88 : decode cX7_daysLeftOf 88 = .ok (.iload 4, 2) := by decide +kernel
theorem dX7_daysLeftOf_90 : decode cX7_daysLeftOf 90 = .ok (.iload 5, 2) := by decide +kernel
theorem dX7_daysLeftOf_92 : decode cX7_daysLeftOf 92 = .ok (.iload 6, 2) := by decide +kernel
theorem dX7_daysLeftOf_94 : decode cX7_daysLeftOf 94 = .ok (.imul, 1) := by decide +kernel
theorem dX7_daysLeftOf_95 : decode cX7_daysLeftOf 95 = .ok (.isub, 1) := by decide +kernel
theorem dX7_daysLeftOf_96 : decode cX7_daysLeftOf 96 = .ok (.aload_n 0, 1) := by decide +kernel
theorem dX7_daysLeftOf_97 : decode cX7_daysLeftOf 97 = .ok (.getfield 21, 3) := by decide +kernel
theorem dX7_daysLeftOf_100 : decode cX7_daysLeftOf 100 = .ok (.iload_n 2, 1) := by decide +kernel
theorem dX7_daysLeftOf_101 : decode cX7_daysLeftOf 101 = .ok (.iload_n 3, 1) := by decide +kernel
theorem dX7_daysLeftOf_102 : decode cX7_daysLeftOf 102 = .ok (.invokevirtual 69, 3) := by decide +kernel
theorem dX7_daysLeftOf_105 : decode cX7_daysLeftOf 105 = .ok (.invokestatic 133, 3) := by decide +kernel
theorem dX7_daysLeftOf_108 : decode cX7_daysLeftOf 108 = .ok (.invokestatic 136, 3) := by decide +kernel
theorem dX7_daysLeftOf_111 : decode cX7_daysLeftOf 111 = .ok (.iadd, 1) := by decide +kernel
theorem dX7_daysLeftOf_112 : decode cX7_daysLeftOf 112 = .ok (.ireturn, 1) := by decide +kernel
theorem dX7_eatingPlaceOf_0 : decode cX7_eatingPlaceOf 0 = .ok (.aload_n 0, 1) := by decide +kernel
theorem dX7_eatingPlaceOf_1 : decode cX7_eatingPlaceOf 1 = .ok (.iload_n 1, 1) := by decide +kernel
theorem dX7_eatingPlaceOf_2 : decode cX7_eatingPlaceOf 2 = .ok (.invokevirtual 139, 3) := by decide +kernel
theorem dX7_eatingPlaceOf_5 : decode cX7_eatingPlaceOf 5 = .ok (.istore_n 2, 1) := by decide +kernel
theorem dX7_eatingPlaceOf_6 : decode cX7_eatingPlaceOf 6 = .ok (.iconst 0, 1) := by decide +kernel
theorem dX7_eatingPlaceOf_7 : decode cX7_eatingPlaceOf 7 = .ok (.istore_n 3, 1) := by decide +kernel
theorem dX7_eatingPlaceOf_8 : decode cX7_eatingPlaceOf 8 = .ok (.iconst 0, 1) := by decide +kernel
theorem dX7_eatingPlaceOf_9 : decode cX7_eatingPlaceOf 9 = .ok (.istore 4, 2) := by decide +kernel
theorem dX7_eatingPlaceOf_11 : decode cX7_eatingPlaceOf 11 = .ok (.iload 4, 2) := by decide +kernel
theorem dX7_eatingPlaceOf_13 : decode cX7_eatingPlaceOf 13 = .ok (.aload_n 0, 1) := by decide +kernel
theorem dX7_eatingPlaceOf_14 : decode cX7_eatingPlaceOf 14 = .ok (.getfield 35, 3) := by decide +kernel
theorem dX7_eatingPlaceOf_17 : decode cX7_eatingPlaceOf 17 = .ok (.getfield 94, 3) := by decide +kernel
theorem dX7_eatingPlaceOf_20 : decode cX7_eatingPlaceOf 20 = .ok (.if_icmp .ge 69, 3) := by decide +kernel
theorem dX7_eatingPlaceOf_23 : decode cX7_eatingPlaceOf 23 = .ok (.aload_n 0, 1) := by decide +kernel
theorem dX7_eatingPlaceOf_24 : decode cX7_eatingPlaceOf 24 = .ok (.getfield 35, 3) := by decide +kernel
theorem dX7_eatingPlaceOf_27 : decode cX7_eatingPlaceOf 27 = .ok (.getfield 124, 3) := by decide +kernel
theorem dX7_eatingPlaceOf_30 : decode cX7_eatingPlaceOf 30 = .ok (.iload 4, 2) := by decide +kernel
theorem dX7_eatingPlaceOf_32 : decode cX7_eatingPlaceOf 32 = .ok (.invokevirtual 65, 3) := by decide +kernel
theorem dX7_eatingPlaceOf_35 : decode cX7_eatingPlaceOf 35 = .ok (.aload_n 0, 1) := by decide +kernel
theorem dX7_eatingPlaceOf_36 : decode cX7_eatingPlaceOf 36 = .ok (.getfield 35, 3) := by decide +kernel
theorem dX7_eatingPlaceOf_39 : decode cX7_eatingPlaceOf 39 = .ok (.getfield 124, 3) := by decide +kernel
theorem dX7_eatingPlaceOf_42 : decode cX7_eatingPlaceOf 42 = .ok (.iload_n 1, 1) := by decide +kernel
theorem dX7_eatingPlaceOf_43 : decode cX7_eatingPlaceOf 43 = .ok (.invokevirtual 65, 3) := by decide +kernel
theorem dX7_eatingPlaceOf_46 : decode cX7_eatingPlaceOf 46 = .ok (.if_icmp .ne 37, 3) := by decide +kernel
theorem dX7_eatingPlaceOf_49 : decode cX7_eatingPlaceOf 49 = .ok (.aload_n 0, 1) := by decide +kernel
theorem dX7_eatingPlaceOf_50 : decode cX7_eatingPlaceOf 50 = .ok (.iload 4, 2) := by decide +kernel
theorem dX7_eatingPlaceOf_52 : decode cX7_eatingPlaceOf 52 = .ok (.invokevirtual 139, 3) := by decide +kernel
theorem dX7_eatingPlaceOf_55 : decode cX7_eatingPlaceOf 55 = .ok (.istore 5, 2) := by decide +kernel
theorem dX7_eatingPlaceOf_57 : decode cX7_eatingPlaceOf 57 = .ok (.iload_n 3, 1) := by decide +kernel
theorem dX7_eatingPlaceOf_58 : decode cX7_eatingPlaceOf 58 = .ok (.iload 5, 2) := by decide +kernel
theorem dX7_eatingPlaceOf_60 : decode cX7_eatingPlaceOf 60 = .ok (.iload_n 2, 1) := by decide +kernel
theorem dX7_eatingPlaceOf_61 : decode cX7_eatingPlaceOf 61 = .ok (.if_icmp .lt 15, 3) := by decide +kernel
theorem dX7_eatingPlaceOf_64 : decode cX7_eatingPlaceOf 64 = .ok (.iload 5, 2) := by decide +kernel
theorem dX7_eatingPlaceOf_66 : decode cX7_eatingPlaceOf 66 = .ok (.iload_n 2, 1) := by decide +kernel
theorem dX7_eatingPlaceOf_67 : decode cX7_eatingPlaceOf 67 = .ok (.if_icmp .ne 13, 3) := by decide +kernel
theorem dX7_eatingPlaceOf_70 : decode cX7_eatingPlaceOf 70 = .ok (.iload 4, 2) := by decide +kernel
theorem dX7_eatingPlaceOf_72 : decode cX7_eatingPlaceOf 72 = .ok (.iload_n 1, 1) := by decide +kernel
theorem dX7_eatingPlaceOf_73 : decode cX7_eatingPlaceOf 73 = .ok (.if_icmp .ge 7, 3) := by decide +kernel
theorem dX7_eatingPlaceOf_76 : decode cX7_eatingPlaceOf 76 = .ok (.iconst 1, 1) := by decide +kernel
theorem dX7_eatingPlaceOf_77 : decode cX7_eatingPlaceOf 77 = .ok (.goto 4, 3) := by decide +kernel
theorem dX7_eatingPlaceOf_80 : decode cX7_eatingPlaceOf 80 = .ok (.iconst 0, 1) := by decide +kernel
theorem dX7_eatingPlaceOf_81 : decode cX7_eatingPlaceOf 81 = .ok (.iadd, 1) := by decide +kernel
theorem dX7_eatingPlaceOf_82 : decode cX7_eatingPlaceOf 82 = .ok (.istore_n 3, 1) := by decide +kernel
theorem dX7_eatingPlaceOf_83 : decode cX7_eatingPlaceOf 83 = .ok (.iinc 4 1, 3) := by decide +kernel
theorem dX7_eatingPlaceOf_86 : decode cX7_eatingPlaceOf 86 = .ok (.goto (-75), 3) := by decide +kernel
theorem dX7_eatingPlaceOf_89 : decode cX7_eatingPlaceOf 89 = .ok (.iload_n 3, 1) := by decide +kernel
theorem dX7_eatingPlaceOf_90 : decode cX7_eatingPlaceOf 90 = .ok (.ireturn, 1) := by decide +kernel
theorem dX7_firstShort_0 : decode cX7_firstShort 0 = .ok (.aload_n 0, 1) := by decide +kernel
theorem dX7_firstShort_1 : decode cX7_firstShort 1 = .ok (.getfield 21, 3) := by decide +kernel
theorem dX7_firstShort_4 : decode cX7_firstShort 4 = .ok (.getfield 142, 3) := by decide +kernel
theorem dX7_firstShort_7 : decode cX7_firstShort 7 = .ok (.iload_n 1, 1) := by decide +kernel
theorem dX7_firstShort_8 : decode cX7_firstShort 8 = .ok (.invokevirtual 65, 3) := by decide +kernel
theorem dX7_firstShort_11 : decode cX7_firstShort 11 = .ok (.istore_n 3, 1) := by decide +kernel
theorem dX7_firstShort_12 : decode cX7_firstShort 12 = .ok (.iconst 0, 1) := by decide +kernel
theorem dX7_firstShort_13 : decode cX7_firstShort 13 = .ok (.istore 4, 2) := by decide +kernel
theorem dX7_firstShort_15 : decode cX7_firstShort 15 = .ok (.iload 4, 2) := by decide +kernel
theorem dX7_firstShort_17 : decode cX7_firstShort 17 = .ok (.iload_n 2, 1) := by decide +kernel
theorem dX7_firstShort_18 : decode cX7_firstShort 18 = .ok (.if_icmp .ge 31, 3) := by decide +kernel
theorem dX7_firstShort_21 : decode cX7_firstShort 21 = .ok (.aload_n 0, 1) := by decide +kernel
theorem dX7_firstShort_22 : decode cX7_firstShort 22 = .ok (.invokevirtual 145, 3) := by decide +kernel
theorem dX7_firstShort_25 : decode cX7_firstShort 25 = .ok (.aload_n 0, 1) := by decide +kernel
theorem dX7_firstShort_26 : decode cX7_firstShort 26 = .ok (.getfield 21, 3) := by decide +kernel
theorem dX7_firstShort_29 : decode cX7_firstShort 29 = .ok (.getfield 142, 3) := by decide +kernel
theorem dX7_firstShort_32 : decode cX7_firstShort 32 = .ok (.iload_n 1, 1) := by decide +kernel
theorem dX7_firstShort_33 : decode cX7_firstShort 33 = .ok (.invokevirtual 65, 3) := by decide +kernel
theorem dX7_firstShort_36 : decode cX7_firstShort 36 = .ok (.iload_n 3, 1) := by decide +kernel
theorem dX7_firstShort_37 : decode cX7_firstShort 37 = .ok (.if_icmp .eq 6, 3) := by decide +kernel
theorem dX7_firstShort_40 : decode cX7_firstShort 40 = .ok (.iload 4, 2) := by decide +kernel
theorem dX7_firstShort_42 : decode cX7_firstShort 42 = .ok (.ireturn, 1) := by decide +kernel
theorem dX7_firstShort_43 : decode cX7_firstShort 43 = .ok (.iinc 4 1, 3) := by decide +kernel
theorem dX7_firstShort_46 : decode cX7_firstShort 46 = .ok (.goto (-31), 3) := by decide +kernel
theorem dX7_firstShort_49 : decode cX7_firstShort 49 = .ok (.iconst (-1), 1) := by decide +kernel
theorem dX7_firstShort_50 : decode cX7_firstShort 50 = .ok (.ireturn, 1) := by decide +kernel
theorem dX7_passDays_0 : decode cX7_passDays 0 = .ok (.iconst 0, 1) := by decide +kernel
theorem dX7_passDays_1 : decode cX7_passDays 1 = .ok (.istore_n 2, 1) := by decide +kernel
theorem dX7_passDays_2 : decode cX7_passDays 2 = .ok (.iload_n 2, 1) := by decide +kernel
theorem dX7_passDays_3 : decode cX7_passDays 3 = .ok (.iload_n 1, 1) := by decide +kernel
theorem dX7_passDays_4 : decode cX7_passDays 4 = .ok (.if_icmp .ge 13, 3) := by decide +kernel
theorem dX7_passDays_7 : decode cX7_passDays 7 = .ok (.aload_n 0, 1) := by decide +kernel
theorem dX7_passDays_8 : decode cX7_passDays 8 = .ok (.invokevirtual 145, 3) := by decide +kernel
theorem dX7_passDays_11 : decode cX7_passDays 11 = .ok (.iinc 2 1, 3) := by decide +kernel
theorem dX7_passDays_14 : decode cX7_passDays 14 = .ok (.goto (-12), 3) := by decide +kernel
theorem dX7_passDays_17 : decode cX7_passDays 17 = .ok (.return_, 1) := by decide +kernel
theorem dX7_passDay_0 : decode cX7_passDay 0 = .ok (.iconst 0, 1) := by decide +kernel
theorem dX7_passDay_1 : decode cX7_passDay 1 = .ok (.istore_n 1, 1) := by decide +kernel
theorem dX7_passDay_2 : decode cX7_passDay 2 = .ok (.iload_n 1, 1) := by decide +kernel
theorem dX7_passDay_3 : decode cX7_passDay 3 = .ok (.aload_n 0, 1) := by decide +kernel
theorem dX7_passDay_4 : decode cX7_passDay 4 = .ok (.getfield 35, 3) := by decide +kernel
theorem dX7_passDay_7 : decode cX7_passDay 7 = .ok (.getfield 94, 3) := by decide +kernel
theorem dX7_passDay_10 : decode cX7_passDay 10 = .ok (.if_icmp .ge 22, 3) := by decide +kernel
theorem dX7_passDay_13 : decode cX7_passDay 13 = .ok (.aload_n 0, 1) := by decide +kernel
theorem dX7_passDay_14 : decode cX7_passDay 14 = .ok (.getfield 58, 3) := by decide +kernel
theorem dX7_passDay_17 : decode cX7_passDay 17 = .ok (.iload_n 1, 1) := by decide +kernel
theorem dX7_passDay_18 : decode cX7_passDay 18 = .ok (.aload_n 0, 1) := by decide +kernel
theorem dX7_passDay_19 : decode cX7_passDay 19 = .ok (.iload_n 1, 1) := by decide +kernel
theorem dX7_passDay_20 : decode cX7_passDay 20 = .ok (.invokevirtual 139, 3) := by decide +kernel
theorem dX7_passDay_23 : decode cX7_passDay 23 = .ok (.invokevirtual 148, 3) := by decide +kernel
theorem dX7_passDay_26 : decode cX7_passDay 26 = .ok (.iinc 1 1, 3) := by decide +kernel
theorem dX7_passDay_29 : decode cX7_passDay 29 = .ok (.goto (-27), 3) := by decide +kernel
theorem dX7_passDay_32 : decode cX7_passDay 32 = .ok (.aload_n 0, 1) := by decide +kernel
theorem dX7_passDay_33 : decode cX7_passDay 33 = .ok (.getfield 49, 3) := by decide +kernel
theorem dX7_passDay_36 : decode cX7_passDay 36 = .ok (.aload_n 0, 1) := by decide +kernel
theorem dX7_passDay_37 : decode cX7_passDay 37 = .ok (.getfield 79, 3) := by decide +kernel
theorem dX7_passDay_40 : decode cX7_passDay 40 = .ok (.invokevirtual 151, 3) := by decide +kernel
theorem dX7_passDay_43 : decode cX7_passDay 43 = .ok (.istore_n 1, 1) := by decide +kernel
theorem dX7_passDay_44 : decode cX7_passDay 44 = .ok (.iconst 0, 1) := by decide +kernel
theorem dX7_passDay_45 : decode cX7_passDay 45 = .ok (.istore_n 2, 1) := by decide +kernel
theorem dX7_passDay_46 : decode cX7_passDay 46 = .ok (.iconst 0, 1) := by decide +kernel
theorem dX7_passDay_47 : decode cX7_passDay 47 = .ok (.istore_n 3, 1) := by decide +kernel
theorem dX7_passDay_48 : decode cX7_passDay 48 = .ok (.iload_n 3, 1) := by decide +kernel
theorem dX7_passDay_49 : decode cX7_passDay 49 = .ok (.iconst 4, 1) := by decide +kernel
theorem dX7_passDay_50 : decode cX7_passDay 50 = .ok (.if_icmp .ge 25, 3) := by decide +kernel
theorem dX7_passDay_53 : decode cX7_passDay 53 = .ok (.iload_n 2, 1) := by decide +kernel
theorem dX7_passDay_54 : decode cX7_passDay 54 = .ok (.aload_n 0, 1) := by decide +kernel
theorem dX7_passDay_55 : decode cX7_passDay 55 = .ok (.aload_n 0, 1) := by decide +kernel
theorem dX7_passDay_56 : decode cX7_passDay 56 = .ok (.getfield 49, 3) := by decide +kernel
theorem dX7_passDay_59 : decode cX7_passDay 59 = .ok (.iload_n 1, 1) := by decide +kernel
theorem dX7_passDay_60 : decode cX7_passDay 60 = .ok (.iload_n 3, 1) := by decide +kernel
theorem dX7_passDay_61 : decode cX7_passDay 61 = .ok (.invokevirtual 154, 3) := by decide +kernel
theorem dX7_passDay_64 : decode cX7_passDay 64 = .ok (.invokevirtual 157, 3) := by decide +kernel
theorem dX7_passDay_67 : decode cX7_passDay 67 = .ok (.iadd, 1) := by decide +kernel
theorem dX7_passDay_68 : decode cX7_passDay 68 = .ok (.istore_n 2, 1) := by decide +kernel
theorem dX7_passDay_69 : decode cX7_passDay 69 = .ok (.iinc 3 1, 3) := by decide +kernel
theorem dX7_passDay_72 : decode cX7_passDay 72 = .ok (.goto (-24), 3) := by decide +kernel
theorem dX7_passDay_75 : decode cX7_passDay 75 = .ok (.iload_n 2, 1) := by decide +kernel
theorem dX7_passDay_76 : decode cX7_passDay 76 = .ok (.ifCond .le 13, 3) := by decide +kernel
theorem dX7_passDay_79 : decode cX7_passDay 79 = .ok (.aload_n 0, 1) := by decide +kernel
theorem dX7_passDay_80 : decode cX7_passDay 80 = .ok (.dup, 1) := by decide +kernel
theorem dX7_passDay_81 : decode cX7_passDay 81 = .ok (.getfield 160, 3) := by decide +kernel
theorem dX7_passDay_84 : decode cX7_passDay 84 = .ok (.iconst 1, 1) := by decide +kernel
theorem dX7_passDay_85 : decode cX7_passDay 85 = .ok (.iadd, 1) := by decide +kernel
theorem dX7_passDay_86 : decode cX7_passDay 86 = .ok (.putfield 160, 3) := by decide +kernel
theorem dX7_passDay_89 : decode cX7_passDay 89 = .ok (.aload_n 0, 1) := by decide +kernel
theorem dX7_passDay_90 : decode cX7_passDay 90 = .ok (.invokevirtual 163, 3) := by decide +kernel
theorem dX7_passDay_93 : decode cX7_passDay 93 = .ok (.aload_n 0, 1) := by decide +kernel
theorem dX7_passDay_94 : decode cX7_passDay 94 = .ok (.getfield 28, 3) := by decide +kernel
theorem dX7_passDay_97 : decode cX7_passDay 97 = .ok (.invokevirtual 166, 3) := by decide +kernel
theorem dX7_passDay_100 : decode cX7_passDay 100 = .ok (.aload_n 0, 1) := by decide +kernel
theorem dX7_passDay_101 : decode cX7_passDay 101 = .ok (.dup, 1) := by decide +kernel
theorem dX7_passDay_102 : decode cX7_passDay 102 = .ok (.getfield 79, 3) := by decide +kernel
theorem dX7_passDay_105 : decode cX7_passDay 105 = .ok (.iconst 1, 1) := by decide +kernel
theorem dX7_passDay_106 : decode cX7_passDay 106 = .ok (.iadd, 1) := by decide +kernel
theorem dX7_passDay_107 : decode cX7_passDay 107 = .ok (.putfield 79, 3) := by decide +kernel
theorem dX7_passDay_110 : decode cX7_passDay 110 = .ok (.return_, 1) := by decide +kernel
theorem dX7_serveItem_0 : decode cX7_serveItem 0 = .ok (.aload_n 0, 1) := by decide +kernel
theorem dX7_serveItem_1 : decode cX7_serveItem 1 = .ok (.getfield 49, 3) := by decide +kernel
theorem dX7_serveItem_4 : decode cX7_serveItem 4 = .ok (.iload_n 1, 1) := by decide +kernel
theorem dX7_serveItem_5 : decode cX7_serveItem 5 = .ok (.invokevirtual 169, 3) := by decide +kernel
theorem dX7_serveItem_8 : decode cX7_serveItem 8 = .ok (.ifCond .ne 5, 3) := by decide +kernel
theorem dX7_serveItem_11 : decode cX7_serveItem 11 = .ok (.iconst 0, 1) := by decide +kernel
theorem dX7_serveItem_12 : decode cX7_serveItem 12 = .ok (.ireturn, 1) := by decide +kernel
theorem dX7_serveItem_13 : decode cX7_serveItem 13 = .ok (.aload_n 0, 1) := by decide +kernel
theorem dX7_serveItem_14 : decode cX7_serveItem 14 = .ok (.getfield 49, 3) := by decide +kernel
theorem dX7_serveItem_17 : decode cX7_serveItem 17 = .ok (.getfield 173, 3) := by decide +kernel
theorem dX7_serveItem_20 : decode cX7_serveItem 20 = .ok (.iload_n 1, 1) := by decide +kernel
theorem dX7_serveItem_21 : decode cX7_serveItem 21 = .ok (.invokevirtual 65, 3) := by decide +kernel
theorem dX7_serveItem_24 : decode cX7_serveItem 24 = .ok (.istore_n 2, 1) := by decide +kernel
theorem dX7_serveItem_25 : decode cX7_serveItem 25 = .ok (.aload_n 0, 1) := by decide +kernel
theorem dX7_serveItem_26 : decode cX7_serveItem 26 = .ok (.getfield 49, 3) := by decide +kernel
theorem dX7_serveItem_29 : decode cX7_serveItem 29 = .ok (.getfield 174, 3) := by decide +kernel
theorem dX7_serveItem_32 : decode cX7_serveItem 32 = .ok (.iload_n 1, 1) := by decide +kernel
theorem dX7_serveItem_33 : decode cX7_serveItem 33 = .ok (.invokevirtual 65, 3) := by decide +kernel
theorem dX7_serveItem_36 : decode cX7_serveItem 36 = .ok (.istore_n 3, 1) := by decide +kernel
theorem dX7_serveItem_37 : decode cX7_serveItem 37 = .ok (.aload_n 0, 1) := by decide +kernel
theorem dX7_serveItem_38 : decode cX7_serveItem 38 = .ok (.iload_n 2, 1) := by decide +kernel
theorem dX7_serveItem_39 : decode cX7_serveItem 39 = .ok (.aload_n 0, 1) := by decide +kernel
theorem dX7_serveItem_40 : decode cX7_serveItem 40 = .ok (.getfield 49, 3) := by decide +kernel
theorem dX7_serveItem_43 : decode cX7_serveItem 43 = .ok (.getfield 177, 3) := by decide +kernel
theorem dX7_serveItem_46 : decode cX7_serveItem 46 = .ok (.iload_n 1, 1) := by decide +kernel
theorem dX7_serveItem_47 : decode cX7_serveItem 47 = .ok (.invokevirtual 65, 3) := by decide +kernel
theorem dX7_serveItem_50 : decode cX7_serveItem 50 = .ok (.aload_n 0, 1) := by decide +kernel
theorem dX7_serveItem_51 : decode cX7_serveItem 51 = .ok (.getfield 9, 3) := by decide +kernel
theorem dX7_serveItem_54 : decode cX7_serveItem 54 = .ok (.imul, 1) := by decide +kernel
theorem dX7_serveItem_55 : decode cX7_serveItem 55 = .ok (.invokevirtual 180, 3) := by decide +kernel
theorem dX7_serveItem_58 : decode cX7_serveItem 58 = .ok (.istore 4, 2) := by decide +kernel
theorem dX7_serveItem_60 : decode cX7_serveItem 60 = .ok (.iload_n 3, 1) := by decide +kernel
theorem dX7_serveItem_61 : decode cX7_serveItem 61 = .ok (.iconst (-1), 1) := by decide +kernel
theorem dX7_serveItem_62 : decode cX7_serveItem 62 = .ok (.if_icmp .eq 12, 3) := by decide +kernel
theorem dX7_serveItem_65 : decode cX7_serveItem 65 = .ok (.aload_n 0, 1) := by decide +kernel
theorem dX7_serveItem_66 : decode cX7_serveItem 66 = .ok (.iload_n 3, 1) := by decide +kernel
theorem dX7_serveItem_67 : decode cX7_serveItem 67 = .ok (.iload 4, 2) := by decide +kernel
theorem dX7_serveItem_69 : decode cX7_serveItem 69 = .ok (.invokevirtual 180, 3) := by decide +kernel
theorem dX7_serveItem_72 : decode cX7_serveItem 72 = .ok (.istore 4, 2) := by decide +kernel
theorem dX7_serveItem_74 : decode cX7_serveItem 74 = .ok (.aload_n 0, 1) := by decide +kernel
theorem dX7_serveItem_75 : decode cX7_serveItem 75 = .ok (.getfield 21, 3) := by decide +kernel
theorem dX7_serveItem_78 : decode cX7_serveItem 78 = .ok (.getfield 142, 3) := by decide +kernel
theorem dX7_serveItem_81 : decode cX7_serveItem 81 = .ok (.iload_n 2, 1) := by decide +kernel
theorem dX7_serveItem_82 : decode cX7_serveItem 82 = .ok (.iload 4, 2) := by decide +kernel
theorem dX7_serveItem_84 : decode cX7_serveItem 84 = .ok (.invokevirtual 103, 3) := by decide +kernel
theorem dX7_serveItem_87 : decode cX7_serveItem 87 = .ok (.iload 4, 2) := by decide +kernel
theorem dX7_serveItem_89 : decode cX7_serveItem 89 = .ok (.ireturn, 1) := by decide +kernel
theorem dX7_eatOf_0 : decode cX7_eatOf 0 = .ok (.iload_n 2, 1) := by decide +kernel
theorem dX7_eatOf_1 : decode cX7_eatOf 1 = .ok (.istore_n 3, 1) := by decide +kernel
theorem dX7_eatOf_2 : decode cX7_eatOf 2 = .ok (.iconst 0, 1) := by decide +kernel
theorem dX7_eatOf_3 : decode cX7_eatOf 3 = .ok (.istore 4, 2) := by decide +kernel
theorem dX7_eatOf_5 : decode cX7_eatOf 5 = .ok (.iload 4, 2) := by decide +kernel
theorem dX7_eatOf_7 : decode cX7_eatOf 7 = .ok (.aload_n 0, 1) := by decide +kernel
theorem dX7_eatOf_8 : decode cX7_eatOf 8 = .ok (.getfield 35, 3) := by decide +kernel
theorem dX7_eatOf_11 : decode cX7_eatOf 11 = .ok (.getfield 94, 3) := by decide +kernel
theorem dX7_eatOf_14 : decode cX7_eatOf 14 = .ok (.if_icmp .ge 79, 3) := by decide +kernel
theorem dX7_eatOf_17 : decode cX7_eatOf 17 = .ok (.iload_n 3, 1) := by decide +kernel
theorem dX7_eatOf_18 : decode cX7_eatOf 18 = .ok (.ifCond .le 75, 3) := by decide +kernel
theorem dX7_eatOf_21 : decode cX7_eatOf 21 = .ok (.aload_n 0, 1) := by decide +kernel
theorem dX7_eatOf_22 : decode cX7_eatOf 22 = .ok (.iload_n 1, 1) := by decide +kernel
theorem dX7_eatOf_23 : decode cX7_eatOf 23 = .ok (.invokevirtual 183, 3) := by decide +kernel
theorem dX7_eatOf_26 : decode cX7_eatOf 26 = .ok (.istore 5, 2) := by decide +kernel
theorem dX7_eatOf_28 : decode cX7_eatOf 28 = .ok (.iload 5, 2) := by decide +kernel
theorem dX7_eatOf_30 : decode cX7_eatOf 30 = .ok (.iconst (-1), 1) := by decide +kernel
theorem dX7_eatOf_31 : decode cX7_eatOf 31 = .ok (.if_icmp .ne 5, 3) := by decide +kernel
theorem dX7_eatOf_34 : decode cX7_eatOf 34 = .ok (.iload_n 3, 1) := by decide +kernel
theorem dX7_eatOf_35 : decode cX7_eatOf 35 = .ok (.ireturn, 1) := by decide +kernel
theorem dX7_eatOf_36 : decode cX7_eatOf 36 = .ok (.iload_n 3, 1) := by decide +kernel
theorem dX7_eatOf_37 : decode cX7_eatOf 37 = .ok (.aload_n 0, 1) := by decide +kernel
theorem dX7_eatOf_38 : decode cX7_eatOf 38 = .ok (.getfield 35, 3) := by decide +kernel
theorem dX7_eatOf_41 : decode cX7_eatOf 41 = .ok (.getfield 186, 3) := by decide +kernel
theorem dX7_eatOf_44 : decode cX7_eatOf 44 = .ok (.iload 5, 2) := by decide +kernel
theorem dX7_eatOf_46 : decode cX7_eatOf 46 = .ok (.invokevirtual 65, 3) := by decide +kernel
theorem dX7_eatOf_49 : decode cX7_eatOf 49 = .ok (.invokestatic 119, 3) := by decide +kernel
theorem dX7_eatOf_52 : decode cX7_eatOf 52 = .ok (.istore 6, 2) := by decide +kernel
theorem dX7_eatOf_54 : decode cX7_eatOf 54 = .ok (.aload_n 0, 1) := by decide +kernel
theorem dX7_eatOf_55 : decode cX7_eatOf 55 = .ok (.getfield 35, 3) := by decide +kernel
theorem dX7_eatOf_58 : decode cX7_eatOf 58 = .ok (.getfield 186, 3) := by decide +kernel
theorem dX7_eatOf_61 : decode cX7_eatOf 61 = .ok (.iload 5, 2) := by decide +kernel
theorem dX7_eatOf_63 : decode cX7_eatOf 63 = .ok (.iload 6, 2) := by decide +kernel
theorem dX7_eatOf_65 : decode cX7_eatOf 65 = .ok (.ineg, 1) := by decide +kernel
theorem dX7_eatOf_66 : decode cX7_eatOf 66 = .ok (.invokevirtual 103, 3) := by decide +kernel
theorem dX7_eatOf_69 : decode cX7_eatOf 69 = .ok (.aload_n 0, 1) := by decide +kernel
theorem dX7_eatOf_70 : decode cX7_eatOf 70 = .ok (.getfield 21, 3) := by decide +kernel
theorem dX7_eatOf_73 : decode cX7_eatOf 73 = .ok (.getfield 187, 3) := by decide +kernel
theorem dX7_eatOf_76 : decode cX7_eatOf 76 = .ok (.iload_n 1, 1) := by decide +kernel
theorem dX7_eatOf_77 : decode cX7_eatOf 77 = .ok (.iload 6, 2) := by decide +kernel
theorem dX7_eatOf_79 : decode cX7_eatOf 79 = .ok (.invokevirtual 103, 3) := by decide +kernel
theorem dX7_eatOf_82 : decode cX7_eatOf 82 = .ok (.iload_n 3, 1) := by decide +kernel
theorem dX7_eatOf_83 : decode cX7_eatOf 83 = .ok (.iload 6, 2) := by decide +kernel
theorem dX7_eatOf_85 : decode cX7_eatOf 85 = .ok (.isub, 1) := by decide +kernel
theorem dX7_eatOf_86 : decode cX7_eatOf 86 = .ok (.istore_n 3, 1) := by decide +kernel
theorem dX7_eatOf_87 : decode cX7_eatOf 87 = .ok (.iinc 4 1, 3) := by decide +kernel
theorem dX7_eatOf_90 : decode cX7_eatOf 90 = .ok (.goto (-85), 3) := by decide +kernel
theorem dX7_eatOf_93 : decode cX7_eatOf 93 = .ok (.iload_n 3, 1) := by decide +kernel
theorem dX7_eatOf_94 : decode cX7_eatOf 94 = .ok (.ireturn, 1) := by decide +kernel
theorem dX7_nextToEat_0 : decode cX7_nextToEat 0 = .ok (.iconst (-1), 1) := by decide +kernel
theorem dX7_nextToEat_1 : decode cX7_nextToEat 1 = .ok (.istore_n 2, 1) := by decide +kernel
theorem dX7_nextToEat_2 : decode cX7_nextToEat 2 = .ok (.iconst 0, 1) := by decide +kernel
theorem dX7_nextToEat_3 : decode cX7_nextToEat 3 = .ok (.istore_n 3, 1) := by decide +kernel
theorem dX7_nextToEat_4 : decode cX7_nextToEat 4 = .ok (.iload_n 3, 1) := by decide +kernel
theorem dX7_nextToEat_5 : decode cX7_nextToEat 5 = .ok (.aload_n 0, 1) := by decide +kernel
theorem dX7_nextToEat_6 : decode cX7_nextToEat 6 = .ok (.getfield 35, 3) := by decide +kernel
theorem dX7_nextToEat_9 : decode cX7_nextToEat 9 = .ok (.getfield 94, 3) := by decide +kernel
theorem dX7_nextToEat_12 : decode cX7_nextToEat 12 = .ok (.if_icmp .ge 64, 3) := by decide +kernel
theorem dX7_nextToEat_15 : decode cX7_nextToEat 15 = .ok (.aload_n 0, 1) := by decide +kernel
theorem dX7_nextToEat_16 : decode cX7_nextToEat 16 = .ok (.getfield 35, 3) := by decide +kernel
theorem dX7_nextToEat_19 : decode cX7_nextToEat 19 = .ok (.getfield 124, 3) := by decide +kernel
theorem dX7_nextToEat_22 : decode cX7_nextToEat 22 = .ok (.iload_n 3, 1) := by decide +kernel
theorem dX7_nextToEat_23 : decode cX7_nextToEat 23 = .ok (.invokevirtual 65, 3) := by decide +kernel
theorem dX7_nextToEat_26 : decode cX7_nextToEat 26 = .ok (.iload_n 1, 1) := by decide +kernel
theorem dX7_nextToEat_27 : decode cX7_nextToEat 27 = .ok (.if_icmp .ne 43, 3) := by decide +kernel
theorem dX7_nextToEat_30 : decode cX7_nextToEat 30 = .ok (.aload_n 0, 1) := by decide +kernel
theorem dX7_nextToEat_31 : decode cX7_nextToEat 31 = .ok (.getfield 35, 3) := by decide +kernel
theorem dX7_nextToEat_34 : decode cX7_nextToEat 34 = .ok (.getfield 186, 3) := by decide +kernel
theorem dX7_nextToEat_37 : decode cX7_nextToEat 37 = .ok (.iload_n 3, 1) := by decide +kernel
theorem dX7_nextToEat_38 : decode cX7_nextToEat 38 = .ok (.invokevirtual 65, 3) := by decide +kernel
theorem dX7_nextToEat_41 : decode cX7_nextToEat 41 = .ok (.ifCond .le 29, 3) := by decide +kernel
theorem dX7_nextToEat_44 : decode cX7_nextToEat 44 = .ok (.iload_n 2, 1) := by decide +kernel
theorem dX7_nextToEat_45 : decode cX7_nextToEat 45 = .ok (.iconst (-1), 1) := by decide +kernel
theorem dX7_nextToEat_46 : decode cX7_nextToEat 46 = .ok (.if_icmp .eq 22, 3) := by decide +kernel
theorem dX7_nextToEat_49 : decode cX7_nextToEat 49 = .ok (.aload_n 0, 1) := by decide +kernel
theorem dX7_nextToEat_50 : decode cX7_nextToEat 50 = .ok (.getfield 58, 3) := by decide +kernel
theorem dX7_nextToEat_53 : decode cX7_nextToEat 53 = .ok (.iload_n 3, 1) := by decide +kernel
theorem dX7_nextToEat_54 : decode cX7_nextToEat 54 = .ok (.invokevirtual 65, 3) := by decide +kernel
theorem dX7_nextToEat_57 : decode cX7_nextToEat 57 = .ok (.aload_n 0, 1) := by decide +kernel
theorem dX7_nextToEat_58 : decode cX7_nextToEat 58 = .ok (.getfield 58, 3) := by decide +kernel
theorem dX7_nextToEat_61 : decode cX7_nextToEat 61 = .ok (.iload_n 2, 1) := by decide +kernel
theorem dX7_nextToEat_62 : decode cX7_nextToEat 62 = .ok (.invokevirtual 65, 3) := by decide +kernel
theorem dX7_nextToEat_65 : decode cX7_nextToEat 65 = .ok (.if_icmp .ge 5, 3) := by decide +kernel
theorem dX7_nextToEat_68 : decode cX7_nextToEat 68 = .ok (.iload_n 3, 1) := by decide +kernel
theorem dX7_nextToEat_69 : decode cX7_nextToEat 69 = .ok (.istore_n 2, 1) := by decide +kernel
theorem dX7_nextToEat_70 : decode cX7_nextToEat 70 = .ok (.iinc 3 1, 3) := by decide +kernel
theorem dX7_nextToEat_73 : decode cX7_nextToEat 73 = .ok (.goto (-69), 3) := by decide +kernel
theorem dX7_nextToEat_76 : decode cX7_nextToEat 76 = .ok (.iload_n 2, 1) := by decide +kernel
theorem dX7_nextToEat_77 : decode cX7_nextToEat 77 = .ok (.ireturn, 1) := by decide +kernel
theorem dX7_ageLots_0 : decode cX7_ageLots 0 = .ok (.iconst 0, 1) := by decide +kernel
theorem dX7_ageLots_1 : decode cX7_ageLots 1 = .ok (.istore_n 1, 1) := by decide +kernel
theorem dX7_ageLots_2 : decode cX7_ageLots 2 = .ok (.iload_n 1, 1) := by decide +kernel
theorem dX7_ageLots_3 : decode cX7_ageLots 3 = .ok (.aload_n 0, 1) := by decide +kernel
theorem dX7_ageLots_4 : decode cX7_ageLots 4 = .ok (.getfield 35, 3) := by decide +kernel
theorem dX7_ageLots_7 : decode cX7_ageLots 7 = .ok (.getfield 94, 3) := by decide +kernel
theorem dX7_ageLots_10 : decode cX7_ageLots 10 = .ok (.if_icmp .ge 102, 3) := by decide +kernel
theorem dX7_ageLots_13 : decode cX7_ageLots 13 = .ok (.aload_n 0, 1) := by decide +kernel
theorem dX7_ageLots_14 : decode cX7_ageLots 14 = .ok (.getfield 35, 3) := by decide +kernel
theorem dX7_ageLots_17 : decode cX7_ageLots 17 = .ok (.getfield 124, 3) := by decide +kernel
theorem dX7_ageLots_20 : decode cX7_ageLots 20 = .ok (.iload_n 1, 1) := by decide +kernel
theorem dX7_ageLots_21 : decode cX7_ageLots 21 = .ok (.invokevirtual 65, 3) := by decide +kernel
theorem dX7_ageLots_24 : decode cX7_ageLots 24 = .ok (.istore_n 2, 1) := by decide +kernel
theorem dX7_ageLots_25 : decode cX7_ageLots 25 = .ok (.aload_n 0, 1) := by decide +kernel
theorem dX7_ageLots_26 : decode cX7_ageLots 26 = .ok (.getfield 35, 3) := by decide +kernel
theorem dX7_ageLots_29 : decode cX7_ageLots 29 = .ok (.getfield 130, 3) := by decide +kernel
theorem dX7_ageLots_32 : decode cX7_ageLots 32 = .ok (.iload_n 1, 1) := by decide +kernel
theorem dX7_ageLots_33 : decode cX7_ageLots 33 = .ok (.aload_n 0, 1) := by decide +kernel
theorem dX7_ageLots_34 : decode cX7_ageLots 34 = .ok (.iload_n 2, 1) := by decide +kernel
theorem dX7_ageLots_35 : decode cX7_ageLots 35 = .ok (.aload_n 0, 1) := by decide +kernel
theorem dX7_ageLots_36 : decode cX7_ageLots 36 = .ok (.getfield 35, 3) := by decide +kernel
theorem dX7_ageLots_39 : decode cX7_ageLots 39 = .ok (.getfield 127, 3) := by decide +kernel
theorem dX7_ageLots_42 : decode cX7_ageLots 42 = .ok (.iload_n 1, 1) := by decide +kernel
theorem dX7_ageLots_43 : decode cX7_ageLots 43 = .ok (.invokevirtual 65, 3) := by decide +kernel
theorem dX7_ageLots_46 : decode cX7_ageLots 46 = .ok (.invokevirtual 88, 3) := by decide +kernel
theorem dX7_ageLots_49 : decode cX7_ageLots 49 = .ok (.invokestatic 133, 3) := by decide +kernel
theorem dX7_ageLots_52 : decode cX7_ageLots 52 = .ok (.invokevirtual 103, 3) := by decide +kernel
theorem dX7_ageLots_55 : decode cX7_ageLots 55 = .ok (.aload_n 0, 1) := by decide +kernel
theorem dX7_ageLots_56 : decode cX7_ageLots 56 = .ok (.getfield 35, 3) := by decide +kernel
theorem dX7_ageLots_59 : decode cX7_ageLots 59 = .ok (.getfield 130, 3) := by decide +kernel
theorem dX7_ageLots_62 : decode cX7_ageLots 62 = .ok (.iload_n 1, 1) := by decide +kernel
theorem dX7_ageLots_63 : decode cX7_ageLots 63 = .ok (.invokevirtual 65, 3) := by decide +kernel
theorem dX7_ageLots_66 : decode cX7_ageLots 66 = .ok (.sipush 1000, 3) := by decide +kernel
theorem dX7_ageLots_69 : decode cX7_ageLots 69 = .ok (.if_icmp .lt 37, 3) := by decide +kernel
theorem dX7_ageLots_72 : decode cX7_ageLots 72 = .ok (.aload_n 0, 1) := by decide +kernel
theorem dX7_ageLots_73 : decode cX7_ageLots 73 = .ok (.getfield 21, 3) := by decide +kernel
theorem dX7_ageLots_76 : decode cX7_ageLots 76 = .ok (.getfield 190, 3) := by decide +kernel
theorem dX7_ageLots_79 : decode cX7_ageLots 79 = .ok (.iload_n 2, 1) := by decide +kernel
theorem dX7_ageLots_80 : decode cX7_ageLots 80 = .ok (.aload_n 0, 1) := by decide +kernel
theorem dX7_ageLots_81 : decode cX7_ageLots 81 = .ok (.getfield 35, 3) := by decide +kernel
theorem dX7_ageLots_84 : decode cX7_ageLots 84 = .ok (.getfield 186, 3) := by decide +kernel
theorem dX7_ageLots_87 : decode cX7_ageLots 87 = .ok (.iload_n 1, 1) := by decide +kernel
theorem dX7_ageLots_88 : decode cX7_ageLots 88 = .ok (.invokevirtual 65, 3) := by decide +kernel
theorem dX7_ageLots_91 : decode cX7_ageLots 91 = .ok (.invokevirtual 103, 3) := by decide +kernel
theorem dX7_ageLots_94 : decode cX7_ageLots 94 = .ok (.aload_n 0, 1) := by decide +kernel
theorem dX7_ageLots_95 : decode cX7_ageLots 95 = .ok (.getfield 35, 3) := by decide +kernel
theorem dX7_ageLots_98 : decode cX7_ageLots 98 = .ok (.getfield 186, 3) := by decide +kernel
theorem dX7_ageLots_101 : decode cX7_ageLots 101 = .ok (.iload_n 1, 1) := by decide +kernel
theorem dX7_ageLots_102 : decode cX7_ageLots 102 = .ok (.iconst 0, 1) := by decide +kernel
theorem dX7_ageLots_103 : decode cX7_ageLots 103 = .ok (.invokevirtual 148, 3) := by decide +kernel
theorem dX7_ageLots_106 : decode cX7_ageLots 106 = .ok (.iinc 1 1, 3) := by decide +kernel
theorem dX7_ageLots_109 : decode cX7_ageLots 109 = .ok (.goto (-107), 3) := by decide +kernel
theorem dX7_ageLots_112 : decode cX7_ageLots 112 = .ok (.aload_n 0, 1) := by decide +kernel
theorem dX7_ageLots_113 : decode cX7_ageLots 113 = .ok (.getfield 35, 3) := by decide +kernel
theorem dX7_ageLots_116 : decode cX7_ageLots 116 = .ok (.invokevirtual 193, 3) := by decide +kernel
theorem dX7_ageLots_119 : decode cX7_ageLots 119 = .ok (.return_, 1) := by decide +kernel
theorem dX7_stepFor_0 : decode cX7_stepFor 0 = .ok (.iload_n 0, 1) := by decide +kernel
theorem dX7_stepFor_1 : decode cX7_stepFor 1 = .ok (.iconst 1, 1) := by decide +kernel
theorem dX7_stepFor_2 : decode cX7_stepFor 2 = .ok (.if_icmp .ge 9, 3) := by decide +kernel
theorem dX7_stepFor_5 : decode cX7_stepFor 5 = .ok (.sipush 1000, 3) := by decide +kernel
theorem dX7_stepFor_8 : decode cX7_stepFor 8 = .ok (.goto 8, 3) := by decide +kernel
theorem dX7_stepFor_11 : decode cX7_stepFor 11 = .ok (.sipush 1000, 3) := by decide +kernel
theorem dX7_stepFor_14 : decode cX7_stepFor 14 = .ok (.iload_n 0, 1) := by decide +kernel
theorem dX7_stepFor_15 : decode cX7_stepFor 15 = .ok (.idiv, 1) := by decide +kernel
theorem dX7_stepFor_16 : decode cX7_stepFor 16 = .ok (.ireturn, 1) := by decide +kernel
theorem dX7_stepsTo_0 : decode cX7_stepsTo 0 = .ok (.iload_n 1, 1) := by decide +kernel
theorem dX7_stepsTo_1 : decode cX7_stepsTo 1 = .ok (.iconst 1, 1) := by decide +kernel
theorem dX7_stepsTo_2 : decode cX7_stepsTo 2 = .ok (.if_icmp .ge 7, 3) := by decide +kernel
theorem dX7_stepsTo_5 : decode cX7_stepsTo 5 = .ok (.iconst 0, 1) := by decide +kernel
theorem dX7_stepsTo_6 : decode cX7_stepsTo 6 = .ok (.goto 10, 3) := by decide +kernel
theorem dX7_stepsTo_9 : decode cX7_stepsTo 9 = .ok (.iload_n 0, 1) := by decide +kernel
theorem dX7_stepsTo_10 : decode cX7_stepsTo 10 = .ok (.iload_n 1, 1) := by decide +kernel
theorem dX7_stepsTo_11 : decode cX7_stepsTo 11 = .ok (.iadd, 1) := by decide +kernel
theorem dX7_stepsTo_12 : decode cX7_stepsTo 12 = .ok (.iconst 1, 1) := by decide +kernel
theorem dX7_stepsTo_13 : decode cX7_stepsTo 13 = .ok (.isub, 1) := by decide +kernel
theorem dX7_stepsTo_14 : decode cX7_stepsTo 14 = .ok (.iload_n 1, 1) := by decide +kernel
theorem dX7_stepsTo_15 : decode cX7_stepsTo 15 = .ok (.idiv, 1) := by decide +kernel
theorem dX7_stepsTo_16 : decode cX7_stepsTo 16 = .ok (.ireturn, 1) := by decide +kernel
theorem dX7_become_0 : decode cX7_become 0 = .ok (.aload_n 1, 1) := by decide +kernel
theorem dX7_become_1 : decode cX7_become 1 = .ok (.ifnonnull 4, 3) := by decide +kernel
theorem dX7_become_4 : decode cX7_become 4 = .ok (.return_, 1) := by decide +kernel
theorem dX7_become_5 : decode cX7_become 5 = .ok (.aload_n 0, 1) := by decide +kernel
theorem dX7_become_6 : decode cX7_become 6 = .ok (.aload_n 1, 1) := by decide +kernel
theorem dX7_become_7 : decode cX7_become 7 = .ok (.getfield 79, 3) := by decide +kernel
theorem dX7_become_10 : decode cX7_become 10 = .ok (.putfield 79, 3) := by decide +kernel
theorem dX7_become_13 : decode cX7_become 13 = .ok (.aload_n 0, 1) := by decide +kernel
theorem dX7_become_14 : decode cX7_become 14 = .ok (.aload_n 1, 1) := by decide +kernel
theorem dX7_become_15 : decode cX7_become 15 = .ok (.getfield 9, 3) := by decide +kernel
theorem dX7_become_18 : decode cX7_become 18 = .ok (.putfield 9, 3) := by decide +kernel
theorem dX7_become_21 : decode cX7_become 21 = .ok (.aload_n 0, 1) := by decide +kernel
theorem dX7_become_22 : decode cX7_become 22 = .ok (.aload_n 1, 1) := by decide +kernel
theorem dX7_become_23 : decode cX7_become 23 = .ok (.getfield 15, 3) := by decide +kernel
theorem dX7_become_26 : decode cX7_become 26 = .ok (.putfield 15, 3) := by decide +kernel
theorem dX7_become_29 : decode cX7_become 29 = .ok (.aload_n 0, 1) := by decide +kernel
theorem dX7_become_30 : decode cX7_become 30 = .ok (.aload_n 1, 1) := by decide +kernel
theorem dX7_become_31 : decode cX7_become 31 = .ok (.getfield 97, 3) := by decide +kernel
theorem dX7_become_34 : decode cX7_become 34 = .ok (.putfield 97, 3) := by decide +kernel
theorem dX7_become_37 : decode cX7_become 37 = .ok (.aload_n 0, 1) := by decide +kernel
theorem dX7_become_38 : decode cX7_become 38 = .ok (.aload_n 1, 1) := by decide +kernel
theorem dX7_become_39 : decode cX7_become 39 = .ok (.getfield 160, 3) := by decide +kernel
theorem dX7_become_42 : decode cX7_become 42 = .ok (.putfield 160, 3) := by decide +kernel
theorem dX7_become_45 : decode cX7_become 45 = .ok (.aload_n 0, 1) := by decide +kernel
theorem dX7_become_46 : decode cX7_become 46 = .ok (.getfield 21, 3) := by decide +kernel
theorem dX7_become_49 : decode cX7_become 49 = .ok (.aload_n 1, 1) := by decide +kernel
theorem dX7_become_50 : decode cX7_become 50 = .ok (.getfield 21, 3) := by decide +kernel
theorem dX7_become_53 : decode cX7_become 53 = .ok (.invokevirtual 196, 3) := by decide +kernel
theorem dX7_become_56 : decode cX7_become 56 = .ok (.aload_n 0, 1) := by decide +kernel
theorem dX7_become_57 : decode cX7_become 57 = .ok (.getfield 28, 3) := by decide +kernel
theorem dX7_become_60 : decode cX7_become 60 = .ok (.aload_n 1, 1) := by decide +kernel
theorem dX7_become_61 : decode cX7_become 61 = .ok (.getfield 28, 3) := by decide +kernel
theorem dX7_become_64 : decode cX7_become 64 = .ok (.invokevirtual 200, 3) := by decide +kernel
theorem dX7_become_67 : decode cX7_become 67 = .ok (.aload_n 0, 1) := by decide +kernel
theorem dX7_become_68 : decode cX7_become 68 = .ok (.getfield 35, 3) := by decide +kernel
theorem dX7_become_71 : decode cX7_become 71 = .ok (.aload_n 1, 1) := by decide +kernel
theorem dX7_become_72 : decode cX7_become 72 = .ok (.getfield 35, 3) := by decide +kernel
theorem dX7_become_75 : decode cX7_become 75 = .ok (.invokevirtual 203, 3) := by decide +kernel
theorem dX7_become_78 : decode cX7_become 78 = .ok (.aload_n 0, 1) := by decide +kernel
theorem dX7_become_79 : decode cX7_become 79 = .ok (.getfield 42, 3) := by decide +kernel
theorem dX7_become_82 : decode cX7_become 82 = .ok (.aload_n 1, 1) := by decide +kernel
theorem dX7_become_83 : decode cX7_become 83 = .ok (.getfield 42, 3) := by decide +kernel
theorem dX7_become_86 : decode cX7_become 86 = .ok (.invokevirtual 206, 3) := by decide +kernel
theorem dX7_become_89 : decode cX7_become 89 = .ok (.aload_n 0, 1) := by decide +kernel
theorem dX7_become_90 : decode cX7_become 90 = .ok (.getfield 49, 3) := by decide +kernel
theorem dX7_become_93 : decode cX7_become 93 = .ok (.aload_n 1, 1) := by decide +kernel
theorem dX7_become_94 : decode cX7_become 94 = .ok (.getfield 49, 3) := by decide +kernel
theorem dX7_become_97 : decode cX7_become 97 = .ok (.invokevirtual 209, 3) := by decide +kernel
theorem dX7_become_100 : decode cX7_become 100 = .ok (.return_, 1) := by decide +kernel
theorem dX8_init_0 : decode cX8_init 0 = .ok (.aload_n 0, 1) := by decide +kernel
theorem dX8_init_1 : decode cX8_init 1 = .ok (.invokespecial 3, 3) := by decide +kernel
theorem dX8_init_4 : decode cX8_init 4 = .ok (.aload_n 0, 1) := by decide +kernel
theorem dX8_init_5 : decode cX8_init 5 = .ok (.new 9, 3) := by decide +kernel
theorem dX8_init_8 : decode cX8_init 8 = .ok (.dup, 1) := by decide +kernel
theorem dX8_init_9 : decode cX8_init 9 = .ok (.iconst 3, 1) := by decide +kernel
theorem dX8_init_10 : decode cX8_init 10 = .ok (.invokespecial 11, 3) := by decide +kernel
theorem dX8_init_13 : decode cX8_init 13 = .ok (.putfield 14, 3) := by decide +kernel
theorem dX8_init_16 : decode cX8_init 16 = .ok (.aload_n 0, 1) := by decide +kernel
theorem dX8_init_17 : decode cX8_init 17 = .ok (.new 9, 3) := by decide +kernel
theorem dX8_init_20 : decode cX8_init 20 = .ok (.dup, 1) := by decide +kernel
theorem dX8_init_21 : decode cX8_init 21 = .ok (.iconst 3, 1) := by decide +kernel
theorem dX8_init_22 : decode cX8_init 22 = .ok (.invokespecial 11, 3) := by decide +kernel
theorem dX8_init_25 : decode cX8_init 25 = .ok (.putfield 20, 3) := by decide +kernel
theorem dX8_init_28 : decode cX8_init 28 = .ok (.aload_n 0, 1) := by decide +kernel
theorem dX8_init_29 : decode cX8_init 29 = .ok (.getfield 14, 3) := by decide +kernel
theorem dX8_init_32 : decode cX8_init 32 = .ok (.sipush 1000, 3) := by decide +kernel
theorem dX8_init_35 : decode cX8_init 35 = .ok (.invokevirtual 23, 3) := by decide +kernel
theorem dX8_init_38 : decode cX8_init 38 = .ok (.return_, 1) := by decide +kernel
theorem dX8_endDay_0 : decode cX8_endDay 0 = .ok (.iconst 0, 1) := by decide +kernel
theorem dX8_endDay_1 : decode cX8_endDay 1 = .ok (.istore_n 1, 1) := by decide +kernel
theorem dX8_endDay_2 : decode cX8_endDay 2 = .ok (.iload_n 1, 1) := by decide +kernel
theorem dX8_endDay_3 : decode cX8_endDay 3 = .ok (.iconst 3, 1) := by decide +kernel
theorem dX8_endDay_4 : decode cX8_endDay 4 = .ok (.if_icmp .ge 29, 3) := by decide +kernel
theorem dX8_endDay_7 : decode cX8_endDay 7 = .ok (.aload_n 0, 1) := by decide +kernel
theorem dX8_endDay_8 : decode cX8_endDay 8 = .ok (.getfield 20, 3) := by decide +kernel
theorem dX8_endDay_11 : decode cX8_endDay 11 = .ok (.iload_n 1, 1) := by decide +kernel
theorem dX8_endDay_12 : decode cX8_endDay 12 = .ok (.invokevirtual 26, 3) := by decide +kernel
theorem dX8_endDay_15 : decode cX8_endDay 15 = .ok (.ifCond .le 12, 3) := by decide +kernel
theorem dX8_endDay_18 : decode cX8_endDay 18 = .ok (.aload_n 0, 1) := by decide +kernel
theorem dX8_endDay_19 : decode cX8_endDay 19 = .ok (.getfield 20, 3) := by decide +kernel
theorem dX8_endDay_22 : decode cX8_endDay 22 = .ok (.iload_n 1, 1) := by decide +kernel
theorem dX8_endDay_23 : decode cX8_endDay 23 = .ok (.iconst (-1), 1) := by decide +kernel
theorem dX8_endDay_24 : decode cX8_endDay 24 = .ok (.invokevirtual 30, 3) := by decide +kernel
theorem dX8_endDay_27 : decode cX8_endDay 27 = .ok (.iinc 1 1, 3) := by decide +kernel
theorem dX8_endDay_30 : decode cX8_endDay 30 = .ok (.goto (-28), 3) := by decide +kernel
theorem dX8_endDay_33 : decode cX8_endDay 33 = .ok (.return_, 1) := by decide +kernel
theorem dX8_become_0 : decode cX8_become 0 = .ok (.aload_n 1, 1) := by decide +kernel
theorem dX8_become_1 : decode cX8_become 1 = .ok (.ifnonnull 4, 3) := by decide +kernel
theorem dX8_become_4 : decode cX8_become 4 = .ok (.return_, 1) := by decide +kernel
theorem dX8_become_5 : decode cX8_become 5 = .ok (.aload_n 0, 1) := by decide +kernel
theorem dX8_become_6 : decode cX8_become 6 = .ok (.getfield 14, 3) := by decide +kernel
theorem dX8_become_9 : decode cX8_become 9 = .ok (.aload_n 1, 1) := by decide +kernel
theorem dX8_become_10 : decode cX8_become 10 = .ok (.getfield 14, 3) := by decide +kernel
theorem dX8_become_13 : decode cX8_become 13 = .ok (.invokevirtual 34, 3) := by decide +kernel
theorem dX8_become_16 : decode cX8_become 16 = .ok (.aload_n 0, 1) := by decide +kernel
theorem dX8_become_17 : decode cX8_become 17 = .ok (.getfield 20, 3) := by decide +kernel
theorem dX8_become_20 : decode cX8_become 20 = .ok (.aload_n 1, 1) := by decide +kernel
theorem dX8_become_21 : decode cX8_become 21 = .ok (.getfield 20, 3) := by decide +kernel
theorem dX8_become_24 : decode cX8_become 24 = .ok (.invokevirtual 34, 3) := by decide +kernel
theorem dX8_become_27 : decode cX8_become 27 = .ok (.return_, 1) := by decide +kernel
theorem dX9_init_0 : decode cX9_init 0 = .ok (.aload_n 0, 1) := by decide +kernel
theorem dX9_init_1 : decode cX9_init 1 = .ok (.invokespecial 1, 3) := by decide +kernel
theorem dX9_init_4 : decode cX9_init 4 = .ok (.aload_n 0, 1) := by decide +kernel
theorem dX9_init_5 : decode cX9_init 5 = .ok (.new 7, 3) := by decide +kernel
theorem dX9_init_8 : decode cX9_init 8 = .ok (.dup, 1) := by decide +kernel
theorem dX9_init_9 : decode cX9_init 9 = .ok (.invokespecial 9, 3) := by decide +kernel
theorem dX9_init_12 : decode cX9_init 12 = .ok (.putfield 10, 3) := by decide +kernel
theorem dX9_init_15 : decode cX9_init 15 = .ok (.aload_n 0, 1) := by decide +kernel
theorem dX9_init_16 : decode cX9_init 16 = .ok (.new 7, 3) := by decide +kernel
theorem dX9_init_19 : decode cX9_init 19 = .ok (.dup, 1) := by decide +kernel
theorem dX9_init_20 : decode cX9_init 20 = .ok (.invokespecial 9, 3) := by decide +kernel
theorem dX9_init_23 : decode cX9_init 23 = .ok (.putfield 16, 3) := by decide +kernel
theorem dX9_init_26 : decode cX9_init 26 = .ok (.aload_n 0, 1) := by decide +kernel
theorem dX9_init_27 : decode cX9_init 27 = .ok (.new 19, 3) := by decide +kernel
theorem dX9_init_30 : decode cX9_init 30 = .ok (.dup, 1) := by decide +kernel
theorem dX9_init_31 : decode cX9_init 31 = .ok (.invokespecial 21, 3) := by decide +kernel
theorem dX9_init_34 : decode cX9_init 34 = .ok (.putfield 22, 3) := by decide +kernel
theorem dX9_init_37 : decode cX9_init 37 = .ok (.aload_n 0, 1) := by decide +kernel
theorem dX9_init_38 : decode cX9_init 38 = .ok (.new 26, 3) := by decide +kernel
theorem dX9_init_41 : decode cX9_init 41 = .ok (.dup, 1) := by decide +kernel
theorem dX9_init_42 : decode cX9_init 42 = .ok (.invokespecial 28, 3) := by decide +kernel
theorem dX9_init_45 : decode cX9_init 45 = .ok (.putfield 29, 3) := by decide +kernel
theorem dX9_init_48 : decode cX9_init 48 = .ok (.return_, 1) := by decide +kernel
theorem dX9_addKind_0 : decode cX9_addKind 0 = .ok (.iload_n 1, 1) := by decide +kernel
theorem dX9_addKind_1 : decode cX9_addKind 1 = .ok (.iconst 0, 1) := by decide +kernel
theorem dX9_addKind_2 : decode cX9_addKind 2 = .ok (.sipush 200, 3) := by decide +kernel
theorem dX9_addKind_5 : decode cX9_addKind 5 = .ok (.invokestatic 33, 3) := by decide +kernel
theorem dX9_addKind_8 : decode cX9_addKind 8 = .ok (.iload_n 2, 1) := by decide +kernel
theorem dX9_addKind_9 : decode cX9_addKind 9 = .ok (.iconst 0, 1) := by decide +kernel
theorem dX9_addKind_10 : decode cX9_addKind 10 = .ok (.sipush 200, 3) := by decide +kernel
theorem dX9_addKind_13 : decode cX9_addKind 13 = .ok (.invokestatic 33, 3) := by decide +kernel
theorem dX9_addKind_16 : decode cX9_addKind 16 = .ok (.iload_n 3, 1) := by decide +kernel
theorem dX9_addKind_17 : decode cX9_addKind 17 = .ok (.iconst 0, 1) := by decide +kernel
theorem dX9_addKind_18 : decode cX9_addKind 18 = .ok (.sipush 200, 3) := by decide +kernel
theorem dX9_addKind_21 : decode cX9_addKind 21 = .ok (.invokestatic 33, 3) := by decide +kernel
theorem dX9_addKind_24 : decode cX9_addKind 24 = .ok (.aload_n 0, 1) := by decide +kernel
theorem dX9_addKind_25 : decode cX9_addKind 25 = .ok (.getfield 10, 3) := by decide +kernel
theorem dX9_addKind_28 : decode cX9_addKind 28 = .ok (.getfield 37, 3) := by decide +kernel
theorem dX9_addKind_31 : decode cX9_addKind 31 = .ok (.getfield 41, 3) := by decide +kernel
theorem dX9_addKind_34 : decode cX9_addKind 34 = .ok (.bipush 8, 2) := by decide +kernel
theorem dX9_addKind_36 : decode cX9_addKind 36 = .ok (.if_icmp .lt 13, 3) := by decide +kernel
theorem dX9_addKind_39 : decode cX9_addKind 39 = .ok (.new 47, 3) := by decide +kernel
theorem dX9_addKind_42 : decode cX9_addKind 42 = .ok (.dup, 1) := by decide +kernel
theorem dX9_addKind_43 : decode cX9_addKind 43 = .ok (.ldc 49, 2) := by decide +kernel
theorem dX9_addKind_45 : decode cX9_addKind 45 = .ok (.invokespecial 51, 3) := by decide +kernel
theorem dX9_addKind_48 : decode cX9_addKind 48 = .ok (.athrow, 1) := by decide +kernel
theorem dX9_addKind_49 : decode cX9_addKind 49 = .ok (.aload_n 0, 1) := by decide +kernel
theorem dX9_addKind_50 : decode cX9_addKind 50 = .ok (.getfield 22, 3) := by decide +kernel
theorem dX9_addKind_53 : decode cX9_addKind 53 = .ok (.aload_n 0, 1) := by decide +kernel
theorem dX9_addKind_54 : decode cX9_addKind 54 = .ok (.getfield 10, 3) := by decide +kernel
theorem dX9_addKind_57 : decode cX9_addKind 57 = .ok (.invokevirtual 54, 3) := by decide +kernel
theorem dX9_addKind_60 : decode cX9_addKind 60 = .ok (.aload_n 0, 1) := by decide +kernel
theorem dX9_addKind_61 : decode cX9_addKind 61 = .ok (.getfield 10, 3) := by decide +kernel
theorem dX9_addKind_64 : decode cX9_addKind 64 = .ok (.getfield 37, 3) := by decide +kernel
theorem dX9_addKind_67 : decode cX9_addKind 67 = .ok (.iload_n 1, 1) := by decide +kernel
theorem dX9_addKind_68 : decode cX9_addKind 68 = .ok (.iload_n 2, 1) := by decide +kernel
theorem dX9_addKind_69 : decode cX9_addKind 69 = .ok (.iload_n 3, 1) := by decide +kernel
theorem dX9_addKind_70 : decode cX9_addKind 70 = .ok (.invokevirtual 58, 3) := by decide +kernel
theorem dX9_addKind_73 : decode cX9_addKind 73 = .ok (.ireturn, 1) := by decide +kernel
theorem dX9_setRoom_0 : decode cX9_setRoom 0 = .ok (.iload_n 1, 1) := by decide +kernel
theorem dX9_setRoom_1 : decode cX9_setRoom 1 = .ok (.invokestatic 62, 3) := by decide +kernel
theorem dX9_setRoom_4 : decode cX9_setRoom 4 = .ok (.iload_n 2, 1) := by decide +kernel
theorem dX9_setRoom_5 : decode cX9_setRoom 5 = .ok (.iconst 0, 1) := by decide +kernel
theorem dX9_setRoom_6 : decode cX9_setRoom 6 = .ok (.sipush 5000, 3) := by decide +kernel
theorem dX9_setRoom_9 : decode cX9_setRoom 9 = .ok (.invokestatic 33, 3) := by decide +kernel
theorem dX9_setRoom_12 : decode cX9_setRoom 12 = .ok (.aload_n 0, 1) := by decide +kernel
theorem dX9_setRoom_13 : decode cX9_setRoom 13 = .ok (.getfield 10, 3) := by decide +kernel
theorem dX9_setRoom_16 : decode cX9_setRoom 16 = .ok (.getfield 66, 3) := by decide +kernel
theorem dX9_setRoom_19 : decode cX9_setRoom 19 = .ok (.iload_n 1, 1) := by decide +kernel
theorem dX9_setRoom_20 : decode cX9_setRoom 20 = .ok (.invokevirtual 70, 3) := by decide +kernel
theorem dX9_setRoom_23 : decode cX9_setRoom 23 = .ok (.iload_n 2, 1) := by decide +kernel
theorem dX9_setRoom_24 : decode cX9_setRoom 24 = .ok (.if_icmp .le 13, 3) := by decide +kernel
theorem dX9_setRoom_27 : decode cX9_setRoom 27 = .ok (.new 47, 3) := by decide +kernel
theorem dX9_setRoom_30 : decode cX9_setRoom 30 = .ok (.dup, 1) := by decide +kernel
theorem dX9_setRoom_31 : decode cX9_setRoom 31 = .ok (.ldc 76, 2) := by decide +kernel
theorem dX9_setRoom_33 : decode cX9_setRoom 33 = .ok (.invokespecial 51, 3) := by decide +kernel
theorem dX9_setRoom_36 : decode cX9_setRoom 36 = .ok (.athrow, 1) := by decide +kernel
theorem dX9_setRoom_37 : decode cX9_setRoom 37 = .ok (.aload_n 0, 1) := by decide +kernel
theorem dX9_setRoom_38 : decode cX9_setRoom 38 = .ok (.getfield 22, 3) := by decide +kernel
theorem dX9_setRoom_41 : decode cX9_setRoom 41 = .ok (.aload_n 0, 1) := by decide +kernel
theorem dX9_setRoom_42 : decode cX9_setRoom 42 = .ok (.getfield 10, 3) := by decide +kernel
theorem dX9_setRoom_45 : decode cX9_setRoom 45 = .ok (.invokevirtual 54, 3) := by decide +kernel
theorem dX9_setRoom_48 : decode cX9_setRoom 48 = .ok (.aload_n 0, 1) := by decide +kernel
theorem dX9_setRoom_49 : decode cX9_setRoom 49 = .ok (.getfield 10, 3) := by decide +kernel
theorem dX9_setRoom_52 : decode cX9_setRoom 52 = .ok (.getfield 78, 3) := by decide +kernel
theorem dX9_setRoom_55 : decode cX9_setRoom 55 = .ok (.getfield 82, 3) := by decide +kernel
theorem dX9_setRoom_58 : decode cX9_setRoom 58 = .ok (.iload_n 1, 1) := by decide +kernel
theorem dX9_setRoom_59 : decode cX9_setRoom 59 = .ok (.invokevirtual 88, 3) := by decide +kernel
theorem dX9_setRoom_62 : decode cX9_setRoom 62 = .ok (.istore_n 3, 1) := by decide +kernel
theorem dX9_setRoom_63 : decode cX9_setRoom 63 = .ok (.aload_n 0, 1) := by decide +kernel
theorem dX9_setRoom_64 : decode cX9_setRoom 64 = .ok (.getfield 10, 3) := by decide +kernel
theorem dX9_setRoom_67 : decode cX9_setRoom 67 = .ok (.getfield 78, 3) := by decide +kernel
theorem dX9_setRoom_70 : decode cX9_setRoom 70 = .ok (.getfield 82, 3) := by decide +kernel
theorem dX9_setRoom_73 : decode cX9_setRoom 73 = .ok (.iload_n 1, 1) := by decide +kernel
theorem dX9_setRoom_74 : decode cX9_setRoom 74 = .ok (.iload_n 2, 1) := by decide +kernel
theorem dX9_setRoom_75 : decode cX9_setRoom 75 = .ok (.invokevirtual 93, 3) := by decide +kernel
theorem dX9_setRoom_78 : decode cX9_setRoom 78 = .ok (.iload_n 3, 1) := by decide +kernel
theorem dX9_setRoom_79 : decode cX9_setRoom 79 = .ok (.ireturn, 1) := by decide +kernel
theorem dX9_warm_0 : decode cX9_warm 0 = .ok (.iload_n 1, 1) := by decide +kernel
theorem dX9_warm_1 : decode cX9_warm 1 = .ok (.iconst 1, 1) := by decide +kernel
theorem dX9_warm_2 : decode cX9_warm 2 = .ok (.iconst 2, 1) := by decide +kernel
theorem dX9_warm_3 : decode cX9_warm 3 = .ok (.invokestatic 97, 3) := by decide +kernel
theorem dX9_warm_6 : decode cX9_warm 6 = .ok (.ifCond .ne 13, 3) := by decide +kernel
theorem dX9_warm_9 : decode cX9_warm 9 = .ok (.new 101, 3) := by decide +kernel
theorem dX9_warm_12 : decode cX9_warm 12 = .ok (.dup, 1) := by decide +kernel
theorem dX9_warm_13 : decode cX9_warm 13 = .ok (.ldc 103, 2) := by decide +kernel
theorem dX9_warm_15 : decode cX9_warm 15 = .ok (.invokespecial 105, 3) := by decide +kernel
theorem dX9_warm_18 : decode cX9_warm 18 = .ok (.athrow, 1) := by decide +kernel
theorem dX9_warm_19 : decode cX9_warm 19 = .ok (.iload_n 2, 1) := by decide +kernel
theorem dX9_warm_20 : decode cX9_warm 20 = .ok (.iconst 0, 1) := by decide +kernel
theorem dX9_warm_21 : decode cX9_warm 21 = .ok (.bipush 30, 2) := by decide +kernel
theorem dX9_warm_23 : decode cX9_warm 23 = .ok (.invokestatic 33, 3) := by decide +kernel
theorem dX9_warm_26 : decode cX9_warm 26 = .ok (.aload_n 0, 1) := by decide +kernel
theorem dX9_warm_27 : decode cX9_warm 27 = .ok (.getfield 22, 3) := by decide +kernel
theorem dX9_warm_30 : decode cX9_warm 30 = .ok (.aload_n 0, 1) := by decide +kernel
theorem dX9_warm_31 : decode cX9_warm 31 = .ok (.getfield 10, 3) := by decide +kernel
theorem dX9_warm_34 : decode cX9_warm 34 = .ok (.invokevirtual 54, 3) := by decide +kernel
theorem dX9_warm_37 : decode cX9_warm 37 = .ok (.aload_n 0, 1) := by decide +kernel
theorem dX9_warm_38 : decode cX9_warm 38 = .ok (.getfield 10, 3) := by decide +kernel
theorem dX9_warm_41 : decode cX9_warm 41 = .ok (.getfield 78, 3) := by decide +kernel
theorem dX9_warm_44 : decode cX9_warm 44 = .ok (.getfield 106, 3) := by decide +kernel
theorem dX9_warm_47 : decode cX9_warm 47 = .ok (.iload_n 1, 1) := by decide +kernel
theorem dX9_warm_48 : decode cX9_warm 48 = .ok (.invokevirtual 88, 3) := by decide +kernel
theorem dX9_warm_51 : decode cX9_warm 51 = .ok (.istore_n 3, 1) := by decide +kernel
theorem dX9_warm_52 : decode cX9_warm 52 = .ok (.aload_n 0, 1) := by decide +kernel
theorem dX9_warm_53 : decode cX9_warm 53 = .ok (.getfield 10, 3) := by decide +kernel
theorem dX9_warm_56 : decode cX9_warm 56 = .ok (.getfield 78, 3) := by decide +kernel
theorem dX9_warm_59 : decode cX9_warm 59 = .ok (.getfield 106, 3) := by decide +kernel
theorem dX9_warm_62 : decode cX9_warm 62 = .ok (.iload_n 1, 1) := by decide +kernel
theorem dX9_warm_63 : decode cX9_warm 63 = .ok (.iload_n 2, 1) := by decide +kernel
theorem dX9_warm_64 : decode cX9_warm 64 = .ok (.invokevirtual 93, 3) := by decide +kernel
theorem dX9_warm_67 : decode cX9_warm 67 = .ok (.iload_n 3, 1) := by decide +kernel
theorem dX9_warm_68 : decode cX9_warm 68 = .ok (.ireturn, 1) := by decide +kernel
theorem dX9_setCrew_0 : decode cX9_setCrew 0 = .ok (.iload_n 1, 1) := by decide +kernel
theorem dX9_setCrew_1 : decode cX9_setCrew 1 = .ok (.iconst 1, 1) := by decide +kernel
theorem dX9_setCrew_2 : decode cX9_setCrew 2 = .ok (.bipush 100, 2) := by decide +kernel
theorem dX9_setCrew_4 : decode cX9_setCrew 4 = .ok (.invokestatic 33, 3) := by decide +kernel
theorem dX9_setCrew_7 : decode cX9_setCrew 7 = .ok (.aload_n 0, 1) := by decide +kernel
theorem dX9_setCrew_8 : decode cX9_setCrew 8 = .ok (.getfield 22, 3) := by decide +kernel
theorem dX9_setCrew_11 : decode cX9_setCrew 11 = .ok (.aload_n 0, 1) := by decide +kernel
theorem dX9_setCrew_12 : decode cX9_setCrew 12 = .ok (.getfield 10, 3) := by decide +kernel
theorem dX9_setCrew_15 : decode cX9_setCrew 15 = .ok (.invokevirtual 54, 3) := by decide +kernel
theorem dX9_setCrew_18 : decode cX9_setCrew 18 = .ok (.aload_n 0, 1) := by decide +kernel
theorem dX9_setCrew_19 : decode cX9_setCrew 19 = .ok (.getfield 10, 3) := by decide +kernel
theorem dX9_setCrew_22 : decode cX9_setCrew 22 = .ok (.getfield 109, 3) := by decide +kernel
theorem dX9_setCrew_25 : decode cX9_setCrew 25 = .ok (.istore_n 2, 1) := by decide +kernel
theorem dX9_setCrew_26 : decode cX9_setCrew 26 = .ok (.aload_n 0, 1) := by decide +kernel
theorem dX9_setCrew_27 : decode cX9_setCrew 27 = .ok (.getfield 10, 3) := by decide +kernel
theorem dX9_setCrew_30 : decode cX9_setCrew 30 = .ok (.iload_n 1, 1) := by decide +kernel
theorem dX9_setCrew_31 : decode cX9_setCrew 31 = .ok (.putfield 109, 3) := by decide +kernel
theorem dX9_setCrew_34 : decode cX9_setCrew 34 = .ok (.iload_n 2, 1) := by decide +kernel
theorem dX9_setCrew_35 : decode cX9_setCrew 35 = .ok (.ireturn, 1) := by decide +kernel
theorem dX9_pay_0 : decode cX9_pay 0 = .ok (.aload_n 0, 1) := by decide +kernel
theorem dX9_pay_1 : decode cX9_pay 1 = .ok (.getfield 10, 3) := by decide +kernel
theorem dX9_pay_4 : decode cX9_pay 4 = .ok (.getfield 112, 3) := by decide +kernel
theorem dX9_pay_7 : decode cX9_pay 7 = .ok (.i2l, 1) := by decide +kernel
theorem dX9_pay_8 : decode cX9_pay 8 = .ok (.iload_n 1, 1) := by decide +kernel
theorem dX9_pay_9 : decode cX9_pay 9 = .ok (.i2l, 1) := by decide +kernel
theorem dX9_pay_10 : decode cX9_pay 10 = .ok (.ladd, 1) := by decide +kernel
theorem dX9_pay_11 : decode cX9_pay 11 = .ok (.lstore_n 2, 1) := by decide +kernel
theorem dX9_pay_12 : decode cX9_pay 12 = .ok (.lload_n 2, 1) := by decide +kernel
theorem dX9_pay_13 : decode cX9_pay 13 = .ok (.lconst 0, 1) := by decide +kernel
theorem dX9_pay_14 : decode cX9_pay 14 = .ok (.lcmp, 1) := by decide +kernel
theorem dX9_pay_15 : decode cX9_pay 15 = .ok (.ifCond .lt 11, 3) := by decide +kernel
theorem dX9_pay_18 : decode cX9_pay 18 = .ok (.lload_n 2, 1) := by decide +kernel
theorem dX9_pay_19 : decode cX9_pay 19 = .ok (.ldc2_w 115, 3) := by decide +kernel
theorem dX9_pay_22 : decode cX9_pay 22 = .ok (.lcmp, 1) := by decide +kernel
theorem dX9_pay_23 : decode cX9_pay 23 = .ok (.ifCond .le 13, 3) := by decide +kernel
theorem dX9_pay_26 : decode cX9_pay 26 = .ok (.new 117, 3) := by decide +kernel
theorem dX9_pay_29 : decode cX9_pay 29 = .ok (.dup, 1) := by decide +kernel
theorem dX9_pay_30 : decode cX9_pay 30 = .ok (.ldc 119, 2) := by decide +kernel
theorem dX9_pay_32 : decode cX9_pay 32 = .ok (.invokespecial 121, 3) := by decide +kernel
theorem dX9_pay_35 : decode cX9_pay 35 = .ok (.athrow, 1) := by decide +kernel
theorem dX9_pay_36 : decode cX9_pay 36 = .ok (.aload_n 0, 1) := by decide +kernel
theorem dX9_pay_37 : decode cX9_pay 37 = .ok (.getfield 22, 3) := by decide +kernel
theorem dX9_pay_40 : decode cX9_pay 40 = .ok (.aload_n 0, 1) := by decide +kernel
theorem dX9_pay_41 : decode cX9_pay 41 = .ok (.getfield 10, 3) := by decide +kernel
theorem dX9_pay_44 : decode cX9_pay 44 = .ok (.invokevirtual 54, 3) := by decide +kernel
theorem dX9_pay_47 : decode cX9_pay 47 = .ok (.aload_n 0, 1) := by decide +kernel
theorem dX9_pay_48 : decode cX9_pay 48 = .ok (.getfield 10, 3) := by decide +kernel
theorem dX9_pay_51 : decode cX9_pay 51 = .ok (.lload_n 2, 1) := by decide +kernel
theorem dX9_pay_52 : decode cX9_pay 52 = .ok (.l2i, 1) := by decide +kernel
theorem dX9_pay_53 : decode cX9_pay 53 = .ok (.putfield 112, 3) := by decide +kernel
theorem dX9_pay_56 : decode cX9_pay 56 = .ok (.aload_n 0, 1) := by decide +kernel
theorem dX9_pay_57 : decode cX9_pay 57 = .ok (.getfield 10, 3) := by decide +kernel
theorem dX9_pay_60 : decode cX9_pay 60 = .ok (.getfield 112, 3) := by decide +kernel
theorem dX9_pay_63 : decode cX9_pay 63 = .ok (.ireturn, 1) := by decide +kernel
theorem dX9_addPort_0 : decode cX9_addPort 0 = .ok (.iload_n 1, 1) := by decide +kernel
theorem dX9_addPort_1 : decode cX9_addPort 1 = .ok (.iconst 0, 1) := by decide +kernel
theorem dX9_addPort_2 : decode cX9_addPort 2 = .ok (.sipush 500, 3) := by decide +kernel
theorem dX9_addPort_5 : decode cX9_addPort 5 = .ok (.invokestatic 33, 3) := by decide +kernel
theorem dX9_addPort_8 : decode cX9_addPort 8 = .ok (.iload_n 2, 1) := by decide +kernel
theorem dX9_addPort_9 : decode cX9_addPort 9 = .ok (.iconst 0, 1) := by decide +kernel
theorem dX9_addPort_10 : decode cX9_addPort 10 = .ok (.sipush 900, 3) := by decide +kernel
theorem dX9_addPort_13 : decode cX9_addPort 13 = .ok (.invokestatic 33, 3) := by decide +kernel
theorem dX9_addPort_16 : decode cX9_addPort 16 = .ok (.aload_n 0, 1) := by decide +kernel
theorem dX9_addPort_17 : decode cX9_addPort 17 = .ok (.getfield 10, 3) := by decide +kernel
theorem dX9_addPort_20 : decode cX9_addPort 20 = .ok (.getfield 122, 3) := by decide +kernel
theorem dX9_addPort_23 : decode cX9_addPort 23 = .ok (.getfield 126, 3) := by decide +kernel
theorem dX9_addPort_26 : decode cX9_addPort 26 = .ok (.bipush 8, 2) := by decide +kernel
theorem dX9_addPort_28 : decode cX9_addPort 28 = .ok (.if_icmp .ge 18, 3) := by decide +kernel
theorem dX9_addPort_31 : decode cX9_addPort 31 = .ok (.aload_n 0, 1) := by decide +kernel
theorem dX9_addPort_32 : decode cX9_addPort 32 = .ok (.getfield 10, 3) := by decide +kernel
theorem dX9_addPort_35 : decode cX9_addPort 35 = .ok (.getfield 122, 3) := by decide +kernel
theorem dX9_addPort_38 : decode cX9_addPort 38 = .ok (.iload_n 1, 1) := by decide +kernel
theorem dX9_addPort_39 : decode cX9_addPort 39 = .ok (.invokevirtual 129, 3) := by decide +kernel
theorem dX9_addPort_42 : decode cX9_addPort 42 = .ok (.iconst (-1), 1) := by decide +kernel
theorem dX9_addPort_43 : decode cX9_addPort 43 = .ok (.if_icmp .eq 13, 3) := by decide +kernel
theorem dX9_addPort_46 : decode cX9_addPort 46 = .ok (.new 47, 3) := by decide +kernel
theorem dX9_addPort_49 : decode cX9_addPort 49 = .ok (.dup, 1) := by decide +kernel
theorem dX9_addPort_50 : decode cX9_addPort 50 = .ok (.ldc 132, 2) := by decide +kernel
theorem dX9_addPort_52 : decode cX9_addPort 52 = .ok (.invokespecial 51, 3) := by decide +kernel
theorem dX9_addPort_55 : decode cX9_addPort 55 = .ok (.athrow, 1) := by decide +kernel
theorem dX9_addPort_56 : decode cX9_addPort 56 = .ok (.aload_n 0, 1) := by decide +kernel
theorem dX9_addPort_57 : decode cX9_addPort 57 = .ok (.getfield 22, 3) := by decide +kernel
theorem dX9_addPort_60 : decode cX9_addPort 60 = .ok (.aload_n 0, 1) := by decide +kernel
theorem dX9_addPort_61 : decode cX9_addPort 61 = .ok (.getfield 10, 3) := by decide +kernel
theorem dX9_addPort_64 : decode cX9_addPort 64 = .ok (.invokevirtual 54, 3) := by decide +kernel
theorem dX9_addPort_67 : decode cX9_addPort 67 = .ok (.aload_n 0, 1) := by decide +kernel
theorem dX9_addPort_68 : decode cX9_addPort 68 = .ok (.getfield 10, 3) := by decide +kernel
theorem dX9_addPort_71 : decode cX9_addPort 71 = .ok (.getfield 122, 3) := by decide +kernel
theorem dX9_addPort_74 : decode cX9_addPort 74 = .ok (.iload_n 1, 1) := by decide +kernel
theorem dX9_addPort_75 : decode cX9_addPort 75 = .ok (.iload_n 2, 1) := by decide +kernel
theorem dX9_addPort_76 : decode cX9_addPort 76 = .ok (.invokevirtual 134, 3) := by decide +kernel
theorem dX9_addPort_79 : decode cX9_addPort 79 = .ok (.ireturn, 1) := by decide +kernel
theorem dX9_removePort_0 : decode cX9_removePort 0 = .ok (.aload_n 0, 1) := by decide +kernel
theorem dX9_removePort_1 : decode cX9_removePort 1 = .ok (.iload_n 1, 1) := by decide +kernel
theorem dX9_removePort_2 : decode cX9_removePort 2 = .ok (.invokevirtual 138, 3) := by decide +kernel
theorem dX9_removePort_5 : decode cX9_removePort 5 = .ok (.aload_n 0, 1) := by decide +kernel
theorem dX9_removePort_6 : decode cX9_removePort 6 = .ok (.getfield 22, 3) := by decide +kernel
theorem dX9_removePort_9 : decode cX9_removePort 9 = .ok (.aload_n 0, 1) := by decide +kernel
theorem dX9_removePort_10 : decode cX9_removePort 10 = .ok (.getfield 10, 3) := by decide +kernel
theorem dX9_removePort_13 : decode cX9_removePort 13 = .ok (.invokevirtual 54, 3) := by decide +kernel
theorem dX9_removePort_16 : decode cX9_removePort 16 = .ok (.aload_n 0, 1) := by decide +kernel
theorem dX9_removePort_17 : decode cX9_removePort 17 = .ok (.getfield 10, 3) := by decide +kernel
theorem dX9_removePort_20 : decode cX9_removePort 20 = .ok (.getfield 122, 3) := by decide +kernel
theorem dX9_removePort_23 : decode cX9_removePort 23 = .ok (.getfield 141, 3) := by decide +kernel
theorem dX9_removePort_26 : decode cX9_removePort 26 = .ok (.iload_n 1, 1) := by decide +kernel
theorem dX9_removePort_27 : decode cX9_removePort 27 = .ok (.invokevirtual 88, 3) := by decide +kernel
theorem dX9_removePort_30 : decode cX9_removePort 30 = .ok (.istore_n 2, 1) := by decide +kernel
theorem dX9_removePort_31 : decode cX9_removePort 31 = .ok (.aload_n 0, 1) := by decide +kernel
theorem dX9_removePort_32 : decode cX9_removePort 32 = .ok (.getfield 10, 3) := by decide +kernel
theorem dX9_removePort_35 : decode cX9_removePort 35 = .ok (.getfield 122, 3) := by decide +kernel
theorem dX9_removePort_38 : decode cX9_removePort 38 = .ok (.iload_n 1, 1) := by decide +kernel
theorem dX9_removePort_39 : decode cX9_removePort 39 = .ok (.invokevirtual 144, 3) := by decide +kernel
theorem dX9_removePort_42 : decode cX9_removePort 42 = .ok (.iload_n 2, 1) := by decide +kernel
theorem dX9_removePort_43 : decode cX9_removePort 43 = .ok (.ireturn, 1) := by decide +kernel
theorem dX9_setPrice_0 : decode cX9_setPrice 0 = .ok (.aload_n 0, 1) := by decide +kernel
theorem dX9_setPrice_1 : decode cX9_setPrice 1 = .ok (.iload_n 1, 1) := by decide +kernel
theorem dX9_setPrice_2 : decode cX9_setPrice 2 = .ok (.invokevirtual 138, 3) := by decide +kernel
theorem dX9_setPrice_5 : decode cX9_setPrice 5 = .ok (.aload_n 0, 1) := by decide +kernel
theorem dX9_setPrice_6 : decode cX9_setPrice 6 = .ok (.iload_n 2, 1) := by decide +kernel
theorem dX9_setPrice_7 : decode cX9_setPrice 7 = .ok (.invokevirtual 147, 3) := by decide +kernel
theorem dX9_setPrice_10 : decode cX9_setPrice 10 = .ok (.iload_n 3, 1) := by decide +kernel
theorem dX9_setPrice_11 : decode cX9_setPrice 11 = .ok (.iconst 0, 1) := by decide +kernel
theorem dX9_setPrice_12 : decode cX9_setPrice 12 = .ok (.bipush 100, 2) := by decide +kernel
theorem dX9_setPrice_14 : decode cX9_setPrice 14 = .ok (.invokestatic 33, 3) := by decide +kernel
theorem dX9_setPrice_17 : decode cX9_setPrice 17 = .ok (.aload_n 0, 1) := by decide +kernel
theorem dX9_setPrice_18 : decode cX9_setPrice 18 = .ok (.getfield 22, 3) := by decide +kernel
theorem dX9_setPrice_21 : decode cX9_setPrice 21 = .ok (.aload_n 0, 1) := by decide +kernel
theorem dX9_setPrice_22 : decode cX9_setPrice 22 = .ok (.getfield 10, 3) := by decide +kernel
theorem dX9_setPrice_25 : decode cX9_setPrice 25 = .ok (.invokevirtual 54, 3) := by decide +kernel
theorem dX9_setPrice_28 : decode cX9_setPrice 28 = .ok (.aload_n 0, 1) := by decide +kernel
theorem dX9_setPrice_29 : decode cX9_setPrice 29 = .ok (.getfield 10, 3) := by decide +kernel
theorem dX9_setPrice_32 : decode cX9_setPrice 32 = .ok (.getfield 122, 3) := by decide +kernel
theorem dX9_setPrice_35 : decode cX9_setPrice 35 = .ok (.iload_n 1, 1) := by decide +kernel
theorem dX9_setPrice_36 : decode cX9_setPrice 36 = .ok (.iload_n 2, 1) := by decide +kernel
theorem dX9_setPrice_37 : decode cX9_setPrice 37 = .ok (.invokevirtual 150, 3) := by decide +kernel
theorem dX9_setPrice_40 : decode cX9_setPrice 40 = .ok (.istore 4, 2) := by decide +kernel
theorem dX9_setPrice_42 : decode cX9_setPrice 42 = .ok (.aload_n 0, 1) := by decide +kernel
theorem dX9_setPrice_43 : decode cX9_setPrice 43 = .ok (.getfield 10, 3) := by decide +kernel
theorem dX9_setPrice_46 : decode cX9_setPrice 46 = .ok (.getfield 122, 3) := by decide +kernel
theorem dX9_setPrice_49 : decode cX9_setPrice 49 = .ok (.iload_n 1, 1) := by decide +kernel
theorem dX9_setPrice_50 : decode cX9_setPrice 50 = .ok (.iload_n 2, 1) := by decide +kernel
theorem dX9_setPrice_51 : decode cX9_setPrice 51 = .ok (.iload_n 3, 1) := by decide +kernel
theorem dX9_setPrice_52 : decode cX9_setPrice 52 = .ok (.invokevirtual 153, 3) := by decide +kernel
theorem dX9_setPrice_55 : decode cX9_setPrice 55 = .ok (.iload 4, 2) := by decide +kernel
theorem dX9_setPrice_57 : decode cX9_setPrice 57 = .ok (.ireturn, 1) := by decide +kernel
theorem dX9_buy_0 : decode cX9_buy 0 = .ok (.aload_n 0, 1) := by decide +kernel
theorem dX9_buy_1 : decode cX9_buy 1 = .ok (.iload_n 1, 1) := by decide +kernel
theorem dX9_buy_2 : decode cX9_buy 2 = .ok (.invokevirtual 147, 3) := by decide +kernel
theorem dX9_buy_5 : decode cX9_buy 5 = .ok (.iload_n 3, 1) := by decide +kernel
theorem dX9_buy_6 : decode cX9_buy 6 = .ok (.invokestatic 62, 3) := by decide +kernel
theorem dX9_buy_9 : decode cX9_buy 9 = .ok (.iload_n 2, 1) := by decide +kernel
theorem dX9_buy_10 : decode cX9_buy 10 = .ok (.iconst 1, 1) := by decide +kernel
theorem dX9_buy_11 : decode cX9_buy 11 = .ok (.sipush 2000, 3) := by decide +kernel
theorem dX9_buy_14 : decode cX9_buy 14 = .ok (.invokestatic 33, 3) := by decide +kernel
theorem dX9_buy_17 : decode cX9_buy 17 = .ok (.aload_n 0, 1) := by decide +kernel
theorem dX9_buy_18 : decode cX9_buy 18 = .ok (.getfield 10, 3) := by decide +kernel
theorem dX9_buy_21 : decode cX9_buy 21 = .ok (.iload_n 1, 1) := by decide +kernel
theorem dX9_buy_22 : decode cX9_buy 22 = .ok (.iload_n 2, 1) := by decide +kernel
theorem dX9_buy_23 : decode cX9_buy 23 = .ok (.iload_n 3, 1) := by decide +kernel
theorem dX9_buy_24 : decode cX9_buy 24 = .ok (.invokevirtual 156, 3) := by decide +kernel
theorem dX9_buy_27 : decode cX9_buy 27 = .ok (.ifCond .eq 13, 3) := by decide +kernel
theorem dX9_buy_30 : decode cX9_buy 30 = .ok (.new 47, 3) := by decide +kernel
theorem dX9_buy_33 : decode cX9_buy 33 = .ok (.dup, 1) := by decide +kernel
theorem dX9_buy_34 : decode cX9_buy 34 = .ok (.ldc 159, 2) := by decide +kernel
theorem dX9_buy_36 : decode cX9_buy 36 = .ok (.invokespecial 51, 3) := by decide +kernel
theorem dX9_buy_39 : decode cX9_buy 39 = .ok (.athrow, 1) := by decide +kernel
theorem dX9_buy_40 : decode cX9_buy 40 = .ok (.aload_n 0, 1) := by decide +kernel
theorem dX9_buy_41 : decode cX9_buy 41 = .ok (.getfield 22, 3) := by decide +kernel
theorem dX9_buy_44 : decode cX9_buy 44 = .ok (.aload_n 0, 1) := by decide +kernel
theorem dX9_buy_45 : decode cX9_buy 45 = .ok (.getfield 10, 3) := by decide +kernel
theorem dX9_buy_48 : decode cX9_buy 48 = .ok (.invokevirtual 54, 3) := by decide +kernel
theorem dX9_buy_51 : decode cX9_buy 51 = .ok (.aload_n 0, 1) := by decide +kernel
theorem dX9_buy_52 : decode cX9_buy 52 = .ok (.getfield 10, 3) := by decide +kernel
theorem dX9_buy_55 : decode cX9_buy 55 = .ok (.iload_n 1, 1) := by decide +kernel
theorem dX9_buy_56 : decode cX9_buy 56 = .ok (.iload_n 2, 1) := by decide +kernel
theorem dX9_buy_57 : decode cX9_buy 57 = .ok (.iload_n 3, 1) := by decide +kernel
theorem dX9_buy_58 : decode cX9_buy 58 = .ok (.invokevirtual 161, 3) := by decide +kernel
theorem dX9_buy_61 : decode cX9_buy 61 = .ok (.ireturn, 1) := by decide +kernel
theorem dX9_move_0 : decode cX9_move 0 = .ok (.aload_n 0, 1) := by decide +kernel
theorem dX9_move_1 : decode cX9_move 1 = .ok (.iload_n 1, 1) := by decide +kernel
theorem dX9_move_2 : decode cX9_move 2 = .ok (.invokevirtual 164, 3) := by decide +kernel
theorem dX9_move_5 : decode cX9_move 5 = .ok (.iload_n 3, 1) := by decide +kernel
theorem dX9_move_6 : decode cX9_move 6 = .ok (.invokestatic 62, 3) := by decide +kernel
theorem dX9_move_9 : decode cX9_move 9 = .ok (.iload_n 2, 1) := by decide +kernel
theorem dX9_move_10 : decode cX9_move 10 = .ok (.iconst 1, 1) := by decide +kernel
theorem dX9_move_11 : decode cX9_move 11 = .ok (.aload_n 0, 1) := by decide +kernel
theorem dX9_move_12 : decode cX9_move 12 = .ok (.getfield 10, 3) := by decide +kernel
theorem dX9_move_15 : decode cX9_move 15 = .ok (.getfield 66, 3) := by decide +kernel
theorem dX9_move_18 : decode cX9_move 18 = .ok (.getfield 167, 3) := by decide +kernel
theorem dX9_move_21 : decode cX9_move 21 = .ok (.iload_n 1, 1) := by decide +kernel
theorem dX9_move_22 : decode cX9_move 22 = .ok (.invokevirtual 88, 3) := by decide +kernel
theorem dX9_move_25 : decode cX9_move 25 = .ok (.invokestatic 33, 3) := by decide +kernel
theorem dX9_move_28 : decode cX9_move 28 = .ok (.aload_n 0, 1) := by decide +kernel
theorem dX9_move_29 : decode cX9_move 29 = .ok (.getfield 10, 3) := by decide +kernel
theorem dX9_move_32 : decode cX9_move 32 = .ok (.getfield 66, 3) := by decide +kernel
theorem dX9_move_35 : decode cX9_move 35 = .ok (.getfield 170, 3) := by decide +kernel
theorem dX9_move_38 : decode cX9_move 38 = .ok (.iload_n 1, 1) := by decide +kernel
theorem dX9_move_39 : decode cX9_move 39 = .ok (.invokevirtual 88, 3) := by decide +kernel
theorem dX9_move_42 : decode cX9_move 42 = .ok (.iload_n 3, 1) := by decide +kernel
theorem dX9_move_43 : decode cX9_move 43 = .ok (.if_icmp .ne 13, 3) := by decide +kernel
theorem dX9_move_46 : decode cX9_move 46 = .ok (.new 117, 3) := by decide +kernel
theorem dX9_move_49 : decode cX9_move 49 = .ok (.dup, 1) := by decide +kernel
theorem dX9_move_50 : decode cX9_move 50 = .ok (.ldc 173, 2) := by decide +kernel
theorem dX9_move_52 : decode cX9_move 52 = .ok (.invokespecial 121, 3) := by decide +kernel
theorem dX9_move_55 : decode cX9_move 55 = .ok (.athrow, 1) := by decide +kernel
theorem dX9_move_56 : decode cX9_move 56 = .ok (.iload_n 2, 1) := by decide +kernel
theorem dX9_move_57 : decode cX9_move 57 = .ok (.aload_n 0, 1) := by decide +kernel
theorem dX9_move_58 : decode cX9_move 58 = .ok (.getfield 10, 3) := by decide +kernel
theorem dX9_move_61 : decode cX9_move 61 = .ok (.getfield 66, 3) := by decide +kernel
theorem dX9_move_64 : decode cX9_move 64 = .ok (.getfield 167, 3) := by decide +kernel
theorem dX9_move_67 : decode cX9_move 67 = .ok (.iload_n 1, 1) := by decide +kernel
theorem dX9_move_68 : decode cX9_move 68 = .ok (.invokevirtual 88, 3) := by decide +kernel
theorem dX9_move_71 : decode cX9_move 71 = .ok (.if_icmp .ne 7, 3) := by decide +kernel
theorem dX9_move_74 : decode cX9_move 74 = .ok (.iconst 1, 1) := by decide +kernel
theorem dX9_move_75 : decode cX9_move 75 = .ok (.goto 4, 3) := by decide +kernel
theorem dX9_move_78 : decode cX9_move 78 = .ok (.iconst 0, 1) := by decide +kernel
theorem dX9_move_79 : decode cX9_move 79 = .ok (.istore 4, 2) := by decide +kernel
theorem dX9_move_81 : decode cX9_move 81 = .ok (.aload_n 0, 1) := by decide +kernel
theorem dX9_move_82 : decode cX9_move 82 = .ok (.getfield 10, 3) := by decide +kernel
theorem dX9_move_85 : decode cX9_move 85 = .ok (.iload_n 3, 1) := by decide +kernel
theorem dX9_move_86 : decode cX9_move 86 = .ok (.invokevirtual 175, 3) := by decide +kernel
theorem dX9_move_89 : decode cX9_move 89 = .ok (.iload_n 2, 1) := by decide +kernel
theorem dX9_move_90 : decode cX9_move 90 = .ok (.if_icmp .lt 23, 3) := by decide +kernel
theorem dX9_move_93 : decode cX9_move 93 = .ok (.iload 4, 2) := by decide +kernel
theorem dX9_move_95 : decode cX9_move 95 = .ok (.ifCond .ne 28, 3) := by decide +kernel
theorem dX9_move_98 : decode cX9_move 98 = .ok (.aload_n 0, 1) := by decide +kernel
theorem dX9_move_99 : decode cX9_move 99 = .ok (.getfield 10, 3) := by decide +kernel
theorem dX9_move_102 : decode cX9_move 102 = .ok (.getfield 66, 3) := by decide +kernel
theorem dX9_move_105 : decode cX9_move 105 = .ok (.getfield 178, 3) := by decide +kernel
theorem dX9_move_108 : decode cX9_move 108 = .ok (.bipush 30, 2) := by decide +kernel
theorem dX9_move_110 : decode cX9_move 110 = .ok (.if_icmp .lt 13, 3) := by decide +kernel
theorem dX9_move_113 : decode cX9_move 113 = .ok (.new 47, 3) := by decide +kernel
theorem dX9_move_116 : decode cX9_move 116 = .ok (.dup, 1) := by decide +kernel
theorem dX9_move_117 : decode cX9_move 117 = .ok (.ldc 179, 2) := by decide +kernel
theorem dX9_move_119 : decode cX9_move 119 = .ok (.invokespecial 51, 3) := by decide +kernel
theorem dX9_move_122 : decode cX9_move 122 = .ok (.athrow, 1) := by decide +kernel
theorem dX9_move_123 : decode cX9_move 123 = .ok (.aload_n 0, 1) := by decide +kernel
theorem dX9_move_124 : decode cX9_move 124 = .ok (.getfield 22, 3) := by decide +kernel
theorem dX9_move_127 : decode cX9_move 127 = .ok (.aload_n 0, 1) := by decide +kernel
theorem dX9_move_128 : decode cX9_move 128 = .ok (.getfield 10, 3) := by decide +kernel
theorem dX9_move_131 : decode cX9_move 131 = .ok (.invokevirtual 54, 3) := by decide +kernel
theorem dX9_move_134 : decode cX9_move 134 = .ok (.iload 4, 2) := by decide +kernel
theorem dX9_move_136 : decode cX9_move 136 = .ok (.ifCond .eq 20, 3) := by decide +kernel
theorem dX9_move_139 : decode cX9_move 139 = .ok (.aload_n 0, 1) := by decide +kernel
theorem dX9_move_140 : decode cX9_move 140 = .ok (.getfield 10, 3) := by decide +kernel
theorem dX9_move_143 : decode cX9_move 143 = .ok (.getfield 66, 3) := by decide +kernel
theorem dX9_move_146 : decode cX9_move 146 = .ok (.getfield 170, 3) := by decide +kernel
theorem dX9_move_149 : decode cX9_move 149 = .ok (.iload_n 1, 1) := by decide +kernel
theorem dX9_move_150 : decode cX9_move 150 = .ok (.iload_n 3, 1) := by decide +kernel
theorem dX9_move_151 : decode cX9_move 151 = .ok (.invokevirtual 93, 3) := by decide +kernel
theorem dX9_move_154 : decode cX9_move 154 = .ok (.iload_n 1, 1) := by decide +kernel
theorem dX9_move_155 : decode cX9_move 155 = .ok (.ireturn, 1) := by decide +kernel
theorem dX9_move_156 : decode cX9_move 156 = .ok (.aload_n 0, 1) := by decide +kernel
theorem dX9_move_157 : decode cX9_move 157 = .ok (.getfield 10, 3) := by decide +kernel
theorem dX9_move_160 : decode cX9_move 160 = .ok (.getfield 66, 3) := by decide +kernel
theorem dX9_move_163 : decode cX9_move 163 = .ok (.iload_n 1, 1) := by decide +kernel
theorem dX9_move_164 : decode cX9_move 164 = .ok (.iload_n 2, 1) := by decide +kernel
theorem dX9_move_165 : decode cX9_move 165 = .ok (.iload_n 3, 1) := by decide +kernel
theorem dX9_move_166 : decode cX9_move 166 = .ok (.invokevirtual 181, 3) := by decide +kernel
theorem dX9_move_169 : decode cX9_move 169 = .ok (.ireturn, 1) := by decide +kernel
theorem dX9_discard_0 : decode cX9_discard 0 = .ok (.aload_n 0, 1) := by decide +kernel
theorem dX9_discard_1 : decode cX9_discard 1 = .ok (.iload_n 1, 1) := by decide +kernel
theorem dX9_discard_2 : decode cX9_discard 2 = .ok (.invokevirtual 164, 3) := by decide +kernel
theorem dX9_discard_5 : decode cX9_discard 5 = .ok (.iload_n 2, 1) := by decide +kernel
theorem dX9_discard_6 : decode cX9_discard 6 = .ok (.iconst 1, 1) := by decide +kernel
theorem dX9_discard_7 : decode cX9_discard 7 = .ok (.aload_n 0, 1) := by decide +kernel
theorem dX9_discard_8 : decode cX9_discard 8 = .ok (.getfield 10, 3) := by decide +kernel
theorem dX9_discard_11 : decode cX9_discard 11 = .ok (.getfield 66, 3) := by decide +kernel
theorem dX9_discard_14 : decode cX9_discard 14 = .ok (.getfield 167, 3) := by decide +kernel
theorem dX9_discard_17 : decode cX9_discard 17 = .ok (.iload_n 1, 1) := by decide +kernel
theorem dX9_discard_18 : decode cX9_discard 18 = .ok (.invokevirtual 88, 3) := by decide +kernel
theorem dX9_discard_21 : decode cX9_discard 21 = .ok (.invokestatic 33, 3) := by decide +kernel
theorem dX9_discard_24 : decode cX9_discard 24 = .ok (.aload_n 0, 1) := by decide +kernel
theorem dX9_discard_25 : decode cX9_discard 25 = .ok (.getfield 22, 3) := by decide +kernel
theorem dX9_discard_28 : decode cX9_discard 28 = .ok (.aload_n 0, 1) := by decide +kernel
theorem dX9_discard_29 : decode cX9_discard 29 = .ok (.getfield 10, 3) := by decide +kernel
theorem dX9_discard_32 : decode cX9_discard 32 = .ok (.invokevirtual 54, 3) := by decide +kernel
theorem dX9_discard_35 : decode cX9_discard 35 = .ok (.aload_n 0, 1) := by decide +kernel
theorem dX9_discard_36 : decode cX9_discard 36 = .ok (.getfield 10, 3) := by decide +kernel
theorem dX9_discard_39 : decode cX9_discard 39 = .ok (.getfield 37, 3) := by decide +kernel
theorem dX9_discard_42 : decode cX9_discard 42 = .ok (.getfield 184, 3) := by decide +kernel
theorem dX9_discard_45 : decode cX9_discard 45 = .ok (.aload_n 0, 1) := by decide +kernel
theorem dX9_discard_46 : decode cX9_discard 46 = .ok (.getfield 10, 3) := by decide +kernel
theorem dX9_discard_49 : decode cX9_discard 49 = .ok (.getfield 66, 3) := by decide +kernel
theorem dX9_discard_52 : decode cX9_discard 52 = .ok (.getfield 187, 3) := by decide +kernel
theorem dX9_discard_55 : decode cX9_discard 55 = .ok (.iload_n 1, 1) := by decide +kernel
theorem dX9_discard_56 : decode cX9_discard 56 = .ok (.invokevirtual 88, 3) := by decide +kernel
theorem dX9_discard_59 : decode cX9_discard 59 = .ok (.iload_n 2, 1) := by decide +kernel
theorem dX9_discard_60 : decode cX9_discard 60 = .ok (.invokevirtual 190, 3) := by decide +kernel
theorem dX9_discard_63 : decode cX9_discard 63 = .ok (.aload_n 0, 1) := by decide +kernel
theorem dX9_discard_64 : decode cX9_discard 64 = .ok (.getfield 10, 3) := by decide +kernel
theorem dX9_discard_67 : decode cX9_discard 67 = .ok (.getfield 66, 3) := by decide +kernel
theorem dX9_discard_70 : decode cX9_discard 70 = .ok (.getfield 167, 3) := by decide +kernel
theorem dX9_discard_73 : decode cX9_discard 73 = .ok (.iload_n 1, 1) := by decide +kernel
theorem dX9_discard_74 : decode cX9_discard 74 = .ok (.iload_n 2, 1) := by decide +kernel
theorem dX9_discard_75 : decode cX9_discard 75 = .ok (.ineg, 1) := by decide +kernel
theorem dX9_discard_76 : decode cX9_discard 76 = .ok (.invokevirtual 190, 3) := by decide +kernel
theorem dX9_discard_79 : decode cX9_discard 79 = .ok (.aload_n 0, 1) := by decide +kernel
theorem dX9_discard_80 : decode cX9_discard 80 = .ok (.getfield 10, 3) := by decide +kernel
theorem dX9_discard_83 : decode cX9_discard 83 = .ok (.getfield 66, 3) := by decide +kernel
theorem dX9_discard_86 : decode cX9_discard 86 = .ok (.invokevirtual 193, 3) := by decide +kernel
theorem dX9_discard_89 : decode cX9_discard 89 = .ok (.aload_n 0, 1) := by decide +kernel
theorem dX9_discard_90 : decode cX9_discard 90 = .ok (.getfield 10, 3) := by decide +kernel
theorem dX9_discard_93 : decode cX9_discard 93 = .ok (.getfield 66, 3) := by decide +kernel
theorem dX9_discard_96 : decode cX9_discard 96 = .ok (.invokevirtual 196, 3) := by decide +kernel
theorem dX9_discard_99 : decode cX9_discard 99 = .ok (.ireturn, 1) := by decide +kernel
theorem dX9_pass_0 : decode cX9_pass 0 = .ok (.iload_n 1, 1) := by decide +kernel
theorem dX9_pass_1 : decode cX9_pass 1 = .ok (.iconst 1, 1) := by decide +kernel
theorem dX9_pass_2 : decode cX9_pass 2 = .ok (.bipush 60, 2) := by decide +kernel
theorem dX9_pass_4 : decode cX9_pass 4 = .ok (.invokestatic 33, 3) := by decide +kernel
theorem dX9_pass_7 : decode cX9_pass 7 = .ok (.aload_n 0, 1) := by decide +kernel
theorem dX9_pass_8 : decode cX9_pass 8 = .ok (.getfield 22, 3) := by decide +kernel
theorem dX9_pass_11 : decode cX9_pass 11 = .ok (.aload_n 0, 1) := by decide +kernel
theorem dX9_pass_12 : decode cX9_pass 12 = .ok (.getfield 10, 3) := by decide +kernel
theorem dX9_pass_15 : decode cX9_pass 15 = .ok (.invokevirtual 54, 3) := by decide +kernel
theorem dX9_pass_18 : decode cX9_pass 18 = .ok (.aload_n 0, 1) := by decide +kernel
theorem dX9_pass_19 : decode cX9_pass 19 = .ok (.getfield 10, 3) := by decide +kernel
theorem dX9_pass_22 : decode cX9_pass 22 = .ok (.getfield 37, 3) := by decide +kernel
theorem dX9_pass_25 : decode cX9_pass 25 = .ok (.getfield 200, 3) := by decide +kernel
theorem dX9_pass_28 : decode cX9_pass 28 = .ok (.invokevirtual 203, 3) := by decide +kernel
theorem dX9_pass_31 : decode cX9_pass 31 = .ok (.istore_n 2, 1) := by decide +kernel
theorem dX9_pass_32 : decode cX9_pass 32 = .ok (.aload_n 0, 1) := by decide +kernel
theorem dX9_pass_33 : decode cX9_pass 33 = .ok (.getfield 10, 3) := by decide +kernel
theorem dX9_pass_36 : decode cX9_pass 36 = .ok (.iload_n 1, 1) := by decide +kernel
theorem dX9_pass_37 : decode cX9_pass 37 = .ok (.invokevirtual 206, 3) := by decide +kernel
theorem dX9_pass_40 : decode cX9_pass 40 = .ok (.aload_n 0, 1) := by decide +kernel
theorem dX9_pass_41 : decode cX9_pass 41 = .ok (.getfield 10, 3) := by decide +kernel
theorem dX9_pass_44 : decode cX9_pass 44 = .ok (.getfield 37, 3) := by decide +kernel
theorem dX9_pass_47 : decode cX9_pass 47 = .ok (.getfield 200, 3) := by decide +kernel
theorem dX9_pass_50 : decode cX9_pass 50 = .ok (.invokevirtual 203, 3) := by decide +kernel
theorem dX9_pass_53 : decode cX9_pass 53 = .ok (.iload_n 2, 1) := by decide +kernel
theorem dX9_pass_54 : decode cX9_pass 54 = .ok (.isub, 1) := by decide +kernel
theorem dX9_pass_55 : decode cX9_pass 55 = .ok (.ireturn, 1) := by decide +kernel
theorem dX9_append_0 : decode cX9_append 0 = .ok (.iload_n 1, 1) := by decide +kernel
theorem dX9_append_1 : decode cX9_append 1 = .ok (.bipush 33, 2) := by decide +kernel
theorem dX9_append_3 : decode cX9_append 3 = .ok (.bipush 126, 2) := by decide +kernel
theorem dX9_append_5 : decode cX9_append 5 = .ok (.invokestatic 33, 3) := by decide +kernel
theorem dX9_append_8 : decode cX9_append 8 = .ok (.aload_n 0, 1) := by decide +kernel
theorem dX9_append_9 : decode cX9_append 9 = .ok (.getfield 29, 3) := by decide +kernel
theorem dX9_append_12 : decode cX9_append 12 = .ok (.getfield 209, 3) := by decide +kernel
theorem dX9_append_15 : decode cX9_append 15 = .ok (.bipush 60, 2) := by decide +kernel
theorem dX9_append_17 : decode cX9_append 17 = .ok (.if_icmp .lt 13, 3) := by decide +kernel
theorem dX9_append_20 : decode cX9_append 20 = .ok (.new 47, 3) := by decide +kernel
theorem dX9_append_23 : decode cX9_append 23 = .ok (.dup, 1) := by decide +kernel
theorem dX9_append_24 : decode cX9_append 24 = .ok (.ldc 212, 2) := by decide +kernel
theorem dX9_append_26 : decode cX9_append 26 = .ok (.invokespecial 51, 3) := by decide +kernel
theorem dX9_append_29 : decode cX9_append 29 = .ok (.athrow, 1) := by decide +kernel
theorem dX9_append_30 : decode cX9_append 30 = .ok (.aload_n 0, 1) := by decide +kernel
theorem dX9_append_31 : decode cX9_append 31 = .ok (.getfield 29, 3) := by decide +kernel
theorem dX9_append_34 : decode cX9_append 34 = .ok (.getfield 214, 3) := by decide +kernel
theorem dX9_append_37 : decode cX9_append 37 = .ok (.aload_n 0, 1) := by decide +kernel
theorem dX9_append_38 : decode cX9_append 38 = .ok (.getfield 29, 3) := by decide +kernel
theorem dX9_append_41 : decode cX9_append 41 = .ok (.getfield 209, 3) := by decide +kernel
theorem dX9_append_44 : decode cX9_append 44 = .ok (.iload_n 1, 1) := by decide +kernel
theorem dX9_append_45 : decode cX9_append 45 = .ok (.invokevirtual 93, 3) := by decide +kernel
theorem dX9_append_48 : decode cX9_append 48 = .ok (.aload_n 0, 1) := by decide +kernel
theorem dX9_append_49 : decode cX9_append 49 = .ok (.getfield 29, 3) := by decide +kernel
theorem dX9_append_52 : decode cX9_append 52 = .ok (.dup, 1) := by decide +kernel
theorem dX9_append_53 : decode cX9_append 53 = .ok (.getfield 209, 3) := by decide +kernel
theorem dX9_append_56 : decode cX9_append 56 = .ok (.iconst 1, 1) := by decide +kernel
theorem dX9_append_57 : decode cX9_append 57 = .ok (.iadd, 1) := by decide +kernel
theorem dX9_append_58 : decode cX9_append 58 = .ok (.putfield 209, 3) := by decide +kernel
theorem dX9_append_61 : decode cX9_append 61 = .ok (.aload_n 0, 1) := by decide +kernel
theorem dX9_append_62 : decode cX9_append 62 = .ok (.getfield 29, 3) := by decide +kernel
theorem dX9_append_65 : decode cX9_append 65 = .ok (.getfield 209, 3) := by decide +kernel
theorem dX9_append_68 : decode cX9_append 68 = .ok (.ireturn, 1) := by decide +kernel
theorem dX9_clearBuffer_0 : decode cX9_clearBuffer 0 = .ok (.aload_n 0, 1) := by decide +kernel
theorem dX9_clearBuffer_1 : decode cX9_clearBuffer 1 = .ok (.getfield 29, 3) := by decide +kernel
theorem dX9_clearBuffer_4 : decode cX9_clearBuffer 4 = .ok (.getfield 209, 3) := by decide +kernel
theorem dX9_clearBuffer_7 : decode cX9_clearBuffer 7 = .ok (.istore_n 1, 1) := by decide +kernel
theorem dX9_clearBuffer_8 : decode cX9_clearBuffer 8 = .ok (.aload_n 0, 1) := by decide +kernel
theorem dX9_clearBuffer_9 : decode cX9_clearBuffer 9 = .ok (.getfield 29, 3) := by decide +kernel
theorem dX9_clearBuffer_12 : decode cX9_clearBuffer 12 = .ok (.iconst 0, 1) := by decide +kernel
theorem dX9_clearBuffer_13 : decode cX9_clearBuffer 13 = .ok (.putfield 209, 3) := by decide +kernel
theorem dX9_clearBuffer_16 : decode cX9_clearBuffer 16 = .ok (.iload_n 1, 1) := by decide +kernel
theorem dX9_clearBuffer_17 : decode cX9_clearBuffer 17 = .ok (.ireturn, 1) := by decide +kernel
theorem dX9_firstError_0 : decode cX9_firstError 0 = .ok (.aload_n 0, 1) := by decide +kernel
theorem dX9_firstError_1 : decode cX9_firstError 1 = .ok (.getfield 29, 3) := by decide +kernel
theorem dX9_firstError_4 : decode cX9_firstError 4 = .ok (.invokevirtual 217, 3) := by decide +kernel
theorem dX9_firstError_7 : decode cX9_firstError 7 = .ok (.ireturn, 1) := by decide +kernel
theorem dX9_load_0 : decode cX9_load 0 = .ok (.aload_n 0, 1) := by decide +kernel
theorem dX9_load_1 : decode cX9_load 1 = .ok (.getfield 29, 3) := by decide +kernel
theorem dX9_load_4 : decode cX9_load 4 = .ok (.invokevirtual 217, 3) := by decide +kernel
theorem dX9_load_7 : decode cX9_load 7 = .ok (.aload_n 0, 1) := by decide +kernel
theorem dX9_load_8 : decode cX9_load 8 = .ok (.getfield 29, 3) := by decide +kernel
theorem dX9_load_11 : decode cX9_load 11 = .ok (.getfield 209, 3) := by decide +kernel
theorem dX9_load_14 : decode cX9_load 14 = .ok (.if_icmp .lt 13, 3) := by decide +kernel
theorem dX9_load_17 : decode cX9_load 17 = .ok (.aload_n 0, 1) := by decide +kernel
theorem dX9_load_18 : decode cX9_load 18 = .ok (.getfield 29, 3) := by decide +kernel
theorem dX9_load_21 : decode cX9_load 21 = .ok (.invokevirtual 220, 3) := by decide +kernel
theorem dX9_load_24 : decode cX9_load 24 = .ok (.ifCond .ne 13, 3) := by decide +kernel
theorem dX9_load_27 : decode cX9_load 27 = .ok (.new 117, 3) := by decide +kernel
theorem dX9_load_30 : decode cX9_load 30 = .ok (.dup, 1) := by decide +kernel
theorem dX9_load_31 : decode cX9_load 31 = .ok (.ldc 224, 2) := by decide +kernel
theorem dX9_load_33 : decode cX9_load 33 = .ok (.invokespecial 121, 3) := by decide +kernel
theorem dX9_load_36 : decode cX9_load 36 = .ok (.athrow, 1) := by decide +kernel
theorem dX9_load_37 : decode cX9_load 37 = .ok (.aload_n 0, 1) := by decide +kernel
theorem dX9_load_38 : decode cX9_load 38 = .ok (.getfield 29, 3) := by decide +kernel
theorem dX9_load_41 : decode cX9_load 41 = .ok (.getfield 226, 3) := by decide +kernel
theorem dX9_load_44 : decode cX9_load 44 = .ok (.aload_n 0, 1) := by decide +kernel
theorem dX9_load_45 : decode cX9_load 45 = .ok (.getfield 10, 3) := by decide +kernel
theorem dX9_load_48 : decode cX9_load 48 = .ok (.getfield 37, 3) := by decide +kernel
theorem dX9_load_51 : decode cX9_load 51 = .ok (.getfield 41, 3) := by decide +kernel
theorem dX9_load_54 : decode cX9_load 54 = .ok (.if_icmp .lt 13, 3) := by decide +kernel
theorem dX9_load_57 : decode cX9_load 57 = .ok (.new 47, 3) := by decide +kernel
theorem dX9_load_60 : decode cX9_load 60 = .ok (.dup, 1) := by decide +kernel
theorem dX9_load_61 : decode cX9_load 61 = .ok (.ldc 229, 2) := by decide +kernel
theorem dX9_load_63 : decode cX9_load 63 = .ok (.invokespecial 51, 3) := by decide +kernel
theorem dX9_load_66 : decode cX9_load 66 = .ok (.athrow, 1) := by decide +kernel
theorem dX9_load_67 : decode cX9_load 67 = .ok (.aload_n 0, 1) := by decide +kernel
theorem dX9_load_68 : decode cX9_load 68 = .ok (.getfield 22, 3) := by decide +kernel
theorem dX9_load_71 : decode cX9_load 71 = .ok (.aload_n 0, 1) := by decide +kernel
theorem dX9_load_72 : decode cX9_load 72 = .ok (.getfield 10, 3) := by decide +kernel
theorem dX9_load_75 : decode cX9_load 75 = .ok (.invokevirtual 54, 3) := by decide +kernel
theorem dX9_load_78 : decode cX9_load 78 = .ok (.aload_n 0, 1) := by decide +kernel
theorem dX9_load_79 : decode cX9_load 79 = .ok (.getfield 10, 3) := by decide +kernel
theorem dX9_load_82 : decode cX9_load 82 = .ok (.getfield 231, 3) := by decide +kernel
theorem dX9_load_85 : decode cX9_load 85 = .ok (.aload_n 0, 1) := by decide +kernel
theorem dX9_load_86 : decode cX9_load 86 = .ok (.getfield 29, 3) := by decide +kernel
theorem dX9_load_89 : decode cX9_load 89 = .ok (.getfield 235, 3) := by decide +kernel
theorem dX9_load_92 : decode cX9_load 92 = .ok (.invokevirtual 236, 3) := by decide +kernel
theorem dX9_load_95 : decode cX9_load 95 = .ok (.aload_n 0, 1) := by decide +kernel
theorem dX9_load_96 : decode cX9_load 96 = .ok (.getfield 29, 3) := by decide +kernel
theorem dX9_load_99 : decode cX9_load 99 = .ok (.iconst 0, 1) := by decide +kernel
theorem dX9_load_100 : decode cX9_load 100 = .ok (.putfield 209, 3) := by decide +kernel
theorem dX9_load_103 : decode cX9_load 103 = .ok (.aload_n 0, 1) := by decide +kernel
theorem dX9_load_104 : decode cX9_load 104 = .ok (.getfield 10, 3) := by decide +kernel
theorem dX9_load_107 : decode cX9_load 107 = .ok (.getfield 231, 3) := by decide +kernel
theorem dX9_load_110 : decode cX9_load 110 = .ok (.getfield 242, 3) := by decide +kernel
theorem dX9_load_113 : decode cX9_load 113 = .ok (.ireturn, 1) := by decide +kernel
theorem dX9_undo_0 : decode cX9_undo 0 = .ok (.aload_n 0, 1) := by decide +kernel
theorem dX9_undo_1 : decode cX9_undo 1 = .ok (.getfield 22, 3) := by decide +kernel
theorem dX9_undo_4 : decode cX9_undo 4 = .ok (.getfield 243, 3) := by decide +kernel
theorem dX9_undo_7 : decode cX9_undo 7 = .ok (.iconst 1, 1) := by decide +kernel
theorem dX9_undo_8 : decode cX9_undo 8 = .ok (.if_icmp .ge 13, 3) := by decide +kernel
theorem dX9_undo_11 : decode cX9_undo 11 = .ok (.new 47, 3) := by decide +kernel
theorem dX9_undo_14 : decode cX9_undo 14 = .ok (.dup, 1) := by decide +kernel
theorem dX9_undo_15 : decode cX9_undo 15 = .ok (.ldc 244, 2) := by decide +kernel
theorem dX9_undo_17 : decode cX9_undo 17 = .ok (.invokespecial 51, 3) := by decide +kernel
theorem dX9_undo_20 : decode cX9_undo 20 = .ok (.athrow, 1) := by decide +kernel
theorem dX9_undo_21 : decode cX9_undo 21 = .ok (.aload_n 0, 1) := by decide +kernel
theorem dX9_undo_22 : decode cX9_undo 22 = .ok (.getfield 22, 3) := by decide +kernel
theorem dX9_undo_25 : decode cX9_undo 25 = .ok (.aload_n 0, 1) := by decide +kernel
theorem dX9_undo_26 : decode cX9_undo 26 = .ok (.getfield 10, 3) := by decide +kernel
theorem dX9_undo_29 : decode cX9_undo 29 = .ok (.invokevirtual 246, 3) := by decide +kernel
theorem dX9_undo_32 : decode cX9_undo 32 = .ok (.aload_n 0, 1) := by decide +kernel
theorem dX9_undo_33 : decode cX9_undo 33 = .ok (.getfield 22, 3) := by decide +kernel
theorem dX9_undo_36 : decode cX9_undo 36 = .ok (.getfield 243, 3) := by decide +kernel
theorem dX9_undo_39 : decode cX9_undo 39 = .ok (.ireturn, 1) := by decide +kernel
theorem dX9_lot_0 : decode cX9_lot 0 = .ok (.aload_n 0, 1) := by decide +kernel
theorem dX9_lot_1 : decode cX9_lot 1 = .ok (.iload_n 1, 1) := by decide +kernel
theorem dX9_lot_2 : decode cX9_lot 2 = .ok (.invokevirtual 164, 3) := by decide +kernel
theorem dX9_lot_5 : decode cX9_lot 5 = .ok (.iload_n 2, 1) := by decide +kernel
theorem dX9_lot_6 : decode cX9_lot 6 = .ok (.tableswitch 116 0 5 #[38, 53, 68, 83, 98, 107], 38) := by decide +kernel
theorem dX9_lot_44 : decode cX9_lot 44 = .ok (.aload_n 0, 1) := by decide +kernel
theorem dX9_lot_45 : decode cX9_lot 45 = .ok (.getfield 10, 3) := by decide +kernel
theorem dX9_lot_48 : decode cX9_lot 48 = .ok (.getfield 66, 3) := by decide +kernel
theorem dX9_lot_51 : decode cX9_lot 51 = .ok (.getfield 187, 3) := by decide +kernel
theorem dX9_lot_54 : decode cX9_lot 54 = .ok (.iload_n 1, 1) := by decide +kernel
theorem dX9_lot_55 : decode cX9_lot 55 = .ok (.invokevirtual 88, 3) := by decide +kernel
theorem dX9_lot_58 : decode cX9_lot 58 = .ok (.ireturn, 1) := by decide +kernel
theorem dX9_lot_59 : decode cX9_lot 59 = .ok (.aload_n 0, 1) := by decide +kernel
theorem dX9_lot_60 : decode cX9_lot 60 = .ok (.getfield 10, 3) := by decide +kernel
theorem dX9_lot_63 : decode cX9_lot 63 = .ok (.getfield 66, 3) := by decide +kernel
theorem dX9_lot_66 : decode cX9_lot 66 = .ok (.getfield 170, 3) := by decide +kernel
theorem dX9_lot_69 : decode cX9_lot 69 = .ok (.iload_n 1, 1) := by decide +kernel
theorem dX9_lot_70 : decode cX9_lot 70 = .ok (.invokevirtual 88, 3) := by decide +kernel
theorem dX9_lot_73 : decode cX9_lot 73 = .ok (.ireturn, 1) := by decide +kernel
theorem dX9_lot_74 : decode cX9_lot 74 = .ok (.aload_n 0, 1) := by decide +kernel
theorem dX9_lot_75 : decode cX9_lot 75 = .ok (.getfield 10, 3) := by decide +kernel
theorem dX9_lot_78 : decode cX9_lot 78 = .ok (.getfield 66, 3) := by decide +kernel
theorem dX9_lot_81 : decode cX9_lot 81 = .ok (.getfield 167, 3) := by decide +kernel
theorem dX9_lot_84 : decode cX9_lot 84 = .ok (.iload_n 1, 1) := by decide +kernel
theorem dX9_lot_85 : decode cX9_lot 85 = .ok (.invokevirtual 88, 3) := by decide +kernel
theorem dX9_lot_88 : decode cX9_lot 88 = .ok (.ireturn, 1) := by decide +kernel
theorem dX9_lot_89 : decode cX9_lot 89 = .ok (.aload_n 0, 1) := by decide +kernel
theorem dX9_lot_90 : decode cX9_lot 90 = .ok (.getfield 10, 3) := by decide +kernel
theorem dX9_lot_93 : decode cX9_lot 93 = .ok (.getfield 66, 3) := by decide +kernel
theorem dX9_lot_96 : decode cX9_lot 96 = .ok (.getfield 249, 3) := by decide +kernel
theorem dX9_lot_99 : decode cX9_lot 99 = .ok (.iload_n 1, 1) := by decide +kernel
theorem dX9_lot_100 : decode cX9_lot 100 = .ok (.invokevirtual 88, 3) := by decide +kernel
theorem dX9_lot_103 : decode cX9_lot 103 = .ok (.ireturn, 1) := by decide +kernel
theorem dX9_lot_104 : decode cX9_lot 104 = .ok (.aload_n 0, 1) := by decide +kernel
theorem dX9_lot_105 : decode cX9_lot 105 = .ok (.getfield 10, 3) := by decide +kernel
theorem dX9_lot_108 : decode cX9_lot 108 = .ok (.iload_n 1, 1) := by decide +kernel
theorem dX9_lot_109 : decode cX9_lot 109 = .ok (.invokevirtual 252, 3) := by decide +kernel
theorem dX9_lot_112 : decode cX9_lot 112 = .ok (.ireturn, 1) := by decide +kernel
theorem dX9_lot_113 : decode cX9_lot 113 = .ok (.aload_n 0, 1) := by decide +kernel
theorem dX9_lot_114 : decode cX9_lot 114 = .ok (.getfield 10, 3) := by decide +kernel
theorem dX9_lot_117 : decode cX9_lot 117 = .ok (.iload_n 1, 1) := by decide +kernel
theorem dX9_lot_118 : decode cX9_lot 118 = .ok (.invokevirtual 255, 3) := by decide +kernel
theorem dX9_lot_121 : decode cX9_lot 121 = .ok (.ireturn, 1) := by decide +kernel
theorem dX9_lot_122 : decode cX9_lot 122 = .ok (.new 117, 3) := by decide +kernel
theorem dX9_lot_125 : decode cX9_lot 125 = .ok (.dup, 1) := by decide +kernel
theorem dX9_lot_126 : decode cX9_lot 126 = .ok (.ldc_w 258, 3) := by decide +kernel
theorem dX9_lot_129 : decode cX9_lot 129 = .ok (.invokespecial 121, 3) := by decide +kernel
theorem dX9_lot_132 : decode cX9_lot 132 = .ok (.athrow, 1) := by decide +kernel
theorem dX9_store_0 : decode cX9_store 0 = .ok (.iload_n 1, 1) := by decide +kernel
theorem dX9_store_1 : decode cX9_store 1 = .ok (.invokestatic 62, 3) := by decide +kernel
theorem dX9_store_4 : decode cX9_store 4 = .ok (.iload_n 2, 1) := by decide +kernel
theorem dX9_store_5 : decode cX9_store 5 = .ok (.tableswitch 85 0 3 #[31, 46, 58, 70], 31) := by decide +kernel
theorem dX9_store_36 : decode cX9_store 36 = .ok (.aload_n 0, 1) := by decide +kernel
theorem dX9_store_37 : decode cX9_store 37 = .ok (.getfield 10, 3) := by decide +kernel
theorem dX9_store_40 : decode cX9_store 40 = .ok (.getfield 78, 3) := by decide +kernel
theorem dX9_store_43 : decode cX9_store 43 = .ok (.getfield 82, 3) := by decide +kernel
theorem dX9_store_46 : decode cX9_store 46 = .ok (.iload_n 1, 1) := by decide +kernel
theorem dX9_store_47 : decode cX9_store 47 = .ok (.invokevirtual 88, 3) := by decide +kernel
theorem dX9_store_50 : decode cX9_store 50 = .ok (.ireturn, 1) := by decide +kernel
theorem dX9_store_51 : decode cX9_store 51 = .ok (.aload_n 0, 1) := by decide +kernel
theorem dX9_store_52 : decode cX9_store 52 = .ok (.getfield 10, 3) := by decide +kernel
theorem dX9_store_55 : decode cX9_store 55 = .ok (.getfield 66, 3) := by decide +kernel
theorem dX9_store_58 : decode cX9_store 58 = .ok (.iload_n 1, 1) := by decide +kernel
theorem dX9_store_59 : decode cX9_store 59 = .ok (.invokevirtual 70, 3) := by decide +kernel
theorem dX9_store_62 : decode cX9_store 62 = .ok (.ireturn, 1) := by decide +kernel
theorem dX9_store_63 : decode cX9_store 63 = .ok (.aload_n 0, 1) := by decide +kernel
theorem dX9_store_64 : decode cX9_store 64 = .ok (.getfield 10, 3) := by decide +kernel
theorem dX9_store_67 : decode cX9_store 67 = .ok (.getfield 66, 3) := by decide +kernel
theorem dX9_store_70 : decode cX9_store 70 = .ok (.iload_n 1, 1) := by decide +kernel
theorem dX9_store_71 : decode cX9_store 71 = .ok (.invokevirtual 260, 3) := by decide +kernel
theorem dX9_store_74 : decode cX9_store 74 = .ok (.ireturn, 1) := by decide +kernel
theorem dX9_store_75 : decode cX9_store 75 = .ok (.aload_n 0, 1) := by decide +kernel
theorem dX9_store_76 : decode cX9_store 76 = .ok (.getfield 10, 3) := by decide +kernel
theorem dX9_store_79 : decode cX9_store 79 = .ok (.getfield 78, 3) := by decide +kernel
theorem dX9_store_82 : decode cX9_store 82 = .ok (.getfield 106, 3) := by decide +kernel
theorem dX9_store_85 : decode cX9_store 85 = .ok (.iload_n 1, 1) := by decide +kernel
theorem dX9_store_86 : decode cX9_store 86 = .ok (.invokevirtual 88, 3) := by decide +kernel
theorem dX9_store_89 : decode cX9_store 89 = .ok (.ireturn, 1) := by decide +kernel
theorem dX9_store_90 : decode cX9_store 90 = .ok (.new 117, 3) := by decide +kernel
theorem dX9_store_93 : decode cX9_store 93 = .ok (.dup, 1) := by decide +kernel
theorem dX9_store_94 : decode cX9_store 94 = .ok (.ldc_w 263, 3) := by decide +kernel
theorem dX9_store_97 : decode cX9_store 97 = .ok (.invokespecial 121, 3) := by decide +kernel
theorem dX9_store_100 : decode cX9_store 100 = .ok (.athrow, 1) := by decide +kernel
theorem dX9_kind_0 : decode cX9_kind 0 = .ok (.aload_n 0, 1) := by decide +kernel
theorem dX9_kind_1 : decode cX9_kind 1 = .ok (.iload_n 1, 1) := by decide +kernel
theorem dX9_kind_2 : decode cX9_kind 2 = .ok (.invokevirtual 147, 3) := by decide +kernel
theorem dX9_kind_5 : decode cX9_kind 5 = .ok (.iload_n 2, 1) := by decide +kernel
theorem dX9_kind_6 : decode cX9_kind 6 = .ok (.tableswitch 166 0 9 #[54, 54, 54, 67, 82, 97, 112, 127, 139, 154], 54) := by decide +kernel
theorem dX9_kind_60 : decode cX9_kind 60 = .ok (.aload_n 0, 1) := by decide +kernel
theorem dX9_kind_61 : decode cX9_kind 61 = .ok (.getfield 10, 3) := by decide +kernel
theorem dX9_kind_64 : decode cX9_kind 64 = .ok (.getfield 37, 3) := by decide +kernel
theorem dX9_kind_67 : decode cX9_kind 67 = .ok (.iload_n 1, 1) := by decide +kernel
theorem dX9_kind_68 : decode cX9_kind 68 = .ok (.iload_n 2, 1) := by decide +kernel
theorem dX9_kind_69 : decode cX9_kind 69 = .ok (.invokevirtual 265, 3) := by decide +kernel
theorem dX9_kind_72 : decode cX9_kind 72 = .ok (.ireturn, 1) := by decide +kernel
theorem dX9_kind_73 : decode cX9_kind 73 = .ok (.aload_n 0, 1) := by decide +kernel
theorem dX9_kind_74 : decode cX9_kind 74 = .ok (.getfield 10, 3) := by decide +kernel
theorem dX9_kind_77 : decode cX9_kind 77 = .ok (.getfield 37, 3) := by decide +kernel
theorem dX9_kind_80 : decode cX9_kind 80 = .ok (.getfield 268, 3) := by decide +kernel
theorem dX9_kind_83 : decode cX9_kind 83 = .ok (.iload_n 1, 1) := by decide +kernel
theorem dX9_kind_84 : decode cX9_kind 84 = .ok (.invokevirtual 88, 3) := by decide +kernel
theorem dX9_kind_87 : decode cX9_kind 87 = .ok (.ireturn, 1) := by decide +kernel
theorem dX9_kind_88 : decode cX9_kind 88 = .ok (.aload_n 0, 1) := by decide +kernel
theorem dX9_kind_89 : decode cX9_kind 89 = .ok (.getfield 10, 3) := by decide +kernel
theorem dX9_kind_92 : decode cX9_kind 92 = .ok (.getfield 37, 3) := by decide +kernel
theorem dX9_kind_95 : decode cX9_kind 95 = .ok (.getfield 271, 3) := by decide +kernel
theorem dX9_kind_98 : decode cX9_kind 98 = .ok (.iload_n 1, 1) := by decide +kernel
theorem dX9_kind_99 : decode cX9_kind 99 = .ok (.invokevirtual 88, 3) := by decide +kernel
theorem dX9_kind_102 : decode cX9_kind 102 = .ok (.ireturn, 1) := by decide +kernel
theorem dX9_kind_103 : decode cX9_kind 103 = .ok (.aload_n 0, 1) := by decide +kernel
theorem dX9_kind_104 : decode cX9_kind 104 = .ok (.getfield 10, 3) := by decide +kernel
theorem dX9_kind_107 : decode cX9_kind 107 = .ok (.getfield 37, 3) := by decide +kernel
theorem dX9_kind_110 : decode cX9_kind 110 = .ok (.getfield 200, 3) := by decide +kernel
theorem dX9_kind_113 : decode cX9_kind 113 = .ok (.iload_n 1, 1) := by decide +kernel
theorem dX9_kind_114 : decode cX9_kind 114 = .ok (.invokevirtual 88, 3) := by decide +kernel
theorem dX9_kind_117 : decode cX9_kind 117 = .ok (.ireturn, 1) := by decide +kernel
theorem dX9_kind_118 : decode cX9_kind 118 = .ok (.aload_n 0, 1) := by decide +kernel
theorem dX9_kind_119 : decode cX9_kind 119 = .ok (.getfield 10, 3) := by decide +kernel
theorem dX9_kind_122 : decode cX9_kind 122 = .ok (.getfield 37, 3) := by decide +kernel
theorem dX9_kind_125 : decode cX9_kind 125 = .ok (.getfield 184, 3) := by decide +kernel
theorem dX9_kind_128 : decode cX9_kind 128 = .ok (.iload_n 1, 1) := by decide +kernel
theorem dX9_kind_129 : decode cX9_kind 129 = .ok (.invokevirtual 88, 3) := by decide +kernel
theorem dX9_kind_132 : decode cX9_kind 132 = .ok (.ireturn, 1) := by decide +kernel
theorem dX9_kind_133 : decode cX9_kind 133 = .ok (.aload_n 0, 1) := by decide +kernel
theorem dX9_kind_134 : decode cX9_kind 134 = .ok (.getfield 10, 3) := by decide +kernel
theorem dX9_kind_137 : decode cX9_kind 137 = .ok (.getfield 66, 3) := by decide +kernel
theorem dX9_kind_140 : decode cX9_kind 140 = .ok (.iload_n 1, 1) := by decide +kernel
theorem dX9_kind_141 : decode cX9_kind 141 = .ok (.invokevirtual 274, 3) := by decide +kernel
theorem dX9_kind_144 : decode cX9_kind 144 = .ok (.ireturn, 1) := by decide +kernel
theorem dX9_kind_145 : decode cX9_kind 145 = .ok (.aload_n 0, 1) := by decide +kernel
theorem dX9_kind_146 : decode cX9_kind 146 = .ok (.getfield 10, 3) := by decide +kernel
theorem dX9_kind_149 : decode cX9_kind 149 = .ok (.getfield 37, 3) := by decide +kernel
theorem dX9_kind_152 : decode cX9_kind 152 = .ok (.getfield 277, 3) := by decide +kernel
theorem dX9_kind_155 : decode cX9_kind 155 = .ok (.iload_n 1, 1) := by decide +kernel
theorem dX9_kind_156 : decode cX9_kind 156 = .ok (.invokevirtual 88, 3) := by decide +kernel
theorem dX9_kind_159 : decode cX9_kind 159 = .ok (.ireturn, 1) := by decide +kernel
theorem dX9_kind_160 : decode cX9_kind 160 = .ok (.aload_n 0, 1) := by decide +kernel
theorem dX9_kind_161 : decode cX9_kind 161 = .ok (.getfield 10, 3) := by decide +kernel
theorem dX9_kind_164 : decode cX9_kind 164 = .ok (.getfield 66, 3) := by decide +kernel
theorem dX9_kind_167 : decode cX9_kind 167 = .ok (.iload_n 1, 1) := by decide +kernel
theorem dX9_kind_168 : decode cX9_kind 168 = .ok (.invokevirtual 280, 3) := by decide +kernel
theorem dX9_kind_171 : decode cX9_kind 171 = .ok (.ireturn, 1) := by decide +kernel
theorem dX9_kind_172 : decode cX9_kind 172 = .ok (.new 117, 3) := by decide +kernel
theorem dX9_kind_175 : decode cX9_kind 175 = .ok (.dup, 1) := by decide +kernel
theorem dX9_kind_176 : decode cX9_kind 176 = .ok (.ldc_w 283, 3) := by decide +kernel
theorem dX9_kind_179 : decode cX9_kind 179 = .ok (.invokespecial 121, 3) := by decide +kernel
theorem dX9_kind_182 : decode cX9_kind 182 = .ok (.athrow, 1) := by decide +kernel
theorem dX9_port_0 : decode cX9_port 0 = .ok (.aload_n 0, 1) := by decide +kernel
theorem dX9_port_1 : decode cX9_port 1 = .ok (.iload_n 1, 1) := by decide +kernel
theorem dX9_port_2 : decode cX9_port 2 = .ok (.invokevirtual 138, 3) := by decide +kernel
theorem dX9_port_5 : decode cX9_port 5 = .ok (.iload_n 2, 1) := by decide +kernel
theorem dX9_port_6 : decode cX9_port 6 = .ok (.ifCond .ne 18, 3) := by decide +kernel
theorem dX9_port_9 : decode cX9_port 9 = .ok (.aload_n 0, 1) := by decide +kernel
theorem dX9_port_10 : decode cX9_port 10 = .ok (.getfield 10, 3) := by decide +kernel
theorem dX9_port_13 : decode cX9_port 13 = .ok (.getfield 122, 3) := by decide +kernel
theorem dX9_port_16 : decode cX9_port 16 = .ok (.getfield 141, 3) := by decide +kernel
theorem dX9_port_19 : decode cX9_port 19 = .ok (.iload_n 1, 1) := by decide +kernel
theorem dX9_port_20 : decode cX9_port 20 = .ok (.invokevirtual 88, 3) := by decide +kernel
theorem dX9_port_23 : decode cX9_port 23 = .ok (.ireturn, 1) := by decide +kernel
theorem dX9_port_24 : decode cX9_port 24 = .ok (.iload_n 2, 1) := by decide +kernel
theorem dX9_port_25 : decode cX9_port 25 = .ok (.iconst 1, 1) := by decide +kernel
theorem dX9_port_26 : decode cX9_port 26 = .ok (.if_icmp .ne 18, 3) := by decide +kernel
theorem dX9_port_29 : decode cX9_port 29 = .ok (.aload_n 0, 1) := by decide +kernel
theorem dX9_port_30 : decode cX9_port 30 = .ok (.getfield 10, 3) := by decide +kernel
theorem dX9_port_33 : decode cX9_port 33 = .ok (.getfield 122, 3) := by decide +kernel
theorem dX9_port_36 : decode cX9_port 36 = .ok (.getfield 285, 3) := by decide +kernel
theorem dX9_port_39 : decode cX9_port 39 = .ok (.iload_n 1, 1) := by decide +kernel
theorem dX9_port_40 : decode cX9_port 40 = .ok (.invokevirtual 88, 3) := by decide +kernel
theorem dX9_port_43 : decode cX9_port 43 = .ok (.ireturn, 1) := by decide +kernel
theorem dX9_port_44 : decode cX9_port 44 = .ok (.iload_n 2, 1) := by decide +kernel
theorem dX9_port_45 : decode cX9_port 45 = .ok (.bipush 10, 2) := by decide +kernel
theorem dX9_port_47 : decode cX9_port 47 = .ok (.bipush 10, 2) := by decide +kernel
theorem dX9_port_49 : decode cX9_port 49 = .ok (.aload_n 0, 1) := by decide +kernel
theorem dX9_port_50 : decode cX9_port 50 = .ok (.getfield 10, 3) := by decide +kernel
theorem dX9_port_53 : decode cX9_port 53 = .ok (.getfield 37, 3) := by decide +kernel
theorem dX9_port_56 : decode cX9_port 56 = .ok (.getfield 41, 3) := by decide +kernel
theorem dX9_port_59 : decode cX9_port 59 = .ok (.iadd, 1) := by decide +kernel
theorem dX9_port_60 : decode cX9_port 60 = .ok (.iconst 1, 1) := by decide +kernel
theorem dX9_port_61 : decode cX9_port 61 = .ok (.isub, 1) := by decide +kernel
theorem dX9_port_62 : decode cX9_port 62 = .ok (.invokestatic 33, 3) := by decide +kernel
theorem dX9_port_65 : decode cX9_port 65 = .ok (.aload_n 0, 1) := by decide +kernel
theorem dX9_port_66 : decode cX9_port 66 = .ok (.getfield 10, 3) := by decide +kernel
theorem dX9_port_69 : decode cX9_port 69 = .ok (.getfield 122, 3) := by decide +kernel
theorem dX9_port_72 : decode cX9_port 72 = .ok (.iload_n 1, 1) := by decide +kernel
theorem dX9_port_73 : decode cX9_port 73 = .ok (.iload_n 2, 1) := by decide +kernel
theorem dX9_port_74 : decode cX9_port 74 = .ok (.bipush 10, 2) := by decide +kernel
theorem dX9_port_76 : decode cX9_port 76 = .ok (.isub, 1) := by decide +kernel
theorem dX9_port_77 : decode cX9_port 77 = .ok (.invokevirtual 150, 3) := by decide +kernel
theorem dX9_port_80 : decode cX9_port 80 = .ok (.ireturn, 1) := by decide +kernel
theorem dX9_menu_0 : decode cX9_menu 0 = .ok (.iload_n 1, 1) := by decide +kernel
theorem dX9_menu_1 : decode cX9_menu 1 = .ok (.iconst 0, 1) := by decide +kernel
theorem dX9_menu_2 : decode cX9_menu 2 = .ok (.aload_n 0, 1) := by decide +kernel
theorem dX9_menu_3 : decode cX9_menu 3 = .ok (.getfield 10, 3) := by decide +kernel
theorem dX9_menu_6 : decode cX9_menu 6 = .ok (.getfield 231, 3) := by decide +kernel
theorem dX9_menu_9 : decode cX9_menu 9 = .ok (.getfield 242, 3) := by decide +kernel
theorem dX9_menu_12 : decode cX9_menu 12 = .ok (.iconst 1, 1) := by decide +kernel
theorem dX9_menu_13 : decode cX9_menu 13 = .ok (.isub, 1) := by decide +kernel
theorem dX9_menu_14 : decode cX9_menu 14 = .ok (.invokestatic 97, 3) := by decide +kernel
theorem dX9_menu_17 : decode cX9_menu 17 = .ok (.ifCond .eq 12, 3) := by decide +kernel
theorem dX9_menu_20 : decode cX9_menu 20 = .ok (.iload_n 2, 1) := by decide +kernel
theorem dX9_menu_21 : decode cX9_menu 21 = .ok (.iconst 0, 1) := by decide +kernel
theorem dX9_menu_22 : decode cX9_menu 22 = .ok (.iconst 3, 1) := by decide +kernel
theorem dX9_menu_23 : decode cX9_menu 23 = .ok (.invokestatic 97, 3) := by decide +kernel
theorem dX9_menu_26 : decode cX9_menu 26 = .ok (.ifCond .ne 14, 3) := by decide +kernel
theorem dX9_menu_29 : decode cX9_menu 29 = .ok (.new 101, 3) := by decide +kernel
theorem dX9_menu_32 : decode cX9_menu 32 = .ok (.dup, 1) := by decide +kernel
theorem dX9_menu_33 : decode cX9_menu 33 = .ok (.ldc_w 288, 3) := by decide +kernel
theorem dX9_menu_36 : decode cX9_menu 36 = .ok (.invokespecial 105, 3) := by decide +kernel
theorem dX9_menu_39 : decode cX9_menu 39 = .ok (.athrow, 1) := by decide +kernel
theorem dX9_menu_40 : decode cX9_menu 40 = .ok (.aload_n 0, 1) := by decide +kernel
theorem dX9_menu_41 : decode cX9_menu 41 = .ok (.getfield 10, 3) := by decide +kernel
theorem dX9_menu_44 : decode cX9_menu 44 = .ok (.getfield 231, 3) := by decide +kernel
theorem dX9_menu_47 : decode cX9_menu 47 = .ok (.iload_n 1, 1) := by decide +kernel
theorem dX9_menu_48 : decode cX9_menu 48 = .ok (.iload_n 2, 1) := by decide +kernel
theorem dX9_menu_49 : decode cX9_menu 49 = .ok (.invokevirtual 290, 3) := by decide +kernel
theorem dX9_menu_52 : decode cX9_menu 52 = .ok (.istore 4, 2) := by decide +kernel
theorem dX9_menu_54 : decode cX9_menu 54 = .ok (.iload_n 3, 1) := by decide +kernel
theorem dX9_menu_55 : decode cX9_menu 55 = .ok (.tableswitch 130 0 2 #[25, 60, 95], 25) := by decide +kernel
theorem dX9_menu_80 : decode cX9_menu 80 = .ok (.aload_n 0, 1) := by decide +kernel
theorem dX9_menu_81 : decode cX9_menu 81 = .ok (.getfield 10, 3) := by decide +kernel
theorem dX9_menu_84 : decode cX9_menu 84 = .ok (.getfield 231, 3) := by decide +kernel
theorem dX9_menu_87 : decode cX9_menu 87 = .ok (.iload 4, 2) := by decide +kernel
theorem dX9_menu_89 : decode cX9_menu 89 = .ok (.invokevirtual 293, 3) := by decide +kernel
theorem dX9_menu_92 : decode cX9_menu 92 = .ok (.ifCond .eq 21, 3) := by decide +kernel
theorem dX9_menu_95 : decode cX9_menu 95 = .ok (.aload_n 0, 1) := by decide +kernel
theorem dX9_menu_96 : decode cX9_menu 96 = .ok (.getfield 10, 3) := by decide +kernel
theorem dX9_menu_99 : decode cX9_menu 99 = .ok (.getfield 231, 3) := by decide +kernel
theorem dX9_menu_102 : decode cX9_menu 102 = .ok (.getfield 297, 3) := by decide +kernel
theorem dX9_menu_105 : decode cX9_menu 105 = .ok (.iload 4, 2) := by decide +kernel
theorem dX9_menu_107 : decode cX9_menu 107 = .ok (.invokevirtual 88, 3) := by decide +kernel
theorem dX9_menu_110 : decode cX9_menu 110 = .ok (.goto 4, 3) := by decide +kernel
theorem dX9_menu_113 : decode cX9_menu 113 = .ok (.iconst (-1), 1) := by decide +kernel
theorem dX9_menu_114 : decode cX9_menu 114 = .ok (.ireturn, 1) := by decide +kernel
theorem dX9_menu_115 : decode cX9_menu 115 = .ok (.aload_n 0, 1) := by decide +kernel
theorem dX9_menu_116 : decode cX9_menu 116 = .ok (.getfield 10, 3) := by decide +kernel
theorem dX9_menu_119 : decode cX9_menu 119 = .ok (.getfield 231, 3) := by decide +kernel
theorem dX9_menu_122 : decode cX9_menu 122 = .ok (.iload 4, 2) := by decide +kernel
theorem dX9_menu_124 : decode cX9_menu 124 = .ok (.invokevirtual 293, 3) := by decide +kernel
theorem dX9_menu_127 : decode cX9_menu 127 = .ok (.ifCond .eq 21, 3) := by decide +kernel
theorem dX9_menu_130 : decode cX9_menu 130 = .ok (.aload_n 0, 1) := by decide +kernel
theorem dX9_menu_131 : decode cX9_menu 131 = .ok (.getfield 10, 3) := by decide +kernel
theorem dX9_menu_134 : decode cX9_menu 134 = .ok (.getfield 231, 3) := by decide +kernel
theorem dX9_menu_137 : decode cX9_menu 137 = .ok (.getfield 298, 3) := by decide +kernel
theorem dX9_menu_140 : decode cX9_menu 140 = .ok (.iload 4, 2) := by decide +kernel
theorem dX9_menu_142 : decode cX9_menu 142 = .ok (.invokevirtual 88, 3) := by decide +kernel
theorem dX9_menu_145 : decode cX9_menu 145 = .ok (.goto 4, 3) := by decide +kernel
theorem dX9_menu_148 : decode cX9_menu 148 = .ok (.iconst (-1), 1) := by decide +kernel
theorem dX9_menu_149 : decode cX9_menu 149 = .ok (.ireturn, 1) := by decide +kernel
theorem dX9_menu_150 : decode cX9_menu 150 = .ok (.aload_n 0, 1) := by decide +kernel
theorem dX9_menu_151 : decode cX9_menu 151 = .ok (.getfield 10, 3) := by decide +kernel
theorem dX9_menu_154 : decode cX9_menu 154 = .ok (.getfield 231, 3) := by decide +kernel
theorem dX9_menu_157 : decode cX9_menu 157 = .ok (.iload 4, 2) := by decide +kernel
theorem dX9_menu_159 : decode cX9_menu 159 = .ok (.invokevirtual 293, 3) := by decide +kernel
theorem dX9_menu_162 : decode cX9_menu 162 = .ok (.ifCond .eq 21, 3) := by decide +kernel
theorem dX9_menu_165 : decode cX9_menu 165 = .ok (.aload_n 0, 1) := by decide +kernel
theorem dX9_menu_166 : decode cX9_menu 166 = .ok (.getfield 10, 3) := by decide +kernel
theorem dX9_menu_169 : decode cX9_menu 169 = .ok (.getfield 231, 3) := by decide +kernel
theorem dX9_menu_172 : decode cX9_menu 172 = .ok (.getfield 299, 3) := by decide +kernel
theorem dX9_menu_175 : decode cX9_menu 175 = .ok (.iload 4, 2) := by decide +kernel
theorem dX9_menu_177 : decode cX9_menu 177 = .ok (.invokevirtual 88, 3) := by decide +kernel
theorem dX9_menu_180 : decode cX9_menu 180 = .ok (.goto 4, 3) := by decide +kernel
theorem dX9_menu_183 : decode cX9_menu 183 = .ok (.iconst (-1), 1) := by decide +kernel
theorem dX9_menu_184 : decode cX9_menu 184 = .ok (.ireturn, 1) := by decide +kernel
theorem dX9_menu_185 : decode cX9_menu 185 = .ok (.new 117, 3) := by decide +kernel
theorem dX9_menu_188 : decode cX9_menu 188 = .ok (.dup, 1) := by decide +kernel
theorem dX9_menu_189 : decode cX9_menu 189 = .ok (.ldc_w 302, 3) := by decide +kernel
theorem dX9_menu_192 : decode cX9_menu 192 = .ok (.invokespecial 121, 3) := by decide +kernel
theorem dX9_menu_195 : decode cX9_menu 195 = .ok (.athrow, 1) := by decide +kernel
theorem dX9_count_0 : decode cX9_count 0 = .ok (.iload_n 1, 1) := by decide +kernel
theorem dX9_count_1 : decode cX9_count 1 = .ok (.tableswitch 206 0 12 #[67, 75, 86, 97, 108, 119, 127, 135, 143, 151, 159, 177, 195], 67) := by decide +kernel
theorem dX9_count_68 : decode cX9_count 68 = .ok (.aload_n 0, 1) := by decide +kernel
theorem dX9_count_69 : decode cX9_count 69 = .ok (.getfield 10, 3) := by decide +kernel
theorem dX9_count_72 : decode cX9_count 72 = .ok (.getfield 304, 3) := by decide +kernel
theorem dX9_count_75 : decode cX9_count 75 = .ok (.ireturn, 1) := by decide +kernel
theorem dX9_count_76 : decode cX9_count 76 = .ok (.aload_n 0, 1) := by decide +kernel
theorem dX9_count_77 : decode cX9_count 77 = .ok (.getfield 10, 3) := by decide +kernel
theorem dX9_count_80 : decode cX9_count 80 = .ok (.getfield 37, 3) := by decide +kernel
theorem dX9_count_83 : decode cX9_count 83 = .ok (.getfield 41, 3) := by decide +kernel
theorem dX9_count_86 : decode cX9_count 86 = .ok (.ireturn, 1) := by decide +kernel
theorem dX9_count_87 : decode cX9_count 87 = .ok (.aload_n 0, 1) := by decide +kernel
theorem dX9_count_88 : decode cX9_count 88 = .ok (.getfield 10, 3) := by decide +kernel
theorem dX9_count_91 : decode cX9_count 91 = .ok (.getfield 66, 3) := by decide +kernel
theorem dX9_count_94 : decode cX9_count 94 = .ok (.getfield 178, 3) := by decide +kernel
theorem dX9_count_97 : decode cX9_count 97 = .ok (.ireturn, 1) := by decide +kernel
theorem dX9_count_98 : decode cX9_count 98 = .ok (.aload_n 0, 1) := by decide +kernel
theorem dX9_count_99 : decode cX9_count 99 = .ok (.getfield 10, 3) := by decide +kernel
theorem dX9_count_102 : decode cX9_count 102 = .ok (.getfield 122, 3) := by decide +kernel
theorem dX9_count_105 : decode cX9_count 105 = .ok (.getfield 126, 3) := by decide +kernel
theorem dX9_count_108 : decode cX9_count 108 = .ok (.ireturn, 1) := by decide +kernel
theorem dX9_count_109 : decode cX9_count 109 = .ok (.aload_n 0, 1) := by decide +kernel
theorem dX9_count_110 : decode cX9_count 110 = .ok (.getfield 10, 3) := by decide +kernel
theorem dX9_count_113 : decode cX9_count 113 = .ok (.getfield 231, 3) := by decide +kernel
theorem dX9_count_116 : decode cX9_count 116 = .ok (.getfield 242, 3) := by decide +kernel
theorem dX9_count_119 : decode cX9_count 119 = .ok (.ireturn, 1) := by decide +kernel
theorem dX9_count_120 : decode cX9_count 120 = .ok (.aload_n 0, 1) := by decide +kernel
theorem dX9_count_121 : decode cX9_count 121 = .ok (.getfield 10, 3) := by decide +kernel
theorem dX9_count_124 : decode cX9_count 124 = .ok (.getfield 109, 3) := by decide +kernel
theorem dX9_count_127 : decode cX9_count 127 = .ok (.ireturn, 1) := by decide +kernel
theorem dX9_count_128 : decode cX9_count 128 = .ok (.aload_n 0, 1) := by decide +kernel
theorem dX9_count_129 : decode cX9_count 129 = .ok (.getfield 10, 3) := by decide +kernel
theorem dX9_count_132 : decode cX9_count 132 = .ok (.getfield 112, 3) := by decide +kernel
theorem dX9_count_135 : decode cX9_count 135 = .ok (.ireturn, 1) := by decide +kernel
theorem dX9_count_136 : decode cX9_count 136 = .ok (.aload_n 0, 1) := by decide +kernel
theorem dX9_count_137 : decode cX9_count 137 = .ok (.getfield 10, 3) := by decide +kernel
theorem dX9_count_140 : decode cX9_count 140 = .ok (.getfield 306, 3) := by decide +kernel
theorem dX9_count_143 : decode cX9_count 143 = .ok (.ireturn, 1) := by decide +kernel
theorem dX9_count_144 : decode cX9_count 144 = .ok (.aload_n 0, 1) := by decide +kernel
theorem dX9_count_145 : decode cX9_count 145 = .ok (.getfield 10, 3) := by decide +kernel
theorem dX9_count_148 : decode cX9_count 148 = .ok (.getfield 309, 3) := by decide +kernel
theorem dX9_count_151 : decode cX9_count 151 = .ok (.ireturn, 1) := by decide +kernel
theorem dX9_count_152 : decode cX9_count 152 = .ok (.aload_n 0, 1) := by decide +kernel
theorem dX9_count_153 : decode cX9_count 153 = .ok (.getfield 22, 3) := by decide +kernel
theorem dX9_count_156 : decode cX9_count 156 = .ok (.getfield 243, 3) := by decide +kernel
theorem dX9_count_159 : decode cX9_count 159 = .ok (.ireturn, 1) := by decide +kernel
theorem dX9_count_160 : decode cX9_count 160 = .ok (.aload_n 0, 1) := by decide +kernel
theorem dX9_count_161 : decode cX9_count 161 = .ok (.getfield 10, 3) := by decide +kernel
theorem dX9_count_164 : decode cX9_count 164 = .ok (.getfield 122, 3) := by decide +kernel
theorem dX9_count_167 : decode cX9_count 167 = .ok (.aload_n 0, 1) := by decide +kernel
theorem dX9_count_168 : decode cX9_count 168 = .ok (.getfield 10, 3) := by decide +kernel
theorem dX9_count_171 : decode cX9_count 171 = .ok (.getfield 304, 3) := by decide +kernel
theorem dX9_count_174 : decode cX9_count 174 = .ok (.invokevirtual 129, 3) := by decide +kernel
theorem dX9_count_177 : decode cX9_count 177 = .ok (.ireturn, 1) := by decide +kernel
theorem dX9_count_178 : decode cX9_count 178 = .ok (.aload_n 0, 1) := by decide +kernel
theorem dX9_count_179 : decode cX9_count 179 = .ok (.getfield 10, 3) := by decide +kernel
theorem dX9_count_182 : decode cX9_count 182 = .ok (.getfield 122, 3) := by decide +kernel
theorem dX9_count_185 : decode cX9_count 185 = .ok (.aload_n 0, 1) := by decide +kernel
theorem dX9_count_186 : decode cX9_count 186 = .ok (.getfield 10, 3) := by decide +kernel
theorem dX9_count_189 : decode cX9_count 189 = .ok (.getfield 304, 3) := by decide +kernel
theorem dX9_count_192 : decode cX9_count 192 = .ok (.invokevirtual 312, 3) := by decide +kernel
theorem dX9_count_195 : decode cX9_count 195 = .ok (.ireturn, 1) := by decide +kernel
theorem dX9_count_196 : decode cX9_count 196 = .ok (.aload_n 0, 1) := by decide +kernel
theorem dX9_count_197 : decode cX9_count 197 = .ok (.getfield 10, 3) := by decide +kernel
theorem dX9_count_200 : decode cX9_count 200 = .ok (.getfield 66, 3) := by decide +kernel
theorem dX9_count_203 : decode cX9_count 203 = .ok (.invokevirtual 196, 3) := by decide +kernel
theorem dX9_count_206 : decode cX9_count 206 = .ok (.ireturn, 1) := by decide +kernel
theorem dX9_count_207 : decode cX9_count 207 = .ok (.new 117, 3) := by decide +kernel
theorem dX9_count_210 : decode cX9_count 210 = .ok (.dup, 1) := by decide +kernel
theorem dX9_count_211 : decode cX9_count 211 = .ok (.ldc_w 315, 3) := by decide +kernel
theorem dX9_count_214 : decode cX9_count 214 = .ok (.invokespecial 121, 3) := by decide +kernel
theorem dX9_count_217 : decode cX9_count 217 = .ok (.athrow, 1) := by decide +kernel
theorem dX9_why_0 : decode cX9_why 0 = .ok (.aload_n 0, 1) := by decide +kernel
theorem dX9_why_1 : decode cX9_why 1 = .ok (.iload_n 1, 1) := by decide +kernel
theorem dX9_why_2 : decode cX9_why 2 = .ok (.invokevirtual 147, 3) := by decide +kernel
theorem dX9_why_5 : decode cX9_why 5 = .ok (.iload_n 3, 1) := by decide +kernel
theorem dX9_why_6 : decode cX9_why 6 = .ok (.invokestatic 62, 3) := by decide +kernel
theorem dX9_why_9 : decode cX9_why 9 = .ok (.iload_n 2, 1) := by decide +kernel
theorem dX9_why_10 : decode cX9_why 10 = .ok (.iconst 1, 1) := by decide +kernel
theorem dX9_why_11 : decode cX9_why 11 = .ok (.sipush 2000, 3) := by decide +kernel
theorem dX9_why_14 : decode cX9_why 14 = .ok (.invokestatic 33, 3) := by decide +kernel
theorem dX9_why_17 : decode cX9_why 17 = .ok (.aload_n 0, 1) := by decide +kernel
theorem dX9_why_18 : decode cX9_why 18 = .ok (.getfield 10, 3) := by decide +kernel
theorem dX9_why_21 : decode cX9_why 21 = .ok (.iload_n 1, 1) := by decide +kernel
theorem dX9_why_22 : decode cX9_why 22 = .ok (.iload_n 2, 1) := by decide +kernel
theorem dX9_why_23 : decode cX9_why 23 = .ok (.iload_n 3, 1) := by decide +kernel
theorem dX9_why_24 : decode cX9_why 24 = .ok (.invokevirtual 156, 3) := by decide +kernel
theorem dX9_why_27 : decode cX9_why 27 = .ok (.ireturn, 1) := by decide +kernel
theorem dX9_ifPass_0 : decode cX9_ifPass 0 = .ok (.iload_n 1, 1) := by decide +kernel
theorem dX9_ifPass_1 : decode cX9_ifPass 1 = .ok (.iconst 1, 1) := by decide +kernel
theorem dX9_ifPass_2 : decode cX9_ifPass 2 = .ok (.bipush 60, 2) := by decide +kernel
theorem dX9_ifPass_4 : decode cX9_ifPass 4 = .ok (.invokestatic 33, 3) := by decide +kernel
theorem dX9_ifPass_7 : decode cX9_ifPass 7 = .ok (.iload_n 2, 1) := by decide +kernel
theorem dX9_ifPass_8 : decode cX9_ifPass 8 = .ok (.iconst 0, 1) := by decide +kernel
theorem dX9_ifPass_9 : decode cX9_ifPass 9 = .ok (.iconst 4, 1) := by decide +kernel
theorem dX9_ifPass_10 : decode cX9_ifPass 10 = .ok (.invokestatic 33, 3) := by decide +kernel
theorem dX9_ifPass_13 : decode cX9_ifPass 13 = .ok (.aload_n 0, 1) := by decide +kernel
theorem dX9_ifPass_14 : decode cX9_ifPass 14 = .ok (.getfield 16, 3) := by decide +kernel
theorem dX9_ifPass_17 : decode cX9_ifPass 17 = .ok (.aload_n 0, 1) := by decide +kernel
theorem dX9_ifPass_18 : decode cX9_ifPass 18 = .ok (.getfield 10, 3) := by decide +kernel
theorem dX9_ifPass_21 : decode cX9_ifPass 21 = .ok (.invokevirtual 317, 3) := by decide +kernel
theorem dX9_ifPass_24 : decode cX9_ifPass 24 = .ok (.aload_n 0, 1) := by decide +kernel
theorem dX9_ifPass_25 : decode cX9_ifPass 25 = .ok (.getfield 16, 3) := by decide +kernel
theorem dX9_ifPass_28 : decode cX9_ifPass 28 = .ok (.iload_n 1, 1) := by decide +kernel
theorem dX9_ifPass_29 : decode cX9_ifPass 29 = .ok (.invokevirtual 206, 3) := by decide +kernel
theorem dX9_ifPass_32 : decode cX9_ifPass 32 = .ok (.aload_n 0, 1) := by decide +kernel
theorem dX9_ifPass_33 : decode cX9_ifPass 33 = .ok (.iload_n 2, 1) := by decide +kernel
theorem dX9_ifPass_34 : decode cX9_ifPass 34 = .ok (.invokevirtual 319, 3) := by decide +kernel
theorem dX9_ifPass_37 : decode cX9_ifPass 37 = .ok (.ireturn, 1) := by decide +kernel
theorem dX9_spoils_0 : decode cX9_spoils 0 = .ok (.aload_n 0, 1) := by decide +kernel
theorem dX9_spoils_1 : decode cX9_spoils 1 = .ok (.iload_n 1, 1) := by decide +kernel
theorem dX9_spoils_2 : decode cX9_spoils 2 = .ok (.invokevirtual 147, 3) := by decide +kernel
theorem dX9_spoils_5 : decode cX9_spoils 5 = .ok (.iload_n 2, 1) := by decide +kernel
theorem dX9_spoils_6 : decode cX9_spoils 6 = .ok (.iconst 1, 1) := by decide +kernel
theorem dX9_spoils_7 : decode cX9_spoils 7 = .ok (.bipush 60, 2) := by decide +kernel
theorem dX9_spoils_9 : decode cX9_spoils 9 = .ok (.invokestatic 33, 3) := by decide +kernel
theorem dX9_spoils_12 : decode cX9_spoils 12 = .ok (.aload_n 0, 1) := by decide +kernel
theorem dX9_spoils_13 : decode cX9_spoils 13 = .ok (.getfield 16, 3) := by decide +kernel
theorem dX9_spoils_16 : decode cX9_spoils 16 = .ok (.aload_n 0, 1) := by decide +kernel
theorem dX9_spoils_17 : decode cX9_spoils 17 = .ok (.getfield 10, 3) := by decide +kernel
theorem dX9_spoils_20 : decode cX9_spoils 20 = .ok (.invokevirtual 317, 3) := by decide +kernel
theorem dX9_spoils_23 : decode cX9_spoils 23 = .ok (.aload_n 0, 1) := by decide +kernel
theorem dX9_spoils_24 : decode cX9_spoils 24 = .ok (.getfield 16, 3) := by decide +kernel
theorem dX9_spoils_27 : decode cX9_spoils 27 = .ok (.iload_n 2, 1) := by decide +kernel
theorem dX9_spoils_28 : decode cX9_spoils 28 = .ok (.invokevirtual 206, 3) := by decide +kernel
theorem dX9_spoils_31 : decode cX9_spoils 31 = .ok (.aload_n 0, 1) := by decide +kernel
theorem dX9_spoils_32 : decode cX9_spoils 32 = .ok (.getfield 16, 3) := by decide +kernel
theorem dX9_spoils_35 : decode cX9_spoils 35 = .ok (.getfield 37, 3) := by decide +kernel
theorem dX9_spoils_38 : decode cX9_spoils 38 = .ok (.getfield 200, 3) := by decide +kernel
theorem dX9_spoils_41 : decode cX9_spoils 41 = .ok (.iload_n 1, 1) := by decide +kernel
theorem dX9_spoils_42 : decode cX9_spoils 42 = .ok (.invokevirtual 88, 3) := by decide +kernel
theorem dX9_spoils_45 : decode cX9_spoils 45 = .ok (.aload_n 0, 1) := by decide +kernel
theorem dX9_spoils_46 : decode cX9_spoils 46 = .ok (.getfield 10, 3) := by decide +kernel
theorem dX9_spoils_49 : decode cX9_spoils 49 = .ok (.getfield 37, 3) := by decide +kernel
theorem dX9_spoils_52 : decode cX9_spoils 52 = .ok (.getfield 200, 3) := by decide +kernel
theorem dX9_spoils_55 : decode cX9_spoils 55 = .ok (.iload_n 1, 1) := by decide +kernel
theorem dX9_spoils_56 : decode cX9_spoils 56 = .ok (.invokevirtual 88, 3) := by decide +kernel
theorem dX9_spoils_59 : decode cX9_spoils 59 = .ok (.isub, 1) := by decide +kernel
theorem dX9_spoils_60 : decode cX9_spoils 60 = .ok (.ireturn, 1) := by decide +kernel
theorem dX9_shortIn_0 : decode cX9_shortIn 0 = .ok (.aload_n 0, 1) := by decide +kernel
theorem dX9_shortIn_1 : decode cX9_shortIn 1 = .ok (.iload_n 1, 1) := by decide +kernel
theorem dX9_shortIn_2 : decode cX9_shortIn 2 = .ok (.invokevirtual 147, 3) := by decide +kernel
theorem dX9_shortIn_5 : decode cX9_shortIn 5 = .ok (.aload_n 0, 1) := by decide +kernel
theorem dX9_shortIn_6 : decode cX9_shortIn 6 = .ok (.getfield 16, 3) := by decide +kernel
theorem dX9_shortIn_9 : decode cX9_shortIn 9 = .ok (.aload_n 0, 1) := by decide +kernel
theorem dX9_shortIn_10 : decode cX9_shortIn 10 = .ok (.getfield 10, 3) := by decide +kernel
theorem dX9_shortIn_13 : decode cX9_shortIn 13 = .ok (.invokevirtual 317, 3) := by decide +kernel
theorem dX9_shortIn_16 : decode cX9_shortIn 16 = .ok (.aload_n 0, 1) := by decide +kernel
theorem dX9_shortIn_17 : decode cX9_shortIn 17 = .ok (.getfield 16, 3) := by decide +kernel
theorem dX9_shortIn_20 : decode cX9_shortIn 20 = .ok (.iload_n 1, 1) := by decide +kernel
theorem dX9_shortIn_21 : decode cX9_shortIn 21 = .ok (.bipush 60, 2) := by decide +kernel
theorem dX9_shortIn_23 : decode cX9_shortIn 23 = .ok (.invokevirtual 322, 3) := by decide +kernel
theorem dX9_shortIn_26 : decode cX9_shortIn 26 = .ok (.ireturn, 1) := by decide +kernel
theorem dX9_bestStore_0 : decode cX9_bestStore 0 = .ok (.aload_n 0, 1) := by decide +kernel
theorem dX9_bestStore_1 : decode cX9_bestStore 1 = .ok (.iload_n 1, 1) := by decide +kernel
theorem dX9_bestStore_2 : decode cX9_bestStore 2 = .ok (.invokevirtual 147, 3) := by decide +kernel
theorem dX9_bestStore_5 : decode cX9_bestStore 5 = .ok (.iconst (-1), 1) := by decide +kernel
theorem dX9_bestStore_6 : decode cX9_bestStore 6 = .ok (.istore_n 2, 1) := by decide +kernel
theorem dX9_bestStore_7 : decode cX9_bestStore 7 = .ok (.iconst 0, 1) := by decide +kernel
theorem dX9_bestStore_8 : decode cX9_bestStore 8 = .ok (.istore_n 3, 1) := by decide +kernel
theorem dX9_bestStore_9 : decode cX9_bestStore 9 = .ok (.iconst 0, 1) := by decide +kernel
theorem dX9_bestStore_10 : decode cX9_bestStore 10 = .ok (.istore 4, 2) := by decide +kernel
theorem dX9_bestStore_12 : decode cX9_bestStore 12 = .ok (.iload 4, 2) := by decide +kernel
theorem dX9_bestStore_14 : decode cX9_bestStore 14 = .ok (.iconst 3, 1) := by decide +kernel
theorem dX9_bestStore_15 : decode cX9_bestStore 15 = .ok (.if_icmp .ge 33, 3) := by decide +kernel
theorem dX9_bestStore_18 : decode cX9_bestStore 18 = .ok (.aload_n 0, 1) := by decide +kernel
theorem dX9_bestStore_19 : decode cX9_bestStore 19 = .ok (.getfield 10, 3) := by decide +kernel
theorem dX9_bestStore_22 : decode cX9_bestStore 22 = .ok (.iload_n 1, 1) := by decide +kernel
theorem dX9_bestStore_23 : decode cX9_bestStore 23 = .ok (.iload 4, 2) := by decide +kernel
theorem dX9_bestStore_25 : decode cX9_bestStore 25 = .ok (.invokevirtual 325, 3) := by decide +kernel
theorem dX9_bestStore_28 : decode cX9_bestStore 28 = .ok (.istore 5, 2) := by decide +kernel
theorem dX9_bestStore_30 : decode cX9_bestStore 30 = .ok (.iload 5, 2) := by decide +kernel
theorem dX9_bestStore_32 : decode cX9_bestStore 32 = .ok (.iload_n 3, 1) := by decide +kernel
theorem dX9_bestStore_33 : decode cX9_bestStore 33 = .ok (.if_icmp .le 9, 3) := by decide +kernel
theorem dX9_bestStore_36 : decode cX9_bestStore 36 = .ok (.iload 4, 2) := by decide +kernel
theorem dX9_bestStore_38 : decode cX9_bestStore 38 = .ok (.istore_n 2, 1) := by decide +kernel
theorem dX9_bestStore_39 : decode cX9_bestStore 39 = .ok (.iload 5, 2) := by decide +kernel
theorem dX9_bestStore_41 : decode cX9_bestStore 41 = .ok (.istore_n 3, 1) := by decide +kernel
theorem dX9_bestStore_42 : decode cX9_bestStore 42 = .ok (.iinc 4 1, 3) := by decide +kernel
theorem dX9_bestStore_45 : decode cX9_bestStore 45 = .ok (.goto (-33), 3) := by decide +kernel
theorem dX9_bestStore_48 : decode cX9_bestStore 48 = .ok (.iload_n 2, 1) := by decide +kernel
theorem dX9_bestStore_49 : decode cX9_bestStore 49 = .ok (.ireturn, 1) := by decide +kernel
theorem dX9_leastPurchase_0 : decode cX9_leastPurchase 0 = .ok (.aload_n 0, 1) := by decide +kernel
theorem dX9_leastPurchase_1 : decode cX9_leastPurchase 1 = .ok (.iload_n 1, 1) := by decide +kernel
theorem dX9_leastPurchase_2 : decode cX9_leastPurchase 2 = .ok (.invokevirtual 147, 3) := by decide +kernel
theorem dX9_leastPurchase_5 : decode cX9_leastPurchase 5 = .ok (.iload_n 2, 1) := by decide +kernel
theorem dX9_leastPurchase_6 : decode cX9_leastPurchase 6 = .ok (.invokestatic 62, 3) := by decide +kernel
theorem dX9_leastPurchase_9 : decode cX9_leastPurchase 9 = .ok (.aload_n 0, 1) := by decide +kernel
theorem dX9_leastPurchase_10 : decode cX9_leastPurchase 10 = .ok (.getfield 10, 3) := by decide +kernel
theorem dX9_leastPurchase_13 : decode cX9_leastPurchase 13 = .ok (.invokevirtual 328, 3) := by decide +kernel
theorem dX9_leastPurchase_16 : decode cX9_leastPurchase 16 = .ok (.istore_n 3, 1) := by decide +kernel
theorem dX9_leastPurchase_17 : decode cX9_leastPurchase 17 = .ok (.iconst 0, 1) := by decide +kernel
theorem dX9_leastPurchase_18 : decode cX9_leastPurchase 18 = .ok (.istore 4, 2) := by decide +kernel
theorem dX9_leastPurchase_20 : decode cX9_leastPurchase 20 = .ok (.iload 4, 2) := by decide +kernel
theorem dX9_leastPurchase_22 : decode cX9_leastPurchase 22 = .ok (.sipush 1000, 3) := by decide +kernel
theorem dX9_leastPurchase_25 : decode cX9_leastPurchase 25 = .ok (.if_icmp .gt 57, 3) := by decide +kernel
theorem dX9_leastPurchase_28 : decode cX9_leastPurchase 28 = .ok (.aload_n 0, 1) := by decide +kernel
theorem dX9_leastPurchase_29 : decode cX9_leastPurchase 29 = .ok (.getfield 16, 3) := by decide +kernel
theorem dX9_leastPurchase_32 : decode cX9_leastPurchase 32 = .ok (.aload_n 0, 1) := by decide +kernel
theorem dX9_leastPurchase_33 : decode cX9_leastPurchase 33 = .ok (.getfield 10, 3) := by decide +kernel
theorem dX9_leastPurchase_36 : decode cX9_leastPurchase 36 = .ok (.invokevirtual 317, 3) := by decide +kernel
theorem dX9_leastPurchase_39 : decode cX9_leastPurchase 39 = .ok (.iload 4, 2) := by decide +kernel
theorem dX9_leastPurchase_41 : decode cX9_leastPurchase 41 = .ok (.ifCond .le 19, 3) := by decide +kernel
theorem dX9_leastPurchase_44 : decode cX9_leastPurchase 44 = .ok (.aload_n 0, 1) := by decide +kernel
theorem dX9_leastPurchase_45 : decode cX9_leastPurchase 45 = .ok (.getfield 16, 3) := by decide +kernel
theorem dX9_leastPurchase_48 : decode cX9_leastPurchase 48 = .ok (.getfield 66, 3) := by decide +kernel
theorem dX9_leastPurchase_51 : decode cX9_leastPurchase 51 = .ok (.iload_n 1, 1) := by decide +kernel
theorem dX9_leastPurchase_52 : decode cX9_leastPurchase 52 = .ok (.iload_n 2, 1) := by decide +kernel
theorem dX9_leastPurchase_53 : decode cX9_leastPurchase 53 = .ok (.iload 4, 2) := by decide +kernel
theorem dX9_leastPurchase_55 : decode cX9_leastPurchase 55 = .ok (.iconst 0, 1) := by decide +kernel
theorem dX9_leastPurchase_56 : decode cX9_leastPurchase 56 = .ok (.invokevirtual 331, 3) := by decide +kernel
theorem dX9_leastPurchase_59 : decode cX9_leastPurchase 59 = .ok (.pop, 1) := by decide +kernel
theorem dX9_leastPurchase_60 : decode cX9_leastPurchase 60 = .ok (.aload_n 0, 1) := by decide +kernel
theorem dX9_leastPurchase_61 : decode cX9_leastPurchase 61 = .ok (.getfield 16, 3) := by decide +kernel
theorem dX9_leastPurchase_64 : decode cX9_leastPurchase 64 = .ok (.iload_n 1, 1) := by decide +kernel
theorem dX9_leastPurchase_65 : decode cX9_leastPurchase 65 = .ok (.iload_n 3, 1) := by decide +kernel
theorem dX9_leastPurchase_66 : decode cX9_leastPurchase 66 = .ok (.invokevirtual 322, 3) := by decide +kernel
theorem dX9_leastPurchase_69 : decode cX9_leastPurchase 69 = .ok (.iconst (-1), 1) := by decide +kernel
theorem dX9_leastPurchase_70 : decode cX9_leastPurchase 70 = .ok (.if_icmp .ne 6, 3) := by decide +kernel
theorem dX9_leastPurchase_73 : decode cX9_leastPurchase 73 = .ok (.iload 4, 2) := by decide +kernel
theorem dX9_leastPurchase_75 : decode cX9_leastPurchase 75 = .ok (.ireturn, 1) := by decide +kernel
theorem dX9_leastPurchase_76 : decode cX9_leastPurchase 76 = .ok (.iinc 4 10, 3) := by decide +kernel
theorem dX9_leastPurchase_79 : decode cX9_leastPurchase 79 = .ok (.goto (-59), 3) := by decide +kernel
theorem dX9_leastPurchase_82 : decode cX9_leastPurchase 82 = .ok (.iconst (-1), 1) := by decide +kernel
theorem dX9_leastPurchase_83 : decode cX9_leastPurchase 83 = .ok (.ireturn, 1) := by decide +kernel
theorem dX9_cheapest_0 : decode cX9_cheapest 0 = .ok (.aload_n 0, 1) := by decide +kernel
theorem dX9_cheapest_1 : decode cX9_cheapest 1 = .ok (.iload_n 1, 1) := by decide +kernel
theorem dX9_cheapest_2 : decode cX9_cheapest 2 = .ok (.invokevirtual 147, 3) := by decide +kernel
theorem dX9_cheapest_5 : decode cX9_cheapest 5 = .ok (.iconst (-1), 1) := by decide +kernel
theorem dX9_cheapest_6 : decode cX9_cheapest 6 = .ok (.istore_n 2, 1) := by decide +kernel
theorem dX9_cheapest_7 : decode cX9_cheapest 7 = .ok (.iconst 0, 1) := by decide +kernel
theorem dX9_cheapest_8 : decode cX9_cheapest 8 = .ok (.istore_n 3, 1) := by decide +kernel
theorem dX9_cheapest_9 : decode cX9_cheapest 9 = .ok (.iload_n 3, 1) := by decide +kernel
theorem dX9_cheapest_10 : decode cX9_cheapest 10 = .ok (.aload_n 0, 1) := by decide +kernel
theorem dX9_cheapest_11 : decode cX9_cheapest 11 = .ok (.getfield 10, 3) := by decide +kernel
theorem dX9_cheapest_14 : decode cX9_cheapest 14 = .ok (.getfield 122, 3) := by decide +kernel
theorem dX9_cheapest_17 : decode cX9_cheapest 17 = .ok (.getfield 126, 3) := by decide +kernel
theorem dX9_cheapest_20 : decode cX9_cheapest 20 = .ok (.if_icmp .ge 88, 3) := by decide +kernel
theorem dX9_cheapest_23 : decode cX9_cheapest 23 = .ok (.aload_n 0, 1) := by decide +kernel
theorem dX9_cheapest_24 : decode cX9_cheapest 24 = .ok (.getfield 10, 3) := by decide +kernel
theorem dX9_cheapest_27 : decode cX9_cheapest 27 = .ok (.getfield 122, 3) := by decide +kernel
theorem dX9_cheapest_30 : decode cX9_cheapest 30 = .ok (.iload_n 3, 1) := by decide +kernel
theorem dX9_cheapest_31 : decode cX9_cheapest 31 = .ok (.iload_n 1, 1) := by decide +kernel
theorem dX9_cheapest_32 : decode cX9_cheapest 32 = .ok (.invokevirtual 150, 3) := by decide +kernel
theorem dX9_cheapest_35 : decode cX9_cheapest 35 = .ok (.istore 4, 2) := by decide +kernel
theorem dX9_cheapest_37 : decode cX9_cheapest 37 = .ok (.aload_n 0, 1) := by decide +kernel
theorem dX9_cheapest_38 : decode cX9_cheapest 38 = .ok (.getfield 10, 3) := by decide +kernel
theorem dX9_cheapest_41 : decode cX9_cheapest 41 = .ok (.getfield 122, 3) := by decide +kernel
theorem dX9_cheapest_44 : decode cX9_cheapest 44 = .ok (.getfield 141, 3) := by decide +kernel
theorem dX9_cheapest_47 : decode cX9_cheapest 47 = .ok (.iload_n 3, 1) := by decide +kernel
theorem dX9_cheapest_48 : decode cX9_cheapest 48 = .ok (.invokevirtual 88, 3) := by decide +kernel
theorem dX9_cheapest_51 : decode cX9_cheapest 51 = .ok (.aload_n 0, 1) := by decide +kernel
theorem dX9_cheapest_52 : decode cX9_cheapest 52 = .ok (.getfield 10, 3) := by decide +kernel
theorem dX9_cheapest_55 : decode cX9_cheapest 55 = .ok (.getfield 304, 3) := by decide +kernel
theorem dX9_cheapest_58 : decode cX9_cheapest 58 = .ok (.if_icmp .lt 12, 3) := by decide +kernel
theorem dX9_cheapest_61 : decode cX9_cheapest 61 = .ok (.iload 4, 2) := by decide +kernel
theorem dX9_cheapest_63 : decode cX9_cheapest 63 = .ok (.ifCond .le 7, 3) := by decide +kernel
theorem dX9_cheapest_66 : decode cX9_cheapest 66 = .ok (.iconst 1, 1) := by decide +kernel
theorem dX9_cheapest_67 : decode cX9_cheapest 67 = .ok (.goto 4, 3) := by decide +kernel
theorem dX9_cheapest_70 : decode cX9_cheapest 70 = .ok (.iconst 0, 1) := by decide +kernel
theorem dX9_cheapest_71 : decode cX9_cheapest 71 = .ok (.istore 5, 2) := by decide +kernel
theorem dX9_cheapest_73 : decode cX9_cheapest 73 = .ok (.iload 5, 2) := by decide +kernel
theorem dX9_cheapest_75 : decode cX9_cheapest 75 = .ok (.ifCond .eq 27, 3) := by decide +kernel
theorem dX9_cheapest_78 : decode cX9_cheapest 78 = .ok (.iload_n 2, 1) := by decide +kernel
theorem dX9_cheapest_79 : decode cX9_cheapest 79 = .ok (.iconst (-1), 1) := by decide +kernel
theorem dX9_cheapest_80 : decode cX9_cheapest 80 = .ok (.if_icmp .eq 20, 3) := by decide +kernel
theorem dX9_cheapest_83 : decode cX9_cheapest 83 = .ok (.iload 4, 2) := by decide +kernel
theorem dX9_cheapest_85 : decode cX9_cheapest 85 = .ok (.aload_n 0, 1) := by decide +kernel
theorem dX9_cheapest_86 : decode cX9_cheapest 86 = .ok (.getfield 10, 3) := by decide +kernel
theorem dX9_cheapest_89 : decode cX9_cheapest 89 = .ok (.getfield 122, 3) := by decide +kernel
theorem dX9_cheapest_92 : decode cX9_cheapest 92 = .ok (.iload_n 2, 1) := by decide +kernel
theorem dX9_cheapest_93 : decode cX9_cheapest 93 = .ok (.iload_n 1, 1) := by decide +kernel
theorem dX9_cheapest_94 : decode cX9_cheapest 94 = .ok (.invokevirtual 150, 3) := by decide +kernel
theorem dX9_cheapest_97 : decode cX9_cheapest 97 = .ok (.if_icmp .ge 5, 3) := by decide +kernel
theorem dX9_cheapest_100 : decode cX9_cheapest 100 = .ok (.iload_n 3, 1) := by decide +kernel
theorem dX9_cheapest_101 : decode cX9_cheapest 101 = .ok (.istore_n 2, 1) := by decide +kernel
theorem dX9_cheapest_102 : decode cX9_cheapest 102 = .ok (.iinc 3 1, 3) := by decide +kernel
theorem dX9_cheapest_105 : decode cX9_cheapest 105 = .ok (.goto (-96), 3) := by decide +kernel
theorem dX9_cheapest_108 : decode cX9_cheapest 108 = .ok (.iload_n 2, 1) := by decide +kernel
theorem dX9_cheapest_109 : decode cX9_cheapest 109 = .ok (.ireturn, 1) := by decide +kernel
theorem dX9_meanAge_0 : decode cX9_meanAge 0 = .ok (.aload_n 0, 1) := by decide +kernel
theorem dX9_meanAge_1 : decode cX9_meanAge 1 = .ok (.getfield 10, 3) := by decide +kernel
theorem dX9_meanAge_4 : decode cX9_meanAge 4 = .ok (.getfield 66, 3) := by decide +kernel
theorem dX9_meanAge_7 : decode cX9_meanAge 7 = .ok (.invokevirtual 196, 3) := by decide +kernel
theorem dX9_meanAge_10 : decode cX9_meanAge 10 = .ok (.istore_n 1, 1) := by decide +kernel
theorem dX9_meanAge_11 : decode cX9_meanAge 11 = .ok (.iload_n 1, 1) := by decide +kernel
theorem dX9_meanAge_12 : decode cX9_meanAge 12 = .ok (.iconst 1, 1) := by decide +kernel
theorem dX9_meanAge_13 : decode cX9_meanAge 13 = .ok (.if_icmp .ge 7, 3) := by decide +kernel
theorem dX9_meanAge_16 : decode cX9_meanAge 16 = .ok (.dconst 0, 1) := by decide +kernel
theorem dX9_meanAge_17 : decode cX9_meanAge 17 = .ok (.goto 17, 3) := by decide +kernel
theorem dX9_meanAge_20 : decode cX9_meanAge 20 = .ok (.aload_n 0, 1) := by decide +kernel
theorem dX9_meanAge_21 : decode cX9_meanAge 21 = .ok (.getfield 10, 3) := by decide +kernel
theorem dX9_meanAge_24 : decode cX9_meanAge 24 = .ok (.getfield 66, 3) := by decide +kernel
theorem dX9_meanAge_27 : decode cX9_meanAge 27 = .ok (.invokevirtual 334, 3) := by decide +kernel
theorem dX9_meanAge_30 : decode cX9_meanAge 30 = .ok (.l2d, 1) := by decide +kernel
theorem dX9_meanAge_31 : decode cX9_meanAge 31 = .ok (.iload_n 1, 1) := by decide +kernel
theorem dX9_meanAge_32 : decode cX9_meanAge 32 = .ok (.i2d, 1) := by decide +kernel
theorem dX9_meanAge_33 : decode cX9_meanAge 33 = .ok (.ddiv, 1) := by decide +kernel
theorem dX9_meanAge_34 : decode cX9_meanAge 34 = .ok (.dreturn, 1) := by decide +kernel
theorem dX9_digest_0 : decode cX9_digest 0 = .ok (.ldc2_w 338, 3) := by decide +kernel
theorem dX9_digest_3 : decode cX9_digest 3 = .ok (.lstore_n 1, 1) := by decide +kernel
theorem dX9_digest_4 : decode cX9_digest 4 = .ok (.iconst 0, 1) := by decide +kernel
theorem dX9_digest_5 : decode cX9_digest 5 = .ok (.istore_n 3, 1) := by decide +kernel
theorem dX9_digest_6 : decode cX9_digest 6 = .ok (.iload_n 3, 1) := by decide +kernel
theorem dX9_digest_7 : decode cX9_digest 7 = .ok (.bipush 12, 2) := by decide +kernel
theorem dX9_digest_9 : decode cX9_digest 9 = .ok (.if_icmp .gt 22, 3) := by decide +kernel
theorem dX9_digest_12 : decode cX9_digest 12 = .ok (.ldc2_w 340, 3) := by decide +kernel
theorem dX9_digest_15 : decode cX9_digest 15 = .ok (.lload_n 1, 1) := by decide +kernel
theorem dX9_digest_16 : decode cX9_digest 16 = .ok (.lmul, 1) := by decide +kernel
theorem dX9_digest_17 : decode cX9_digest 17 = .ok (.aload_n 0, 1) := by decide +kernel
theorem dX9_digest_18 : decode cX9_digest 18 = .ok (.iload_n 3, 1) := by decide +kernel
theorem dX9_digest_19 : decode cX9_digest 19 = .ok (.invokevirtual 342, 3) := by decide +kernel
theorem dX9_digest_22 : decode cX9_digest 22 = .ok (.i2l, 1) := by decide +kernel
theorem dX9_digest_23 : decode cX9_digest 23 = .ok (.ladd, 1) := by decide +kernel
theorem dX9_digest_24 : decode cX9_digest 24 = .ok (.lstore_n 1, 1) := by decide +kernel
theorem dX9_digest_25 : decode cX9_digest 25 = .ok (.iinc 3 1, 3) := by decide +kernel
theorem dX9_digest_28 : decode cX9_digest 28 = .ok (.goto (-22), 3) := by decide +kernel
theorem dX9_digest_31 : decode cX9_digest 31 = .ok (.iconst 0, 1) := by decide +kernel
theorem dX9_digest_32 : decode cX9_digest 32 = .ok (.istore_n 3, 1) := by decide +kernel
theorem dX9_digest_33 : decode cX9_digest 33 = .ok (.iload_n 3, 1) := by decide +kernel
theorem dX9_digest_34 : decode cX9_digest 34 = .ok (.aload_n 0, 1) := by decide +kernel
theorem dX9_digest_35 : decode cX9_digest 35 = .ok (.getfield 10, 3) := by decide +kernel
theorem dX9_digest_38 : decode cX9_digest 38 = .ok (.getfield 66, 3) := by decide +kernel
theorem dX9_digest_41 : decode cX9_digest 41 = .ok (.getfield 178, 3) := by decide +kernel
theorem dX9_digest_44 : decode cX9_digest 44 = .ok (.if_icmp .ge 39, 3) := by decide +kernel
theorem dX9_digest_47 : decode cX9_digest 47 = .ok (.iconst 0, 1) := by decide +kernel
theorem dX9_digest_48 : decode cX9_digest 48 = .ok (.istore 4, 2) := by decide +kernel
theorem dX9_digest_50 : decode cX9_digest 50 = .ok (.iload 4, 2) := by decide +kernel
theorem dX9_digest_52 : decode cX9_digest 52 = .ok (.iconst 5, 1) := by decide +kernel
theorem dX9_digest_53 : decode cX9_digest 53 = .ok (.if_icmp .gt 24, 3) := by decide +kernel
theorem dX9_digest_56 : decode cX9_digest 56 = .ok (.ldc2_w 340, 3) := by decide +kernel
theorem dX9_digest_59 : decode cX9_digest 59 = .ok (.lload_n 1, 1) := by decide +kernel
theorem dX9_digest_60 : decode cX9_digest 60 = .ok (.lmul, 1) := by decide +kernel
theorem dX9_digest_61 : decode cX9_digest 61 = .ok (.aload_n 0, 1) := by decide +kernel
theorem dX9_digest_62 : decode cX9_digest 62 = .ok (.iload_n 3, 1) := by decide +kernel
theorem dX9_digest_63 : decode cX9_digest 63 = .ok (.iload 4, 2) := by decide +kernel
theorem dX9_digest_65 : decode cX9_digest 65 = .ok (.invokevirtual 345, 3) := by decide +kernel
theorem dX9_digest_68 : decode cX9_digest 68 = .ok (.i2l, 1) := by decide +kernel
theorem dX9_digest_69 : decode cX9_digest 69 = .ok (.ladd, 1) := by decide +kernel
theorem dX9_digest_70 : decode cX9_digest 70 = .ok (.lstore_n 1, 1) := by decide +kernel
theorem dX9_digest_71 : decode cX9_digest 71 = .ok (.iinc 4 1, 3) := by decide +kernel
theorem dX9_digest_74 : decode cX9_digest 74 = .ok (.goto (-24), 3) := by decide +kernel
theorem dX9_digest_77 : decode cX9_digest 77 = .ok (.iinc 3 1, 3) := by decide +kernel
theorem dX9_digest_80 : decode cX9_digest 80 = .ok (.goto (-47), 3) := by decide +kernel
theorem dX9_digest_83 : decode cX9_digest 83 = .ok (.iconst 0, 1) := by decide +kernel
theorem dX9_digest_84 : decode cX9_digest 84 = .ok (.istore_n 3, 1) := by decide +kernel
theorem dX9_digest_85 : decode cX9_digest 85 = .ok (.iload_n 3, 1) := by decide +kernel
theorem dX9_digest_86 : decode cX9_digest 86 = .ok (.iconst 3, 1) := by decide +kernel
theorem dX9_digest_87 : decode cX9_digest 87 = .ok (.if_icmp .ge 39, 3) := by decide +kernel
theorem dX9_digest_90 : decode cX9_digest 90 = .ok (.iconst 0, 1) := by decide +kernel
theorem dX9_digest_91 : decode cX9_digest 91 = .ok (.istore 4, 2) := by decide +kernel
theorem dX9_digest_93 : decode cX9_digest 93 = .ok (.iload 4, 2) := by decide +kernel
theorem dX9_digest_95 : decode cX9_digest 95 = .ok (.iconst 3, 1) := by decide +kernel
theorem dX9_digest_96 : decode cX9_digest 96 = .ok (.if_icmp .gt 24, 3) := by decide +kernel
theorem dX9_digest_99 : decode cX9_digest 99 = .ok (.ldc2_w 340, 3) := by decide +kernel
theorem dX9_digest_102 : decode cX9_digest 102 = .ok (.lload_n 1, 1) := by decide +kernel
theorem dX9_digest_103 : decode cX9_digest 103 = .ok (.lmul, 1) := by decide +kernel
theorem dX9_digest_104 : decode cX9_digest 104 = .ok (.aload_n 0, 1) := by decide +kernel
theorem dX9_digest_105 : decode cX9_digest 105 = .ok (.iload_n 3, 1) := by decide +kernel
theorem dX9_digest_106 : decode cX9_digest 106 = .ok (.iload 4, 2) := by decide +kernel
theorem dX9_digest_108 : decode cX9_digest 108 = .ok (.invokevirtual 348, 3) := by decide +kernel
theorem dX9_digest_111 : decode cX9_digest 111 = .ok (.i2l, 1) := by decide +kernel
theorem dX9_digest_112 : decode cX9_digest 112 = .ok (.ladd, 1) := by decide +kernel
theorem dX9_digest_113 : decode cX9_digest 113 = .ok (.lstore_n 1, 1) := by decide +kernel
theorem dX9_digest_114 : decode cX9_digest 114 = .ok (.iinc 4 1, 3) := by decide +kernel
theorem dX9_digest_117 : decode cX9_digest 117 = .ok (.goto (-24), 3) := by decide +kernel
theorem dX9_digest_120 : decode cX9_digest 120 = .ok (.iinc 3 1, 3) := by decide +kernel
theorem dX9_digest_123 : decode cX9_digest 123 = .ok (.goto (-38), 3) := by decide +kernel
theorem dX9_digest_126 : decode cX9_digest 126 = .ok (.iconst 0, 1) := by decide +kernel
theorem dX9_digest_127 : decode cX9_digest 127 = .ok (.istore_n 3, 1) := by decide +kernel
theorem dX9_digest_128 : decode cX9_digest 128 = .ok (.iload_n 3, 1) := by decide +kernel
theorem dX9_digest_129 : decode cX9_digest 129 = .ok (.aload_n 0, 1) := by decide +kernel
theorem dX9_digest_130 : decode cX9_digest 130 = .ok (.getfield 10, 3) := by decide +kernel
theorem dX9_digest_133 : decode cX9_digest 133 = .ok (.getfield 37, 3) := by decide +kernel
theorem dX9_digest_136 : decode cX9_digest 136 = .ok (.getfield 41, 3) := by decide +kernel
theorem dX9_digest_139 : decode cX9_digest 139 = .ok (.if_icmp .ge 82, 3) := by decide +kernel
theorem dX9_digest_142 : decode cX9_digest 142 = .ok (.iconst 0, 1) := by decide +kernel
theorem dX9_digest_143 : decode cX9_digest 143 = .ok (.istore 4, 2) := by decide +kernel
theorem dX9_digest_145 : decode cX9_digest 145 = .ok (.iload 4, 2) := by decide +kernel
theorem dX9_digest_147 : decode cX9_digest 147 = .ok (.bipush 9, 2) := by decide +kernel
theorem dX9_digest_149 : decode cX9_digest 149 = .ok (.if_icmp .gt 24, 3) := by decide +kernel
theorem dX9_digest_152 : decode cX9_digest 152 = .ok (.ldc2_w 340, 3) := by decide +kernel
theorem dX9_digest_155 : decode cX9_digest 155 = .ok (.lload_n 1, 1) := by decide +kernel
theorem dX9_digest_156 : decode cX9_digest 156 = .ok (.lmul, 1) := by decide +kernel
theorem dX9_digest_157 : decode cX9_digest 157 = .ok (.aload_n 0, 1) := by decide +kernel
theorem dX9_digest_158 : decode cX9_digest 158 = .ok (.iload_n 3, 1) := by decide +kernel
theorem dX9_digest_159 : decode cX9_digest 159 = .ok (.iload 4, 2) := by decide +kernel
theorem dX9_digest_161 : decode cX9_digest 161 = .ok (.invokevirtual 351, 3) := by decide +kernel
theorem dX9_digest_164 : decode cX9_digest 164 = .ok (.i2l, 1) := by decide +kernel
theorem dX9_digest_165 : decode cX9_digest 165 = .ok (.ladd, 1) := by decide +kernel
theorem dX9_digest_166 : decode cX9_digest 166 = .ok (.lstore_n 1, 1) := by decide +kernel
theorem dX9_digest_167 : decode cX9_digest 167 = .ok (.iinc 4 1, 3) := by decide +kernel
theorem dX9_digest_170 : decode cX9_digest 170 = .ok (.goto (-25), 3) := by decide +kernel
theorem dX9_digest_173 : decode cX9_digest 173 = .ok (.aload_n 0, 1) := by decide +kernel
theorem dX9_digest_174 : decode cX9_digest 174 = .ok (.getfield 16, 3) := by decide +kernel
theorem dX9_digest_177 : decode cX9_digest 177 = .ok (.aload_n 0, 1) := by decide +kernel
theorem dX9_digest_178 : decode cX9_digest 178 = .ok (.getfield 10, 3) := by decide +kernel
theorem dX9_digest_181 : decode cX9_digest 181 = .ok (.invokevirtual 317, 3) := by decide +kernel
theorem dX9_digest_184 : decode cX9_digest 184 = .ok (.ldc2_w 340, 3) := by decide +kernel
theorem dX9_digest_187 : decode cX9_digest 187 = .ok (.lload_n 1, 1) := by decide +kernel
theorem dX9_digest_188 : decode cX9_digest 188 = .ok (.lmul, 1) := by decide +kernel
theorem dX9_digest_189 : decode cX9_digest 189 = .ok (.aload_n 0, 1) := by decide +kernel
theorem dX9_digest_190 : decode cX9_digest 190 = .ok (.getfield 16, 3) := by decide +kernel
theorem dX9_digest_193 : decode cX9_digest 193 = .ok (.iload_n 3, 1) := by decide +kernel
theorem dX9_digest_194 : decode cX9_digest 194 = .ok (.bipush 60, 2) := by decide +kernel
theorem dX9_digest_196 : decode cX9_digest 196 = .ok (.invokevirtual 322, 3) := by decide +kernel
theorem dX9_digest_199 : decode cX9_digest 199 = .ok (.i2l, 1) := by decide +kernel
theorem dX9_digest_200 : decode cX9_digest 200 = .ok (.ladd, 1) := by decide +kernel
theorem dX9_digest_201 : decode cX9_digest 201 = .ok (.lstore_n 1, 1) := by decide +kernel
theorem dX9_digest_202 : decode cX9_digest 202 = .ok (.ldc2_w 340, 3) := by decide +kernel
theorem dX9_digest_205 : decode cX9_digest 205 = .ok (.lload_n 1, 1) := by decide +kernel
theorem dX9_digest_206 : decode cX9_digest 206 = .ok (.lmul, 1) := by decide +kernel
theorem dX9_digest_207 : decode cX9_digest 207 = .ok (.aload_n 0, 1) := by decide +kernel
theorem dX9_digest_208 : decode cX9_digest 208 = .ok (.iload_n 3, 1) := by decide +kernel
theorem dX9_digest_209 : decode cX9_digest 209 = .ok (.invokevirtual 354, 3) := by decide +kernel
theorem dX9_digest_212 : decode cX9_digest 212 = .ok (.i2l, 1) := by decide +kernel
theorem dX9_digest_213 : decode cX9_digest 213 = .ok (.ladd, 1) := by decide +kernel
theorem dX9_digest_214 : decode cX9_digest 214 = .ok (.lstore_n 1, 1) := by decide +kernel
theorem dX9_digest_215 : decode cX9_digest 215 = .ok (.iinc 3 1, 3) := by decide +kernel
theorem dX9_digest_218 : decode cX9_digest 218 = .ok (.goto (-90), 3) := by decide +kernel
theorem dX9_digest_221 : decode cX9_digest 221 = .ok (.iconst 0, 1) := by decide +kernel
theorem dX9_digest_222 : decode cX9_digest 222 = .ok (.istore_n 3, 1) := by decide +kernel
theorem dX9_digest_223 : decode cX9_digest 223 = .ok (.iload_n 3, 1) := by decide +kernel
theorem dX9_digest_224 : decode cX9_digest 224 = .ok (.aload_n 0, 1) := by decide +kernel
theorem dX9_digest_225 : decode cX9_digest 225 = .ok (.getfield 10, 3) := by decide +kernel
theorem dX9_digest_228 : decode cX9_digest 228 = .ok (.getfield 122, 3) := by decide +kernel
theorem dX9_digest_231 : decode cX9_digest 231 = .ok (.getfield 126, 3) := by decide +kernel
theorem dX9_digest_234 : decode cX9_digest 234 = .ok (.if_icmp .ge 79, 3) := by decide +kernel
theorem dX9_digest_237 : decode cX9_digest 237 = .ok (.ldc2_w 340, 3) := by decide +kernel
theorem dX9_digest_240 : decode cX9_digest 240 = .ok (.lload_n 1, 1) := by decide +kernel
theorem dX9_digest_241 : decode cX9_digest 241 = .ok (.lmul, 1) := by decide +kernel
theorem dX9_digest_242 : decode cX9_digest 242 = .ok (.aload_n 0, 1) := by decide +kernel
theorem dX9_digest_243 : decode cX9_digest 243 = .ok (.iload_n 3, 1) := by decide +kernel
theorem dX9_digest_244 : decode cX9_digest 244 = .ok (.iconst 0, 1) := by decide +kernel
theorem dX9_digest_245 : decode cX9_digest 245 = .ok (.invokevirtual 357, 3) := by decide +kernel
theorem dX9_digest_248 : decode cX9_digest 248 = .ok (.i2l, 1) := by decide +kernel
theorem dX9_digest_249 : decode cX9_digest 249 = .ok (.ladd, 1) := by decide +kernel
theorem dX9_digest_250 : decode cX9_digest 250 = .ok (.lstore_n 1, 1) := by decide +kernel
theorem dX9_digest_251 : decode cX9_digest 251 = .ok (.ldc2_w 340, 3) := by decide +kernel
theorem dX9_digest_254 : decode cX9_digest 254 = .ok (.lload_n 1, 1) := by decide +kernel
theorem dX9_digest_255 : decode cX9_digest 255 = .ok (.lmul, 1) := by decide +kernel
theorem dX9_digest_256 : decode cX9_digest 256 = .ok (.aload_n 0, 1) := by decide +kernel
theorem dX9_digest_257 : decode cX9_digest 257 = .ok (.iload_n 3, 1) := by decide +kernel
theorem dX9_digest_258 : decode cX9_digest 258 = .ok (.iconst 1, 1) := by decide +kernel
theorem dX9_digest_259 : decode cX9_digest 259 = .ok (.invokevirtual 357, 3) := by decide +kernel
theorem dX9_digest_262 : decode cX9_digest 262 = .ok (.i2l, 1) := by decide +kernel
theorem dX9_digest_263 : decode cX9_digest 263 = .ok (.ladd, 1) := by decide +kernel
theorem dX9_digest_264 : decode cX9_digest 264 = .ok (.lstore_n 1, 1) := by decide +kernel
theorem dX9_digest_265 : decode cX9_digest 265 = .ok (.iconst 0, 1) := by decide +kernel
theorem dX9_digest_266 : decode cX9_digest 266 = .ok (.istore 4, 2) := by decide +kernel
theorem dX9_digest_268 : decode cX9_digest 268 = .ok (.iload 4, 2) := by decide +kernel
theorem dX9_digest_270 : decode cX9_digest 270 = .ok (.aload_n 0, 1) := by decide +kernel
theorem dX9_digest_271 : decode cX9_digest 271 = .ok (.getfield 10, 3) := by decide +kernel
theorem dX9_digest_274 : decode cX9_digest 274 = .ok (.getfield 37, 3) := by decide +kernel
theorem dX9_digest_277 : decode cX9_digest 277 = .ok (.getfield 41, 3) := by decide +kernel
theorem dX9_digest_280 : decode cX9_digest 280 = .ok (.if_icmp .ge 27, 3) := by decide +kernel
theorem dX9_digest_283 : decode cX9_digest 283 = .ok (.ldc2_w 340, 3) := by decide +kernel
theorem dX9_digest_286 : decode cX9_digest 286 = .ok (.lload_n 1, 1) := by decide +kernel
theorem dX9_digest_287 : decode cX9_digest 287 = .ok (.lmul, 1) := by decide +kernel
theorem dX9_digest_288 : decode cX9_digest 288 = .ok (.aload_n 0, 1) := by decide +kernel
theorem dX9_digest_289 : decode cX9_digest 289 = .ok (.iload_n 3, 1) := by decide +kernel
theorem dX9_digest_290 : decode cX9_digest 290 = .ok (.bipush 10, 2) := by decide +kernel
theorem dX9_digest_292 : decode cX9_digest 292 = .ok (.iload 4, 2) := by decide +kernel
theorem dX9_digest_294 : decode cX9_digest 294 = .ok (.iadd, 1) := by decide +kernel
theorem dX9_digest_295 : decode cX9_digest 295 = .ok (.invokevirtual 357, 3) := by decide +kernel
theorem dX9_digest_298 : decode cX9_digest 298 = .ok (.i2l, 1) := by decide +kernel
theorem dX9_digest_299 : decode cX9_digest 299 = .ok (.ladd, 1) := by decide +kernel
theorem dX9_digest_300 : decode cX9_digest 300 = .ok (.lstore_n 1, 1) := by decide +kernel
theorem dX9_digest_301 : decode cX9_digest 301 = .ok (.iinc 4 1, 3) := by decide +kernel
theorem dX9_digest_304 : decode cX9_digest 304 = .ok (.goto (-36), 3) := by decide +kernel
theorem dX9_digest_307 : decode cX9_digest 307 = .ok (.iinc 3 1, 3) := by decide +kernel
theorem dX9_digest_310 : decode cX9_digest 310 = .ok (.goto (-87), 3) := by decide +kernel
theorem dX9_digest_313 : decode cX9_digest 313 = .ok (.iconst 0, 1) := by decide +kernel
theorem dX9_digest_314 : decode cX9_digest 314 = .ok (.istore_n 3, 1) := by decide +kernel
theorem dX9_digest_315 : decode cX9_digest 315 = .ok (.iload_n 3, 1) := by decide +kernel
theorem dX9_digest_316 : decode cX9_digest 316 = .ok (.aload_n 0, 1) := by decide +kernel
theorem dX9_digest_317 : decode cX9_digest 317 = .ok (.getfield 10, 3) := by decide +kernel
theorem dX9_digest_320 : decode cX9_digest 320 = .ok (.getfield 231, 3) := by decide +kernel
theorem dX9_digest_323 : decode cX9_digest 323 = .ok (.getfield 242, 3) := by decide +kernel
theorem dX9_digest_326 : decode cX9_digest 326 = .ok (.if_icmp .ge 56, 3) := by decide +kernel
theorem dX9_digest_329 : decode cX9_digest 329 = .ok (.iconst 0, 1) := by decide +kernel
theorem dX9_digest_330 : decode cX9_digest 330 = .ok (.istore 4, 2) := by decide +kernel
theorem dX9_digest_332 : decode cX9_digest 332 = .ok (.iload 4, 2) := by decide +kernel
theorem dX9_digest_334 : decode cX9_digest 334 = .ok (.iconst 4, 1) := by decide +kernel
theorem dX9_digest_335 : decode cX9_digest 335 = .ok (.if_icmp .ge 41, 3) := by decide +kernel
theorem dX9_digest_338 : decode cX9_digest 338 = .ok (.iconst 0, 1) := by decide +kernel
theorem dX9_digest_339 : decode cX9_digest 339 = .ok (.istore 5, 2) := by decide +kernel
theorem dX9_digest_341 : decode cX9_digest 341 = .ok (.iload 5, 2) := by decide +kernel
theorem dX9_digest_343 : decode cX9_digest 343 = .ok (.iconst 2, 1) := by decide +kernel
theorem dX9_digest_344 : decode cX9_digest 344 = .ok (.if_icmp .gt 26, 3) := by decide +kernel
theorem dX9_digest_347 : decode cX9_digest 347 = .ok (.ldc2_w 340, 3) := by decide +kernel
theorem dX9_digest_350 : decode cX9_digest 350 = .ok (.lload_n 1, 1) := by decide +kernel
theorem dX9_digest_351 : decode cX9_digest 351 = .ok (.lmul, 1) := by decide +kernel
theorem dX9_digest_352 : decode cX9_digest 352 = .ok (.aload_n 0, 1) := by decide +kernel
theorem dX9_digest_353 : decode cX9_digest 353 = .ok (.iload_n 3, 1) := by decide +kernel
theorem dX9_digest_354 : decode cX9_digest 354 = .ok (.iload 4, 2) := by decide +kernel
theorem dX9_digest_356 : decode cX9_digest 356 = .ok (.iload 5, 2) := by decide +kernel
theorem dX9_digest_358 : decode cX9_digest 358 = .ok (.invokevirtual 360, 3) := by decide +kernel
theorem dX9_digest_361 : decode cX9_digest 361 = .ok (.i2l, 1) := by decide +kernel
theorem dX9_digest_362 : decode cX9_digest 362 = .ok (.ladd, 1) := by decide +kernel
theorem dX9_digest_363 : decode cX9_digest 363 = .ok (.lstore_n 1, 1) := by decide +kernel
theorem dX9_digest_364 : decode cX9_digest 364 = .ok (.iinc 5 1, 3) := by decide +kernel
theorem dX9_digest_367 : decode cX9_digest 367 = .ok (.goto (-26), 3) := by decide +kernel
theorem dX9_digest_370 : decode cX9_digest 370 = .ok (.iinc 4 1, 3) := by decide +kernel
theorem dX9_digest_373 : decode cX9_digest 373 = .ok (.goto (-41), 3) := by decide +kernel
theorem dX9_digest_376 : decode cX9_digest 376 = .ok (.iinc 3 1, 3) := by decide +kernel
theorem dX9_digest_379 : decode cX9_digest 379 = .ok (.goto (-64), 3) := by decide +kernel
theorem dX9_digest_382 : decode cX9_digest 382 = .ok (.aload_n 0, 1) := by decide +kernel
theorem dX9_digest_383 : decode cX9_digest 383 = .ok (.getfield 16, 3) := by decide +kernel
theorem dX9_digest_386 : decode cX9_digest 386 = .ok (.aload_n 0, 1) := by decide +kernel
theorem dX9_digest_387 : decode cX9_digest 387 = .ok (.getfield 10, 3) := by decide +kernel
theorem dX9_digest_390 : decode cX9_digest 390 = .ok (.invokevirtual 317, 3) := by decide +kernel
theorem dX9_digest_393 : decode cX9_digest 393 = .ok (.aload_n 0, 1) := by decide +kernel
theorem dX9_digest_394 : decode cX9_digest 394 = .ok (.getfield 16, 3) := by decide +kernel
theorem dX9_digest_397 : decode cX9_digest 397 = .ok (.bipush 14, 2) := by decide +kernel
theorem dX9_digest_399 : decode cX9_digest 399 = .ok (.invokevirtual 206, 3) := by decide +kernel
theorem dX9_digest_402 : decode cX9_digest 402 = .ok (.iconst 0, 1) := by decide +kernel
theorem dX9_digest_403 : decode cX9_digest 403 = .ok (.istore_n 3, 1) := by decide +kernel
theorem dX9_digest_404 : decode cX9_digest 404 = .ok (.iload_n 3, 1) := by decide +kernel
theorem dX9_digest_405 : decode cX9_digest 405 = .ok (.iconst 4, 1) := by decide +kernel
theorem dX9_digest_406 : decode cX9_digest 406 = .ok (.if_icmp .gt 22, 3) := by decide +kernel
theorem dX9_digest_409 : decode cX9_digest 409 = .ok (.ldc2_w 340, 3) := by decide +kernel
theorem dX9_digest_412 : decode cX9_digest 412 = .ok (.lload_n 1, 1) := by decide +kernel
theorem dX9_digest_413 : decode cX9_digest 413 = .ok (.lmul, 1) := by decide +kernel
theorem dX9_digest_414 : decode cX9_digest 414 = .ok (.aload_n 0, 1) := by decide +kernel
theorem dX9_digest_415 : decode cX9_digest 415 = .ok (.iload_n 3, 1) := by decide +kernel
theorem dX9_digest_416 : decode cX9_digest 416 = .ok (.invokevirtual 319, 3) := by decide +kernel
theorem dX9_digest_419 : decode cX9_digest 419 = .ok (.i2l, 1) := by decide +kernel
theorem dX9_digest_420 : decode cX9_digest 420 = .ok (.ladd, 1) := by decide +kernel
theorem dX9_digest_421 : decode cX9_digest 421 = .ok (.lstore_n 1, 1) := by decide +kernel
theorem dX9_digest_422 : decode cX9_digest 422 = .ok (.iinc 3 1, 3) := by decide +kernel
theorem dX9_digest_425 : decode cX9_digest 425 = .ok (.goto (-21), 3) := by decide +kernel
theorem dX9_digest_428 : decode cX9_digest 428 = .ok (.ldc2_w 340, 3) := by decide +kernel
theorem dX9_digest_431 : decode cX9_digest 431 = .ok (.lload_n 1, 1) := by decide +kernel
theorem dX9_digest_432 : decode cX9_digest 432 = .ok (.lmul, 1) := by decide +kernel
theorem dX9_digest_433 : decode cX9_digest 433 = .ok (.aload_n 0, 1) := by decide +kernel
theorem dX9_digest_434 : decode cX9_digest 434 = .ok (.invokevirtual 363, 3) := by decide +kernel
theorem dX9_digest_437 : decode cX9_digest 437 = .ok (.invokestatic 367, 3) := by decide +kernel
theorem dX9_digest_440 : decode cX9_digest 440 = .ok (.ladd, 1) := by decide +kernel
theorem dX9_digest_441 : decode cX9_digest 441 = .ok (.lstore_n 1, 1) := by decide +kernel
theorem dX9_digest_442 : decode cX9_digest 442 = .ok (.ldc2_w 340, 3) := by decide +kernel
theorem dX9_digest_445 : decode cX9_digest 445 = .ok (.lload_n 1, 1) := by decide +kernel
theorem dX9_digest_446 : decode cX9_digest 446 = .ok (.lmul, 1) := by decide +kernel
theorem dX9_digest_447 : decode cX9_digest 447 = .ok (.aload_n 0, 1) := by decide +kernel
theorem dX9_digest_448 : decode cX9_digest 448 = .ok (.getfield 29, 3) := by decide +kernel
theorem dX9_digest_451 : decode cX9_digest 451 = .ok (.getfield 209, 3) := by decide +kernel
theorem dX9_digest_454 : decode cX9_digest 454 = .ok (.i2l, 1) := by decide +kernel
theorem dX9_digest_455 : decode cX9_digest 455 = .ok (.ladd, 1) := by decide +kernel
theorem dX9_digest_456 : decode cX9_digest 456 = .ok (.lstore_n 1, 1) := by decide +kernel
theorem dX9_digest_457 : decode cX9_digest 457 = .ok (.iconst 0, 1) := by decide +kernel
theorem dX9_digest_458 : decode cX9_digest 458 = .ok (.istore_n 3, 1) := by decide +kernel
theorem dX9_digest_459 : decode cX9_digest 459 = .ok (.iload_n 3, 1) := by decide +kernel
theorem dX9_digest_460 : decode cX9_digest 460 = .ok (.aload_n 0, 1) := by decide +kernel
theorem dX9_digest_461 : decode cX9_digest 461 = .ok (.getfield 29, 3) := by decide +kernel
theorem dX9_digest_464 : decode cX9_digest 464 = .ok (.getfield 209, 3) := by decide +kernel
theorem dX9_digest_467 : decode cX9_digest 467 = .ok (.if_icmp .ge 28, 3) := by decide +kernel
theorem dX9_digest_470 : decode cX9_digest 470 = .ok (.ldc2_w 340, 3) := by decide +kernel
theorem dX9_digest_473 : decode cX9_digest 473 = .ok (.lload_n 1, 1) := by decide +kernel
theorem dX9_digest_474 : decode cX9_digest 474 = .ok (.lmul, 1) := by decide +kernel
theorem dX9_digest_475 : decode cX9_digest 475 = .ok (.aload_n 0, 1) := by decide +kernel
theorem dX9_digest_476 : decode cX9_digest 476 = .ok (.getfield 29, 3) := by decide +kernel
theorem dX9_digest_479 : decode cX9_digest 479 = .ok (.getfield 214, 3) := by decide +kernel
theorem dX9_digest_482 : decode cX9_digest 482 = .ok (.iload_n 3, 1) := by decide +kernel
theorem dX9_digest_483 : decode cX9_digest 483 = .ok (.invokevirtual 88, 3) := by decide +kernel
theorem dX9_digest_486 : decode cX9_digest 486 = .ok (.i2l, 1) := by decide +kernel
theorem dX9_digest_487 : decode cX9_digest 487 = .ok (.ladd, 1) := by decide +kernel
theorem dX9_digest_488 : decode cX9_digest 488 = .ok (.lstore_n 1, 1) := by decide +kernel
theorem dX9_digest_489 : decode cX9_digest 489 = .ok (.iinc 3 1, 3) := by decide +kernel
theorem dX9_digest_492 : decode cX9_digest 492 = .ok (.goto (-33), 3) := by decide +kernel
theorem dX9_digest_495 : decode cX9_digest 495 = .ok (.lload_n 1, 1) := by decide +kernel
theorem dX9_digest_496 : decode cX9_digest 496 = .ok (.lreturn, 1) := by decide +kernel
theorem dX9_outcomeOfTrial_0 : decode cX9_outcomeOfTrial 0 = .ok (.iload_n 1, 1) := by decide +kernel
theorem dX9_outcomeOfTrial_1 : decode cX9_outcomeOfTrial 1 = .ok (.tableswitch 131 0 3 #[31, 59, 87, 115], 31) := by decide +kernel
theorem dX9_outcomeOfTrial_32 : decode cX9_outcomeOfTrial 32 = .ok (.aload_n 0, 1) := by decide +kernel
theorem dX9_outcomeOfTrial_33 : decode cX9_outcomeOfTrial 33 = .ok (.getfield 16, 3) := by decide +kernel
theorem dX9_outcomeOfTrial_36 : decode cX9_outcomeOfTrial 36 = .ok (.getfield 37, 3) := by decide +kernel
theorem dX9_outcomeOfTrial_39 : decode cX9_outcomeOfTrial 39 = .ok (.getfield 271, 3) := by decide +kernel
theorem dX9_outcomeOfTrial_42 : decode cX9_outcomeOfTrial 42 = .ok (.invokevirtual 203, 3) := by decide +kernel
theorem dX9_outcomeOfTrial_45 : decode cX9_outcomeOfTrial 45 = .ok (.aload_n 0, 1) := by decide +kernel
theorem dX9_outcomeOfTrial_46 : decode cX9_outcomeOfTrial 46 = .ok (.getfield 10, 3) := by decide +kernel
theorem dX9_outcomeOfTrial_49 : decode cX9_outcomeOfTrial 49 = .ok (.getfield 37, 3) := by decide +kernel
theorem dX9_outcomeOfTrial_52 : decode cX9_outcomeOfTrial 52 = .ok (.getfield 271, 3) := by decide +kernel
theorem dX9_outcomeOfTrial_55 : decode cX9_outcomeOfTrial 55 = .ok (.invokevirtual 203, 3) := by decide +kernel
theorem dX9_outcomeOfTrial_58 : decode cX9_outcomeOfTrial 58 = .ok (.isub, 1) := by decide +kernel
theorem dX9_outcomeOfTrial_59 : decode cX9_outcomeOfTrial 59 = .ok (.ireturn, 1) := by decide +kernel
theorem dX9_outcomeOfTrial_60 : decode cX9_outcomeOfTrial 60 = .ok (.aload_n 0, 1) := by decide +kernel
theorem dX9_outcomeOfTrial_61 : decode cX9_outcomeOfTrial 61 = .ok (.getfield 16, 3) := by decide +kernel
theorem dX9_outcomeOfTrial_64 : decode cX9_outcomeOfTrial 64 = .ok (.getfield 37, 3) := by decide +kernel
theorem dX9_outcomeOfTrial_67 : decode cX9_outcomeOfTrial 67 = .ok (.getfield 200, 3) := by decide +kernel
theorem dX9_outcomeOfTrial_70 : decode cX9_outcomeOfTrial 70 = .ok (.invokevirtual 203, 3) := by decide +kernel
theorem dX9_outcomeOfTrial_73 : decode cX9_outcomeOfTrial 73 = .ok (.aload_n 0, 1) := by decide +kernel
theorem dX9_outcomeOfTrial_74 : decode cX9_outcomeOfTrial 74 = .ok (.getfield 10, 3) := by decide +kernel
theorem dX9_outcomeOfTrial_77 : decode cX9_outcomeOfTrial 77 = .ok (.getfield 37, 3) := by decide +kernel
theorem dX9_outcomeOfTrial_80 : decode cX9_outcomeOfTrial 80 = .ok (.getfield 200, 3) := by decide +kernel
theorem dX9_outcomeOfTrial_83 : decode cX9_outcomeOfTrial 83 = .ok (.invokevirtual 203, 3) := by decide +kernel
theorem dX9_outcomeOfTrial_86 : decode cX9_outcomeOfTrial 86 = .ok (.isub, 1) := by decide +kernel
theorem dX9_outcomeOfTrial_87 : decode cX9_outcomeOfTrial 87 = .ok (.ireturn, 1) := by decide +kernel
theorem dX9_outcomeOfTrial_88 : decode cX9_outcomeOfTrial 88 = .ok (.aload_n 0, 1) := by decide +kernel
theorem dX9_outcomeOfTrial_89 : decode cX9_outcomeOfTrial 89 = .ok (.getfield 16, 3) := by decide +kernel
theorem dX9_outcomeOfTrial_92 : decode cX9_outcomeOfTrial 92 = .ok (.getfield 37, 3) := by decide +kernel
theorem dX9_outcomeOfTrial_95 : decode cX9_outcomeOfTrial 95 = .ok (.getfield 277, 3) := by decide +kernel
theorem dX9_outcomeOfTrial_98 : decode cX9_outcomeOfTrial 98 = .ok (.invokevirtual 203, 3) := by decide +kernel
theorem dX9_outcomeOfTrial_101 : decode cX9_outcomeOfTrial 101 = .ok (.aload_n 0, 1) := by decide +kernel
theorem dX9_outcomeOfTrial_102 : decode cX9_outcomeOfTrial 102 = .ok (.getfield 10, 3) := by decide +kernel
theorem dX9_outcomeOfTrial_105 : decode cX9_outcomeOfTrial 105 = .ok (.getfield 37, 3) := by decide +kernel
theorem dX9_outcomeOfTrial_108 : decode cX9_outcomeOfTrial 108 = .ok (.getfield 277, 3) := by decide +kernel
theorem dX9_outcomeOfTrial_111 : decode cX9_outcomeOfTrial 111 = .ok (.invokevirtual 203, 3) := by decide +kernel
theorem dX9_outcomeOfTrial_114 : decode cX9_outcomeOfTrial 114 = .ok (.isub, 1) := by decide +kernel
theorem dX9_outcomeOfTrial_115 : decode cX9_outcomeOfTrial 115 = .ok (.ireturn, 1) := by decide +kernel
theorem dX9_outcomeOfTrial_116 : decode cX9_outcomeOfTrial 116 = .ok (.aload_n 0, 1) := by decide +kernel
theorem dX9_outcomeOfTrial_117 : decode cX9_outcomeOfTrial 117 = .ok (.getfield 16, 3) := by decide +kernel
theorem dX9_outcomeOfTrial_120 : decode cX9_outcomeOfTrial 120 = .ok (.getfield 309, 3) := by decide +kernel
theorem dX9_outcomeOfTrial_123 : decode cX9_outcomeOfTrial 123 = .ok (.aload_n 0, 1) := by decide +kernel
theorem dX9_outcomeOfTrial_124 : decode cX9_outcomeOfTrial 124 = .ok (.getfield 10, 3) := by decide +kernel
theorem dX9_outcomeOfTrial_127 : decode cX9_outcomeOfTrial 127 = .ok (.getfield 309, 3) := by decide +kernel
theorem dX9_outcomeOfTrial_130 : decode cX9_outcomeOfTrial 130 = .ok (.isub, 1) := by decide +kernel
theorem dX9_outcomeOfTrial_131 : decode cX9_outcomeOfTrial 131 = .ok (.ireturn, 1) := by decide +kernel
theorem dX9_outcomeOfTrial_132 : decode cX9_outcomeOfTrial 132 = .ok (.aload_n 0, 1) := by decide +kernel
theorem dX9_outcomeOfTrial_133 : decode cX9_outcomeOfTrial 133 = .ok (.getfield 16, 3) := by decide +kernel
theorem dX9_outcomeOfTrial_136 : decode cX9_outcomeOfTrial 136 = .ok (.getfield 66, 3) := by decide +kernel
theorem dX9_outcomeOfTrial_139 : decode cX9_outcomeOfTrial 139 = .ok (.invokevirtual 196, 3) := by decide +kernel
theorem dX9_outcomeOfTrial_142 : decode cX9_outcomeOfTrial 142 = .ok (.ireturn, 1) := by decide +kernel
theorem dX9_bitsOf_0 : decode cX9_bitsOf 0 = .ok (.dload_n 0, 1) := by decide +kernel
theorem dX9_bitsOf_1 : decode cX9_bitsOf 1 = .ok (.dconst 0, 1) := by decide +kernel
theorem dX9_bitsOf_2 : decode cX9_bitsOf 2 = .ok (.dcmp .l, 1) := by decide +kernel
theorem dX9_bitsOf_3 : decode cX9_bitsOf 3 = .ok (.ifCond .gt 5, 3) := by decide +kernel
theorem dX9_bitsOf_6 : decode cX9_bitsOf 6 = .ok (.lconst 0, 1) := by decide +kernel
theorem dX9_bitsOf_7 : decode cX9_bitsOf 7 = .ok (.lreturn, 1) := by decide +kernel
theorem dX9_bitsOf_8 : decode cX9_bitsOf 8 = .ok (.dload_n 0, 1) := by decide +kernel
theorem dX9_bitsOf_9 : decode cX9_bitsOf 9 = .ok (.dstore_n 2, 1) := by decide +kernel
theorem dX9_bitsOf_10 : decode cX9_bitsOf 10 = .ok (.ldc2_w 371, 3) := by decide +kernel
theorem dX9_bitsOf_13 : decode cX9_bitsOf 13 = .ok (.lstore 4, 2) := by decide +kernel
theorem dX9_bitsOf_15 : decode cX9_bitsOf 15 = .ok (.iconst 0, 1) := by decide +kernel
theorem dX9_bitsOf_16 : decode cX9_bitsOf 16 = .ok (.istore 6, 2) := by decide +kernel
theorem dX9_bitsOf_18 : decode cX9_bitsOf 18 = .ok (.iload 6, 2) := by decide +kernel
theorem dX9_bitsOf_20 : decode cX9_bitsOf 20 = .ok (.sipush 1024, 3) := by decide +kernel
theorem dX9_bitsOf_23 : decode cX9_bitsOf 23 = .ok (.if_icmp .ge 29, 3) := by decide +kernel
theorem dX9_bitsOf_26 : decode cX9_bitsOf 26 = .ok (.dload_n 2, 1) := by decide +kernel
theorem dX9_bitsOf_27 : decode cX9_bitsOf 27 = .ok (.ldc2_w 373, 3) := by decide +kernel
theorem dX9_bitsOf_30 : decode cX9_bitsOf 30 = .ok (.dcmp .l, 1) := by decide +kernel
theorem dX9_bitsOf_31 : decode cX9_bitsOf 31 = .ok (.ifCond .lt 21, 3) := by decide +kernel
theorem dX9_bitsOf_34 : decode cX9_bitsOf 34 = .ok (.dload_n 2, 1) := by decide +kernel
theorem dX9_bitsOf_35 : decode cX9_bitsOf 35 = .ok (.ldc2_w 373, 3) := by decide +kernel
theorem dX9_bitsOf_38 : decode cX9_bitsOf 38 = .ok (.ddiv, 1) := by decide +kernel
theorem dX9_bitsOf_39 : decode cX9_bitsOf 39 = .ok (.dstore_n 2, 1) := by decide +kernel
theorem dX9_bitsOf_40 : decode cX9_bitsOf 40 = .ok (.lload 4, 2) := by decide +kernel
theorem dX9_bitsOf_42 : decode cX9_bitsOf 42 = .ok (.lconst 1, 1) := by decide +kernel
theorem dX9_bitsOf_43 : decode cX9_bitsOf 43 = .ok (.ladd, 1) := by decide +kernel
theorem dX9_bitsOf_44 : decode cX9_bitsOf 44 = .ok (.lstore 4, 2) := by decide +kernel
theorem dX9_bitsOf_46 : decode cX9_bitsOf 46 = .ok (.iinc 6 1, 3) := by decide +kernel
theorem dX9_bitsOf_49 : decode cX9_bitsOf 49 = .ok (.goto (-31), 3) := by decide +kernel
theorem dX9_bitsOf_52 : decode cX9_bitsOf 52 = .ok (.iconst 0, 1) := by decide +kernel
theorem dX9_bitsOf_53 : decode cX9_bitsOf 53 = .ok (.istore 6, 2) := by decide +kernel
theorem dX9_bitsOf_55 : decode cX9_bitsOf 55 = .ok (.iload 6, 2) := by decide +kernel
theorem dX9_bitsOf_57 : decode cX9_bitsOf 57 = .ok (.sipush 1024, 3) := by decide +kernel
theorem dX9_bitsOf_60 : decode cX9_bitsOf 60 = .ok (.if_icmp .ge 27, 3) := by decide +kernel
theorem dX9_bitsOf_63 : decode cX9_bitsOf 63 = .ok (.dload_n 2, 1) := by decide +kernel
theorem dX9_bitsOf_64 : decode cX9_bitsOf 64 = .ok (.dconst 1, 1) := by decide +kernel
theorem dX9_bitsOf_65 : decode cX9_bitsOf 65 = .ok (.dcmp .g, 1) := by decide +kernel
theorem dX9_bitsOf_66 : decode cX9_bitsOf 66 = .ok (.ifCond .ge 21, 3) := by decide +kernel
theorem dX9_bitsOf_69 : decode cX9_bitsOf 69 = .ok (.dload_n 2, 1) := by decide +kernel
theorem dX9_bitsOf_70 : decode cX9_bitsOf 70 = .ok (.ldc2_w 373, 3) := by decide +kernel
theorem dX9_bitsOf_73 : decode cX9_bitsOf 73 = .ok (.dmul, 1) := by decide +kernel
theorem dX9_bitsOf_74 : decode cX9_bitsOf 74 = .ok (.dstore_n 2, 1) := by decide +kernel
theorem dX9_bitsOf_75 : decode cX9_bitsOf 75 = .ok (.lload 4, 2) := by decide +kernel
theorem dX9_bitsOf_77 : decode cX9_bitsOf 77 = .ok (.lconst 1, 1) := by decide +kernel
theorem dX9_bitsOf_78 : decode cX9_bitsOf 78 = .ok (.lsub, 1) := by decide +kernel
theorem dX9_bitsOf_79 : decode cX9_bitsOf 79 = .ok (.lstore 4, 2) := by decide +kernel
theorem dX9_bitsOf_81 : decode cX9_bitsOf 81 = .ok (.iinc 6 1, 3) := by decide +kernel
theorem dX9_bitsOf_84 : decode cX9_bitsOf 84 = .ok (.goto (-29), 3) := by decide +kernel
theorem dX9_bitsOf_87 : decode cX9_bitsOf 87 = .ok (.lload 4, 2) := by decide +kernel
theorem dX9_bitsOf_89 : decode cX9_bitsOf 89 = .ok (.bipush 52, 2) := by decide +kernel
theorem dX9_bitsOf_91 : decode cX9_bitsOf 91 = .ok (.lshl, 1) := by decide +kernel
theorem dX9_bitsOf_92 : decode cX9_bitsOf 92 = .ok (.dload_n 2, 1) := by decide +kernel
theorem dX9_bitsOf_93 : decode cX9_bitsOf 93 = .ok (.dconst 1, 1) := by decide +kernel
theorem dX9_bitsOf_94 : decode cX9_bitsOf 94 = .ok (.dsub, 1) := by decide +kernel
theorem dX9_bitsOf_95 : decode cX9_bitsOf 95 = .ok (.ldc2_w 375, 3) := by decide +kernel
theorem dX9_bitsOf_98 : decode cX9_bitsOf 98 = .ok (.dmul, 1) := by decide +kernel
theorem dX9_bitsOf_99 : decode cX9_bitsOf 99 = .ok (.d2l, 1) := by decide +kernel
theorem dX9_bitsOf_100 : decode cX9_bitsOf 100 = .ok (.ladd, 1) := by decide +kernel
theorem dX9_bitsOf_101 : decode cX9_bitsOf 101 = .ok (.lreturn, 1) := by decide +kernel
theorem dX9_isWithin_0 : decode cX9_isWithin 0 = .ok (.iload_n 0, 1) := by decide +kernel
theorem dX9_isWithin_1 : decode cX9_isWithin 1 = .ok (.iload_n 1, 1) := by decide +kernel
theorem dX9_isWithin_2 : decode cX9_isWithin 2 = .ok (.if_icmp .lt 12, 3) := by decide +kernel
theorem dX9_isWithin_5 : decode cX9_isWithin 5 = .ok (.iload_n 0, 1) := by decide +kernel
theorem dX9_isWithin_6 : decode cX9_isWithin 6 = .ok (.iload_n 2, 1) := by decide +kernel
theorem dX9_isWithin_7 : decode cX9_isWithin 7 = .ok (.if_icmp .gt 7, 3) := by decide +kernel
theorem dX9_isWithin_10 : decode cX9_isWithin 10 = .ok (.iconst 1, 1) := by decide +kernel
theorem dX9_isWithin_11 : decode cX9_isWithin 11 = .ok (.goto 4, 3) := by decide +kernel
theorem dX9_isWithin_14 : decode cX9_isWithin 14 = .ok (.iconst 0, 1) := by decide +kernel
theorem dX9_isWithin_15 : decode cX9_isWithin 15 = .ok (.ireturn, 1) := by decide +kernel
theorem dX9_requireWithin_0 : decode cX9_requireWithin 0 = .ok (.iload_n 0, 1) := by decide +kernel
theorem dX9_requireWithin_1 : decode cX9_requireWithin 1 = .ok (.iload_n 1, 1) := by decide +kernel
theorem dX9_requireWithin_2 : decode cX9_requireWithin 2 = .ok (.iload_n 2, 1) := by decide +kernel
theorem dX9_requireWithin_3 : decode cX9_requireWithin 3 = .ok (.invokestatic 97, 3) := by decide +kernel
theorem dX9_requireWithin_6 : decode cX9_requireWithin 6 = .ok (.ifCond .ne 14, 3) := by decide +kernel
theorem dX9_requireWithin_9 : decode cX9_requireWithin 9 = .ok (.new 117, 3) := by decide +kernel
theorem dX9_requireWithin_12 : decode cX9_requireWithin 12 = .ok (.dup, 1) := by decide +kernel
theorem dX9_requireWithin_13 : decode cX9_requireWithin 13 = .ok (.ldc_w 377, 3) := by decide +kernel
theorem dX9_requireWithin_16 : decode cX9_requireWithin 16 = .ok (.invokespecial 121, 3) := by decide +kernel
theorem dX9_requireWithin_19 : decode cX9_requireWithin 19 = .ok (.athrow, 1) := by decide +kernel
theorem dX9_requireWithin_20 : decode cX9_requireWithin 20 = .ok (.return_, 1) := by decide +kernel
theorem dX9_requireStore_0 : decode cX9_requireStore 0 = .ok (.iload_n 0, 1) := by decide +kernel
theorem dX9_requireStore_1 : decode cX9_requireStore 1 = .ok (.iconst 0, 1) := by decide +kernel
theorem dX9_requireStore_2 : decode cX9_requireStore 2 = .ok (.iconst 2, 1) := by decide +kernel
theorem dX9_requireStore_3 : decode cX9_requireStore 3 = .ok (.invokestatic 97, 3) := by decide +kernel
theorem dX9_requireStore_6 : decode cX9_requireStore 6 = .ok (.ifCond .ne 14, 3) := by decide +kernel
theorem dX9_requireStore_9 : decode cX9_requireStore 9 = .ok (.new 101, 3) := by decide +kernel
theorem dX9_requireStore_12 : decode cX9_requireStore 12 = .ok (.dup, 1) := by decide +kernel
theorem dX9_requireStore_13 : decode cX9_requireStore 13 = .ok (.ldc_w 379, 3) := by decide +kernel
theorem dX9_requireStore_16 : decode cX9_requireStore 16 = .ok (.invokespecial 105, 3) := by decide +kernel
theorem dX9_requireStore_19 : decode cX9_requireStore 19 = .ok (.athrow, 1) := by decide +kernel
theorem dX9_requireStore_20 : decode cX9_requireStore 20 = .ok (.return_, 1) := by decide +kernel
theorem dX9_requireKind_0 : decode cX9_requireKind 0 = .ok (.iload_n 1, 1) := by decide +kernel
theorem dX9_requireKind_1 : decode cX9_requireKind 1 = .ok (.iconst 0, 1) := by decide +kernel
theorem dX9_requireKind_2 : decode cX9_requireKind 2 = .ok (.aload_n 0, 1) := by decide +kernel
theorem dX9_requireKind_3 : decode cX9_requireKind 3 = .ok (.getfield 10, 3) := by decide +kernel
theorem dX9_requireKind_6 : decode cX9_requireKind 6 = .ok (.getfield 37, 3) := by decide +kernel
theorem dX9_requireKind_9 : decode cX9_requireKind 9 = .ok (.getfield 41, 3) := by decide +kernel
theorem dX9_requireKind_12 : decode cX9_requireKind 12 = .ok (.iconst 1, 1) := by decide +kernel
theorem dX9_requireKind_13 : decode cX9_requireKind 13 = .ok (.isub, 1) := by decide +kernel
theorem dX9_requireKind_14 : decode cX9_requireKind 14 = .ok (.invokestatic 97, 3) := by decide +kernel
theorem dX9_requireKind_17 : decode cX9_requireKind 17 = .ok (.ifCond .ne 14, 3) := by decide +kernel
theorem dX9_requireKind_20 : decode cX9_requireKind 20 = .ok (.new 101, 3) := by decide +kernel
theorem dX9_requireKind_23 : decode cX9_requireKind 23 = .ok (.dup, 1) := by decide +kernel
theorem dX9_requireKind_24 : decode cX9_requireKind 24 = .ok (.ldc_w 381, 3) := by decide +kernel
theorem dX9_requireKind_27 : decode cX9_requireKind 27 = .ok (.invokespecial 105, 3) := by decide +kernel
theorem dX9_requireKind_30 : decode cX9_requireKind 30 = .ok (.athrow, 1) := by decide +kernel
theorem dX9_requireKind_31 : decode cX9_requireKind 31 = .ok (.return_, 1) := by decide +kernel
theorem dX9_requireLot_0 : decode cX9_requireLot 0 = .ok (.iload_n 1, 1) := by decide +kernel
theorem dX9_requireLot_1 : decode cX9_requireLot 1 = .ok (.iconst 0, 1) := by decide +kernel
theorem dX9_requireLot_2 : decode cX9_requireLot 2 = .ok (.aload_n 0, 1) := by decide +kernel
theorem dX9_requireLot_3 : decode cX9_requireLot 3 = .ok (.getfield 10, 3) := by decide +kernel
theorem dX9_requireLot_6 : decode cX9_requireLot 6 = .ok (.getfield 66, 3) := by decide +kernel
theorem dX9_requireLot_9 : decode cX9_requireLot 9 = .ok (.getfield 178, 3) := by decide +kernel
theorem dX9_requireLot_12 : decode cX9_requireLot 12 = .ok (.iconst 1, 1) := by decide +kernel
theorem dX9_requireLot_13 : decode cX9_requireLot 13 = .ok (.isub, 1) := by decide +kernel
theorem dX9_requireLot_14 : decode cX9_requireLot 14 = .ok (.invokestatic 97, 3) := by decide +kernel
theorem dX9_requireLot_17 : decode cX9_requireLot 17 = .ok (.ifCond .ne 14, 3) := by decide +kernel
theorem dX9_requireLot_20 : decode cX9_requireLot 20 = .ok (.new 101, 3) := by decide +kernel
theorem dX9_requireLot_23 : decode cX9_requireLot 23 = .ok (.dup, 1) := by decide +kernel
theorem dX9_requireLot_24 : decode cX9_requireLot 24 = .ok (.ldc_w 383, 3) := by decide +kernel
theorem dX9_requireLot_27 : decode cX9_requireLot 27 = .ok (.invokespecial 105, 3) := by decide +kernel
theorem dX9_requireLot_30 : decode cX9_requireLot 30 = .ok (.athrow, 1) := by decide +kernel
theorem dX9_requireLot_31 : decode cX9_requireLot 31 = .ok (.return_, 1) := by decide +kernel
theorem dX9_requirePort_0 : decode cX9_requirePort 0 = .ok (.iload_n 1, 1) := by decide +kernel
theorem dX9_requirePort_1 : decode cX9_requirePort 1 = .ok (.iconst 0, 1) := by decide +kernel
theorem dX9_requirePort_2 : decode cX9_requirePort 2 = .ok (.aload_n 0, 1) := by decide +kernel
theorem dX9_requirePort_3 : decode cX9_requirePort 3 = .ok (.getfield 10, 3) := by decide +kernel
theorem dX9_requirePort_6 : decode cX9_requirePort 6 = .ok (.getfield 122, 3) := by decide +kernel
theorem dX9_requirePort_9 : decode cX9_requirePort 9 = .ok (.getfield 126, 3) := by decide +kernel
theorem dX9_requirePort_12 : decode cX9_requirePort 12 = .ok (.iconst 1, 1) := by decide +kernel
theorem dX9_requirePort_13 : decode cX9_requirePort 13 = .ok (.isub, 1) := by decide +kernel
theorem dX9_requirePort_14 : decode cX9_requirePort 14 = .ok (.invokestatic 97, 3) := by decide +kernel
theorem dX9_requirePort_17 : decode cX9_requirePort 17 = .ok (.ifCond .ne 14, 3) := by decide +kernel
theorem dX9_requirePort_20 : decode cX9_requirePort 20 = .ok (.new 101, 3) := by decide +kernel
theorem dX9_requirePort_23 : decode cX9_requirePort 23 = .ok (.dup, 1) := by decide +kernel
theorem dX9_requirePort_24 : decode cX9_requirePort 24 = .ok (.ldc_w 385, 3) := by decide +kernel
theorem dX9_requirePort_27 : decode cX9_requirePort 27 = .ok (.invokespecial 105, 3) := by decide +kernel
theorem dX9_requirePort_30 : decode cX9_requirePort 30 = .ok (.athrow, 1) := by decide +kernel
theorem dX9_requirePort_31 : decode cX9_requirePort 31 = .ok (.return_, 1) := by decide +kernel
theorem dJxe99ae_isNaN_b9ae7_0 : decode cJxe99ae_isNaN_b9ae7 0 = .ok (.dload_n 0, 1) := by decide +kernel
theorem dJxe99ae_isNaN_b9ae7_1 : decode cJxe99ae_isNaN_b9ae7 1 = .ok (.dload_n 0, 1) := by decide +kernel
theorem dJxe99ae_isNaN_b9ae7_2 : decode cJxe99ae_isNaN_b9ae7 2 = .ok (.dcmp .l, 1) := by decide +kernel
theorem dJxe99ae_isNaN_b9ae7_3 : decode cJxe99ae_isNaN_b9ae7 3 = .ok (.ifCond .eq 7, 3) := by decide +kernel
theorem dJxe99ae_isNaN_b9ae7_6 : decode cJxe99ae_isNaN_b9ae7 6 = .ok (.iconst 1, 1) := by decide +kernel
theorem dJxe99ae_isNaN_b9ae7_7 : decode cJxe99ae_isNaN_b9ae7 7 = .ok (.goto 4, 3) := by decide +kernel
theorem dJxe99ae_isNaN_b9ae7_10 : decode cJxe99ae_isNaN_b9ae7 10 = .ok (.iconst 0, 1) := by decide +kernel
theorem dJxe99ae_isNaN_b9ae7_11 : decode cJxe99ae_isNaN_b9ae7 11 = .ok (.ireturn, 1) := by decide +kernel
theorem dJxe99ae_doubleToLongBits_ccdee_0 : decode cJxe99ae_doubleToLongBits_ccdee 0 = .ok (.dload_n 0, 1) := by decide +kernel
theorem dJxe99ae_doubleToLongBits_ccdee_1 : decode cJxe99ae_doubleToLongBits_ccdee 1 = .ok (.invokestatic 122, 3) := by decide +kernel
theorem dJxe99ae_doubleToLongBits_ccdee_4 : decode cJxe99ae_doubleToLongBits_ccdee 4 = .ok (.ifCond .ne 8, 3) := by decide +kernel
theorem dJxe99ae_doubleToLongBits_ccdee_7 : decode cJxe99ae_doubleToLongBits_ccdee 7 = .ok (.dload_n 0, 1) := by decide +kernel
theorem dJxe99ae_doubleToLongBits_ccdee_8 : decode cJxe99ae_doubleToLongBits_ccdee 8 = .ok (.invokestatic 134, 3) := by decide +kernel
theorem dJxe99ae_doubleToLongBits_ccdee_11 : decode cJxe99ae_doubleToLongBits_ccdee 11 = .ok (.lreturn, 1) := by decide +kernel
theorem dJxe99ae_doubleToLongBits_ccdee_12 : decode cJxe99ae_doubleToLongBits_ccdee 12 = .ok (.ldc2_w 137, 3) := by decide +kernel
theorem dJxe99ae_doubleToLongBits_ccdee_15 : decode cJxe99ae_doubleToLongBits_ccdee 15 = .ok (.lreturn, 1) := by decide +kernel
theorem dJ9_floorMod_7cf53_0 : decode cJ9_floorMod_7cf53 0 = .ok (.iload_n 0, 1) := by decide +kernel
theorem dJ9_floorMod_7cf53_1 : decode cJ9_floorMod_7cf53 1 = .ok (.iload_n 1, 1) := by decide +kernel
theorem dJ9_floorMod_7cf53_2 : decode cJ9_floorMod_7cf53 2 = .ok (.irem, 1) := by decide +kernel
theorem dJ9_floorMod_7cf53_3 : decode cJ9_floorMod_7cf53 3 = .ok (.istore_n 2, 1) := by decide +kernel
theorem dJ9_floorMod_7cf53_4 : decode cJ9_floorMod_7cf53 4 = .ok (.iload_n 0, 1) := by decide +kernel
theorem dJ9_floorMod_7cf53_5 : decode cJ9_floorMod_7cf53 5 = .ok (.iload_n 1, 1) := by decide +kernel
theorem dJ9_floorMod_7cf53_6 : decode cJ9_floorMod_7cf53 6 = .ok (.ixor, 1) := by decide +kernel
theorem dJ9_floorMod_7cf53_7 : decode cJ9_floorMod_7cf53 7 = .ok (.ifCond .ge 11, 3) := by decide +kernel
theorem dJ9_floorMod_7cf53_10 : decode cJ9_floorMod_7cf53 10 = .ok (.iload_n 2, 1) := by decide +kernel
theorem dJ9_floorMod_7cf53_11 : decode cJ9_floorMod_7cf53 11 = .ok (.ifCond .eq 7, 3) := by decide +kernel
theorem dJ9_floorMod_7cf53_14 : decode cJ9_floorMod_7cf53 14 = .ok (.iload_n 2, 1) := by decide +kernel
theorem dJ9_floorMod_7cf53_15 : decode cJ9_floorMod_7cf53 15 = .ok (.iload_n 1, 1) := by decide +kernel
theorem dJ9_floorMod_7cf53_16 : decode cJ9_floorMod_7cf53 16 = .ok (.iadd, 1) := by decide +kernel
theorem dJ9_floorMod_7cf53_17 : decode cJ9_floorMod_7cf53 17 = .ok (.ireturn, 1) := by decide +kernel
theorem dJ9_floorMod_7cf53_18 : decode cJ9_floorMod_7cf53 18 = .ok (.iload_n 2, 1) := by decide +kernel
theorem dJ9_floorMod_7cf53_19 : decode cJ9_floorMod_7cf53 19 = .ok (.ireturn, 1) := by decide +kernel
theorem dJ9_max_7cf53_0 : decode cJ9_max_7cf53 0 = .ok (.iload_n 0, 1) := by decide +kernel
theorem dJ9_max_7cf53_1 : decode cJ9_max_7cf53 1 = .ok (.iload_n 1, 1) := by decide +kernel
theorem dJ9_max_7cf53_2 : decode cJ9_max_7cf53 2 = .ok (.if_icmp .lt 7, 3) := by decide +kernel
theorem dJ9_max_7cf53_5 : decode cJ9_max_7cf53 5 = .ok (.iload_n 0, 1) := by decide +kernel
theorem dJ9_max_7cf53_6 : decode cJ9_max_7cf53 6 = .ok (.goto 4, 3) := by decide +kernel
theorem dJ9_max_7cf53_9 : decode cJ9_max_7cf53 9 = .ok (.iload_n 1, 1) := by decide +kernel
theorem dJ9_max_7cf53_10 : decode cJ9_max_7cf53 10 = .ok (.ireturn, 1) := by decide +kernel
theorem dJ9_min_7cf53_0 : decode cJ9_min_7cf53 0 = .ok (.iload_n 0, 1) := by decide +kernel
theorem dJ9_min_7cf53_1 : decode cJ9_min_7cf53 1 = .ok (.iload_n 1, 1) := by decide +kernel
theorem dJ9_min_7cf53_2 : decode cJ9_min_7cf53 2 = .ok (.if_icmp .gt 7, 3) := by decide +kernel
theorem dJ9_min_7cf53_5 : decode cJ9_min_7cf53 5 = .ok (.iload_n 0, 1) := by decide +kernel
theorem dJ9_min_7cf53_6 : decode cJ9_min_7cf53 6 = .ok (.goto 4, 3) := by decide +kernel
theorem dJ9_min_7cf53_9 : decode cJ9_min_7cf53 9 = .ok (.iload_n 1, 1) := by decide +kernel
theorem dJ9_min_7cf53_10 : decode cJ9_min_7cf53 10 = .ok (.ireturn, 1) := by decide +kernel
end
section
theorem dX10_init_0 : decode cX10_init 0 = .ok (.aload_n 0, 1) := by decide +kernel
theorem dX10_init_1 : decode cX10_init 1 = .ok (.invokespecial 1, 3) := by decide +kernel
theorem dX10_init_4 : decode cX10_init 4 = .ok (.aload_n 0, 1) := by decide +kernel
theorem dX10_init_5 : decode cX10_init 5 = .ok (.sipush 413, 3) := by decide +kernel
theorem dX10_init_8 : decode cX10_init 8 = .ok (.newarray .int, 2) := by decide +kernel
theorem dX10_init_10 : decode cX10_init 10 = .ok (.putfield 7, 3) := by decide +kernel
theorem dX10_init_13 : decode cX10_init 13 = .ok (.aload_n 0, 1) := by decide +kernel
theorem dX10_init_14 : decode cX10_init 14 = .ok (.sipush 413, 3) := by decide +kernel
theorem dX10_init_17 : decode cX10_init 17 = .ok (.newarray .int, 2) := by decide +kernel
theorem dX10_init_19 : decode cX10_init 19 = .ok (.putfield 13, 3) := by decide +kernel
theorem dX10_init_22 : decode cX10_init 22 = .ok (.aload_n 0, 1) := by decide +kernel
theorem dX10_init_23 : decode cX10_init 23 = .ok (.sipush 2478, 3) := by decide +kernel
theorem dX10_init_26 : decode cX10_init 26 = .ok (.newarray .int, 2) := by decide +kernel
theorem dX10_init_28 : decode cX10_init 28 = .ok (.putfield 16, 3) := by decide +kernel
theorem dX10_init_31 : decode cX10_init 31 = .ok (.aload_n 0, 1) := by decide +kernel
theorem dX10_init_32 : decode cX10_init 32 = .ok (.bipush 60, 2) := by decide +kernel
theorem dX10_init_34 : decode cX10_init 34 = .ok (.newarray .int, 2) := by decide +kernel
theorem dX10_init_36 : decode cX10_init 36 = .ok (.putfield 19, 3) := by decide +kernel
theorem dX10_init_39 : decode cX10_init 39 = .ok (.aload_n 0, 1) := by decide +kernel
theorem dX10_init_40 : decode cX10_init 40 = .ok (.bipush 31, 2) := by decide +kernel
theorem dX10_init_42 : decode cX10_init 42 = .ok (.newarray .int, 2) := by decide +kernel
theorem dX10_init_44 : decode cX10_init 44 = .ok (.putfield 22, 3) := by decide +kernel
theorem dX10_init_47 : decode cX10_init 47 = .ok (.aload_n 0, 1) := by decide +kernel
theorem dX10_init_48 : decode cX10_init 48 = .ok (.bipush 120, 2) := by decide +kernel
theorem dX10_init_50 : decode cX10_init 50 = .ok (.newarray .int, 2) := by decide +kernel
theorem dX10_init_52 : decode cX10_init 52 = .ok (.putfield 25, 3) := by decide +kernel
theorem dX10_init_55 : decode cX10_init 55 = .ok (.aload_n 0, 1) := by decide +kernel
theorem dX10_init_56 : decode cX10_init 56 = .ok (.bipush 10, 2) := by decide +kernel
theorem dX10_init_58 : decode cX10_init 58 = .ok (.newarray .int, 2) := by decide +kernel
theorem dX10_init_60 : decode cX10_init 60 = .ok (.putfield 28, 3) := by decide +kernel
theorem dX10_init_63 : decode cX10_init 63 = .ok (.iconst 0, 1) := by decide +kernel
theorem dX10_init_64 : decode cX10_init 64 = .ok (.istore_n 1, 1) := by decide +kernel
theorem dX10_init_65 : decode cX10_init 65 = .ok (.iload_n 1, 1) := by decide +kernel
theorem dX10_init_66 : decode cX10_init 66 = .ok (.iconst 3, 1) := by decide +kernel
theorem dX10_init_67 : decode cX10_init 67 = .ok (.if_icmp .ge 21, 3) := by decide +kernel
theorem dX10_init_70 : decode cX10_init 70 = .ok (.aload_n 0, 1) := by decide +kernel
theorem dX10_init_71 : decode cX10_init 71 = .ok (.getfield 7, 3) := by decide +kernel
theorem dX10_init_74 : decode cX10_init 74 = .ok (.bipush 64, 2) := by decide +kernel
theorem dX10_init_76 : decode cX10_init 76 = .ok (.iload_n 1, 1) := by decide +kernel
theorem dX10_init_77 : decode cX10_init 77 = .ok (.iadd, 1) := by decide +kernel
theorem dX10_init_78 : decode cX10_init 78 = .ok (.sipush 1000, 3) := by decide +kernel
theorem dX10_init_81 : decode cX10_init 81 = .ok (.iastore, 1) := by decide +kernel
theorem dX10_init_82 : decode cX10_init 82 = .ok (.iinc 1 1, 3) := by decide +kernel
theorem dX10_init_85 : decode cX10_init 85 = .ok (.goto (-20), 3) := by decide +kernel
theorem dX10_init_88 : decode cX10_init 88 = .ok (.aload_n 0, 1) := by decide +kernel
theorem dX10_init_89 : decode cX10_init 89 = .ok (.getfield 7, 3) := by decide +kernel
theorem dX10_init_92 : decode cX10_init 92 = .ok (.sipush 408, 3) := by decide +kernel
theorem dX10_init_95 : decode cX10_init 95 = .ok (.iconst 1, 1) := by decide +kernel
theorem dX10_init_96 : decode cX10_init 96 = .ok (.iastore, 1) := by decide +kernel
theorem dX10_init_97 : decode cX10_init 97 = .ok (.aload_n 0, 1) := by decide +kernel
theorem dX10_init_98 : decode cX10_init 98 = .ok (.getfield 7, 3) := by decide +kernel
theorem dX10_init_101 : decode cX10_init 101 = .ok (.sipush 409, 3) := by decide +kernel
theorem dX10_init_104 : decode cX10_init 104 = .ok (.bipush 10, 2) := by decide +kernel
theorem dX10_init_106 : decode cX10_init 106 = .ok (.iastore, 1) := by decide +kernel
theorem dX10_init_107 : decode cX10_init 107 = .ok (.aload_n 0, 1) := by decide +kernel
theorem dX10_init_108 : decode cX10_init 108 = .ok (.getfield 7, 3) := by decide +kernel
theorem dX10_init_111 : decode cX10_init 111 = .ok (.sipush 410, 3) := by decide +kernel
theorem dX10_init_114 : decode cX10_init 114 = .ok (.sipush 10000, 3) := by decide +kernel
theorem dX10_init_117 : decode cX10_init 117 = .ok (.iastore, 1) := by decide +kernel
theorem dX10_init_118 : decode cX10_init 118 = .ok (.return_, 1) := by decide +kernel
theorem dX10_thrown_0 : decode cX10_thrown 0 = .ok (.aload_n 0, 1) := by decide +kernel
theorem dX10_thrown_1 : decode cX10_thrown 1 = .ok (.getfield 31, 3) := by decide +kernel
theorem dX10_thrown_4 : decode cX10_thrown 4 = .ok (.ireturn, 1) := by decide +kernel
theorem dX10_within_0 : decode cX10_within 0 = .ok (.iload_n 0, 1) := by decide +kernel
theorem dX10_within_1 : decode cX10_within 1 = .ok (.iload_n 1, 1) := by decide +kernel
theorem dX10_within_2 : decode cX10_within 2 = .ok (.if_icmp .lt 12, 3) := by decide +kernel
theorem dX10_within_5 : decode cX10_within 5 = .ok (.iload_n 0, 1) := by decide +kernel
theorem dX10_within_6 : decode cX10_within 6 = .ok (.iload_n 2, 1) := by decide +kernel
theorem dX10_within_7 : decode cX10_within 7 = .ok (.if_icmp .gt 7, 3) := by decide +kernel
theorem dX10_within_10 : decode cX10_within 10 = .ok (.iconst 1, 1) := by decide +kernel
theorem dX10_within_11 : decode cX10_within 11 = .ok (.goto 4, 3) := by decide +kernel
theorem dX10_within_14 : decode cX10_within 14 = .ok (.iconst 0, 1) := by decide +kernel
theorem dX10_within_15 : decode cX10_within 15 = .ok (.ireturn, 1) := by decide +kernel
theorem dX10_of_0 : decode cX10_of 0 = .ok (.aload_n 0, 1) := by decide +kernel
theorem dX10_of_1 : decode cX10_of 1 = .ok (.getfield 7, 3) := by decide +kernel
theorem dX10_of_4 : decode cX10_of 4 = .ok (.bipush 70, 2) := by decide +kernel
theorem dX10_of_6 : decode cX10_of 6 = .ok (.iconst 4, 1) := by decide +kernel
theorem dX10_of_7 : decode cX10_of 7 = .ok (.iload_n 1, 1) := by decide +kernel
theorem dX10_of_8 : decode cX10_of 8 = .ok (.imul, 1) := by decide +kernel
theorem dX10_of_9 : decode cX10_of 9 = .ok (.iadd, 1) := by decide +kernel
theorem dX10_of_10 : decode cX10_of 10 = .ok (.iload_n 2, 1) := by decide +kernel
theorem dX10_of_11 : decode cX10_of 11 = .ok (.iadd, 1) := by decide +kernel
theorem dX10_of_12 : decode cX10_of 12 = .ok (.iaload, 1) := by decide +kernel
theorem dX10_of_13 : decode cX10_of 13 = .ok (.ireturn, 1) := by decide +kernel
theorem dX10_tally_0 : decode cX10_tally 0 = .ok (.aload_n 0, 1) := by decide +kernel
theorem dX10_tally_1 : decode cX10_tally 1 = .ok (.getfield 7, 3) := by decide +kernel
theorem dX10_tally_4 : decode cX10_tally 4 = .ok (.bipush 24, 2) := by decide +kernel
theorem dX10_tally_6 : decode cX10_tally 6 = .ok (.iconst 5, 1) := by decide +kernel
theorem dX10_tally_7 : decode cX10_tally 7 = .ok (.iload_n 1, 1) := by decide +kernel
theorem dX10_tally_8 : decode cX10_tally 8 = .ok (.imul, 1) := by decide +kernel
theorem dX10_tally_9 : decode cX10_tally 9 = .ok (.iadd, 1) := by decide +kernel
theorem dX10_tally_10 : decode cX10_tally 10 = .ok (.iload_n 2, 1) := by decide +kernel
theorem dX10_tally_11 : decode cX10_tally 11 = .ok (.iadd, 1) := by decide +kernel
theorem dX10_tally_12 : decode cX10_tally 12 = .ok (.dup2, 1) := by decide +kernel
theorem dX10_tally_13 : decode cX10_tally 13 = .ok (.iaload, 1) := by decide +kernel
theorem dX10_tally_14 : decode cX10_tally 14 = .ok (.iload_n 3, 1) := by decide +kernel
theorem dX10_tally_15 : decode cX10_tally 15 = .ok (.iadd, 1) := by decide +kernel
theorem dX10_tally_16 : decode cX10_tally 16 = .ok (.iastore, 1) := by decide +kernel
theorem dX10_tally_17 : decode cX10_tally 17 = .ok (.return_, 1) := by decide +kernel
theorem dX10_isKind_0 : decode cX10_isKind 0 = .ok (.iload_n 1, 1) := by decide +kernel
theorem dX10_isKind_1 : decode cX10_isKind 1 = .ok (.iconst 0, 1) := by decide +kernel
theorem dX10_isKind_2 : decode cX10_isKind 2 = .ok (.aload_n 0, 1) := by decide +kernel
theorem dX10_isKind_3 : decode cX10_isKind 3 = .ok (.getfield 7, 3) := by decide +kernel
theorem dX10_isKind_6 : decode cX10_isKind 6 = .ok (.sipush 405, 3) := by decide +kernel
theorem dX10_isKind_9 : decode cX10_isKind 9 = .ok (.iaload, 1) := by decide +kernel
theorem dX10_isKind_10 : decode cX10_isKind 10 = .ok (.iconst 1, 1) := by decide +kernel
theorem dX10_isKind_11 : decode cX10_isKind 11 = .ok (.isub, 1) := by decide +kernel
theorem dX10_isKind_12 : decode cX10_isKind 12 = .ok (.invokestatic 35, 3) := by decide +kernel
theorem dX10_isKind_15 : decode cX10_isKind 15 = .ok (.ireturn, 1) := by decide +kernel
theorem dX10_isLot_0 : decode cX10_isLot 0 = .ok (.iload_n 1, 1) := by decide +kernel
theorem dX10_isLot_1 : decode cX10_isLot 1 = .ok (.iconst 0, 1) := by decide +kernel
theorem dX10_isLot_2 : decode cX10_isLot 2 = .ok (.aload_n 0, 1) := by decide +kernel
theorem dX10_isLot_3 : decode cX10_isLot 3 = .ok (.getfield 7, 3) := by decide +kernel
theorem dX10_isLot_6 : decode cX10_isLot 6 = .ok (.sipush 406, 3) := by decide +kernel
theorem dX10_isLot_9 : decode cX10_isLot 9 = .ok (.iaload, 1) := by decide +kernel
theorem dX10_isLot_10 : decode cX10_isLot 10 = .ok (.iconst 1, 1) := by decide +kernel
theorem dX10_isLot_11 : decode cX10_isLot 11 = .ok (.isub, 1) := by decide +kernel
theorem dX10_isLot_12 : decode cX10_isLot 12 = .ok (.invokestatic 35, 3) := by decide +kernel
theorem dX10_isLot_15 : decode cX10_isLot 15 = .ok (.ireturn, 1) := by decide +kernel
theorem dX10_isPort_0 : decode cX10_isPort 0 = .ok (.iload_n 1, 1) := by decide +kernel
theorem dX10_isPort_1 : decode cX10_isPort 1 = .ok (.iconst 0, 1) := by decide +kernel
theorem dX10_isPort_2 : decode cX10_isPort 2 = .ok (.aload_n 0, 1) := by decide +kernel
theorem dX10_isPort_3 : decode cX10_isPort 3 = .ok (.getfield 7, 3) := by decide +kernel
theorem dX10_isPort_6 : decode cX10_isPort 6 = .ok (.sipush 407, 3) := by decide +kernel
theorem dX10_isPort_9 : decode cX10_isPort 9 = .ok (.iaload, 1) := by decide +kernel
theorem dX10_isPort_10 : decode cX10_isPort 10 = .ok (.iconst 1, 1) := by decide +kernel
theorem dX10_isPort_11 : decode cX10_isPort 11 = .ok (.isub, 1) := by decide +kernel
theorem dX10_isPort_12 : decode cX10_isPort 12 = .ok (.invokestatic 35, 3) := by decide +kernel
theorem dX10_isPort_15 : decode cX10_isPort 15 = .ok (.ireturn, 1) := by decide +kernel
theorem dX10_isStore_0 : decode cX10_isStore 0 = .ok (.iload_n 0, 1) := by decide +kernel
theorem dX10_isStore_1 : decode cX10_isStore 1 = .ok (.iconst 0, 1) := by decide +kernel
theorem dX10_isStore_2 : decode cX10_isStore 2 = .ok (.iconst 2, 1) := by decide +kernel
theorem dX10_isStore_3 : decode cX10_isStore 3 = .ok (.invokestatic 35, 3) := by decide +kernel
theorem dX10_isStore_6 : decode cX10_isStore 6 = .ok (.ireturn, 1) := by decide +kernel
theorem dX10_copy_0 : decode cX10_copy 0 = .ok (.iconst 0, 1) := by decide +kernel
theorem dX10_copy_1 : decode cX10_copy 1 = .ok (.istore 4, 2) := by decide +kernel
theorem dX10_copy_3 : decode cX10_copy 3 = .ok (.iload 4, 2) := by decide +kernel
theorem dX10_copy_5 : decode cX10_copy 5 = .ok (.sipush 412, 3) := by decide +kernel
theorem dX10_copy_8 : decode cX10_copy 8 = .ok (.if_icmp .gt 21, 3) := by decide +kernel
theorem dX10_copy_11 : decode cX10_copy 11 = .ok (.aload_n 2, 1) := by decide +kernel
theorem dX10_copy_12 : decode cX10_copy 12 = .ok (.iload_n 3, 1) := by decide +kernel
theorem dX10_copy_13 : decode cX10_copy 13 = .ok (.iload 4, 2) := by decide +kernel
theorem dX10_copy_15 : decode cX10_copy 15 = .ok (.iadd, 1) := by decide +kernel
theorem dX10_copy_16 : decode cX10_copy 16 = .ok (.aload_n 0, 1) := by decide +kernel
theorem dX10_copy_17 : decode cX10_copy 17 = .ok (.iload_n 1, 1) := by decide +kernel
theorem dX10_copy_18 : decode cX10_copy 18 = .ok (.iload 4, 2) := by decide +kernel
theorem dX10_copy_20 : decode cX10_copy 20 = .ok (.iadd, 1) := by decide +kernel
theorem dX10_copy_21 : decode cX10_copy 21 = .ok (.iaload, 1) := by decide +kernel
theorem dX10_copy_22 : decode cX10_copy 22 = .ok (.iastore, 1) := by decide +kernel
theorem dX10_copy_23 : decode cX10_copy 23 = .ok (.iinc 4 1, 3) := by decide +kernel
theorem dX10_copy_26 : decode cX10_copy 26 = .ok (.goto (-23), 3) := by decide +kernel
theorem dX10_copy_29 : decode cX10_copy 29 = .ok (.return_, 1) := by decide +kernel
theorem dX10_save_0 : decode cX10_save 0 = .ok (.aload_n 0, 1) := by decide +kernel
theorem dX10_save_1 : decode cX10_save 1 = .ok (.getfield 39, 3) := by decide +kernel
theorem dX10_save_4 : decode cX10_save 4 = .ok (.bipush 6, 2) := by decide +kernel
theorem dX10_save_6 : decode cX10_save 6 = .ok (.if_icmp .ne 48, 3) := by decide +kernel
theorem dX10_save_9 : decode cX10_save 9 = .ok (.sipush 413, 3) := by decide +kernel
theorem dX10_save_12 : decode cX10_save 12 = .ok (.istore_n 1, 1) := by decide +kernel
theorem dX10_save_13 : decode cX10_save 13 = .ok (.iload_n 1, 1) := by decide +kernel
theorem dX10_save_14 : decode cX10_save 14 = .ok (.sipush 2478, 3) := by decide +kernel
theorem dX10_save_17 : decode cX10_save 17 = .ok (.if_icmp .ge 27, 3) := by decide +kernel
theorem dX10_save_20 : decode cX10_save 20 = .ok (.aload_n 0, 1) := by decide +kernel
theorem dX10_save_21 : decode cX10_save 21 = .ok (.getfield 16, 3) := by decide +kernel
theorem dX10_save_24 : decode cX10_save 24 = .ok (.iload_n 1, 1) := by decide +kernel
theorem dX10_save_25 : decode cX10_save 25 = .ok (.sipush 412, 3) := by decide +kernel
theorem dX10_save_28 : decode cX10_save 28 = .ok (.isub, 1) := by decide +kernel
theorem dX10_save_29 : decode cX10_save 29 = .ok (.iconst 1, 1) := by decide +kernel
theorem dX10_save_30 : decode cX10_save 30 = .ok (.isub, 1) := by decide +kernel
theorem dX10_save_31 : decode cX10_save 31 = .ok (.aload_n 0, 1) := by decide +kernel
theorem dX10_save_32 : decode cX10_save 32 = .ok (.getfield 16, 3) := by decide +kernel
theorem dX10_save_35 : decode cX10_save 35 = .ok (.iload_n 1, 1) := by decide +kernel
theorem dX10_save_36 : decode cX10_save 36 = .ok (.iaload, 1) := by decide +kernel
theorem dX10_save_37 : decode cX10_save 37 = .ok (.iastore, 1) := by decide +kernel
theorem dX10_save_38 : decode cX10_save 38 = .ok (.iinc 1 1, 3) := by decide +kernel
theorem dX10_save_41 : decode cX10_save 41 = .ok (.goto (-28), 3) := by decide +kernel
theorem dX10_save_44 : decode cX10_save 44 = .ok (.aload_n 0, 1) := by decide +kernel
theorem dX10_save_45 : decode cX10_save 45 = .ok (.dup, 1) := by decide +kernel
theorem dX10_save_46 : decode cX10_save 46 = .ok (.getfield 39, 3) := by decide +kernel
theorem dX10_save_49 : decode cX10_save 49 = .ok (.iconst 1, 1) := by decide +kernel
theorem dX10_save_50 : decode cX10_save 50 = .ok (.isub, 1) := by decide +kernel
theorem dX10_save_51 : decode cX10_save 51 = .ok (.putfield 39, 3) := by decide +kernel
theorem dX10_save_54 : decode cX10_save 54 = .ok (.aload_n 0, 1) := by decide +kernel
theorem dX10_save_55 : decode cX10_save 55 = .ok (.getfield 7, 3) := by decide +kernel
theorem dX10_save_58 : decode cX10_save 58 = .ok (.iconst 0, 1) := by decide +kernel
theorem dX10_save_59 : decode cX10_save 59 = .ok (.aload_n 0, 1) := by decide +kernel
theorem dX10_save_60 : decode cX10_save 60 = .ok (.getfield 16, 3) := by decide +kernel
theorem dX10_save_63 : decode cX10_save 63 = .ok (.sipush 413, 3) := by decide +kernel
theorem dX10_save_66 : decode cX10_save 66 = .ok (.aload_n 0, 1) := by decide +kernel
theorem dX10_save_67 : decode cX10_save 67 = .ok (.getfield 39, 3) := by decide +kernel
theorem dX10_save_70 : decode cX10_save 70 = .ok (.imul, 1) := by decide +kernel
theorem dX10_save_71 : decode cX10_save 71 = .ok (.invokestatic 42, 3) := by decide +kernel
theorem dX10_save_74 : decode cX10_save 74 = .ok (.aload_n 0, 1) := by decide +kernel
theorem dX10_save_75 : decode cX10_save 75 = .ok (.dup, 1) := by decide +kernel
theorem dX10_save_76 : decode cX10_save 76 = .ok (.getfield 39, 3) := by decide +kernel
theorem dX10_save_79 : decode cX10_save 79 = .ok (.iconst 1, 1) := by decide +kernel
theorem dX10_save_80 : decode cX10_save 80 = .ok (.iadd, 1) := by decide +kernel
theorem dX10_save_81 : decode cX10_save 81 = .ok (.putfield 39, 3) := by decide +kernel
theorem dX10_save_84 : decode cX10_save 84 = .ok (.return_, 1) := by decide +kernel
theorem dX10_isLife_0 : decode cX10_isLife 0 = .ok (.iload_n 0, 1) := by decide +kernel
theorem dX10_isLife_1 : decode cX10_isLife 1 = .ok (.iconst 0, 1) := by decide +kernel
theorem dX10_isLife_2 : decode cX10_isLife 2 = .ok (.sipush 200, 3) := by decide +kernel
theorem dX10_isLife_5 : decode cX10_isLife 5 = .ok (.invokestatic 35, 3) := by decide +kernel
theorem dX10_isLife_8 : decode cX10_isLife 8 = .ok (.ireturn, 1) := by decide +kernel
theorem dX10_addKind_0 : decode cX10_addKind 0 = .ok (.iload_n 1, 1) := by decide +kernel
theorem dX10_addKind_1 : decode cX10_addKind 1 = .ok (.invokestatic 46, 3) := by decide +kernel
theorem dX10_addKind_4 : decode cX10_addKind 4 = .ok (.ifCond .eq 21, 3) := by decide +kernel
theorem dX10_addKind_7 : decode cX10_addKind 7 = .ok (.iload_n 2, 1) := by decide +kernel
theorem dX10_addKind_8 : decode cX10_addKind 8 = .ok (.invokestatic 46, 3) := by decide +kernel
theorem dX10_addKind_11 : decode cX10_addKind 11 = .ok (.ifCond .eq 14, 3) := by decide +kernel
theorem dX10_addKind_14 : decode cX10_addKind 14 = .ok (.iload_n 3, 1) := by decide +kernel
theorem dX10_addKind_15 : decode cX10_addKind 15 = .ok (.invokestatic 46, 3) := by decide +kernel
theorem dX10_addKind_18 : decode cX10_addKind 18 = .ok (.ifCond .eq 7, 3) := by decide +kernel
theorem dX10_addKind_21 : decode cX10_addKind 21 = .ok (.iconst 1, 1) := by decide +kernel
theorem dX10_addKind_22 : decode cX10_addKind 22 = .ok (.goto 4, 3) := by decide +kernel
theorem dX10_addKind_25 : decode cX10_addKind 25 = .ok (.iconst 0, 1) := by decide +kernel
theorem dX10_addKind_26 : decode cX10_addKind 26 = .ok (.istore 4, 2) := by decide +kernel
theorem dX10_addKind_28 : decode cX10_addKind 28 = .ok (.aload_n 0, 1) := by decide +kernel
theorem dX10_addKind_29 : decode cX10_addKind 29 = .ok (.iload 4, 2) := by decide +kernel
theorem dX10_addKind_31 : decode cX10_addKind 31 = .ok (.ifCond .ne 7, 3) := by decide +kernel
theorem dX10_addKind_34 : decode cX10_addKind 34 = .ok (.iconst 1, 1) := by decide +kernel
theorem dX10_addKind_35 : decode cX10_addKind 35 = .ok (.goto 21, 3) := by decide +kernel
theorem dX10_addKind_38 : decode cX10_addKind 38 = .ok (.aload_n 0, 1) := by decide +kernel
theorem dX10_addKind_39 : decode cX10_addKind 39 = .ok (.getfield 7, 3) := by decide +kernel
theorem dX10_addKind_42 : decode cX10_addKind 42 = .ok (.sipush 405, 3) := by decide +kernel
theorem dX10_addKind_45 : decode cX10_addKind 45 = .ok (.iaload, 1) := by decide +kernel
theorem dX10_addKind_46 : decode cX10_addKind 46 = .ok (.bipush 8, 2) := by decide +kernel
theorem dX10_addKind_48 : decode cX10_addKind 48 = .ok (.if_icmp .ne 7, 3) := by decide +kernel
theorem dX10_addKind_51 : decode cX10_addKind 51 = .ok (.iconst 2, 1) := by decide +kernel
theorem dX10_addKind_52 : decode cX10_addKind 52 = .ok (.goto 4, 3) := by decide +kernel
theorem dX10_addKind_55 : decode cX10_addKind 55 = .ok (.iconst 0, 1) := by decide +kernel
theorem dX10_addKind_56 : decode cX10_addKind 56 = .ok (.putfield 31, 3) := by decide +kernel
theorem dX10_addKind_59 : decode cX10_addKind 59 = .ok (.aload_n 0, 1) := by decide +kernel
theorem dX10_addKind_60 : decode cX10_addKind 60 = .ok (.getfield 31, 3) := by decide +kernel
theorem dX10_addKind_63 : decode cX10_addKind 63 = .ok (.ifCond .le 5, 3) := by decide +kernel
theorem dX10_addKind_66 : decode cX10_addKind 66 = .ok (.iconst 0, 1) := by decide +kernel
theorem dX10_addKind_67 : decode cX10_addKind 67 = .ok (.ireturn, 1) := by decide +kernel
theorem dX10_addKind_68 : decode cX10_addKind 68 = .ok (.aload_n 0, 1) := by decide +kernel
theorem dX10_addKind_69 : decode cX10_addKind 69 = .ok (.invokevirtual 50, 3) := by decide +kernel
theorem dX10_addKind_72 : decode cX10_addKind 72 = .ok (.aload_n 0, 1) := by decide +kernel
theorem dX10_addKind_73 : decode cX10_addKind 73 = .ok (.getfield 7, 3) := by decide +kernel
theorem dX10_addKind_76 : decode cX10_addKind 76 = .ok (.sipush 405, 3) := by decide +kernel
theorem dX10_addKind_79 : decode cX10_addKind 79 = .ok (.iaload, 1) := by decide +kernel
theorem dX10_addKind_80 : decode cX10_addKind 80 = .ok (.istore 5, 2) := by decide +kernel
theorem dX10_addKind_82 : decode cX10_addKind 82 = .ok (.aload_n 0, 1) := by decide +kernel
theorem dX10_addKind_83 : decode cX10_addKind 83 = .ok (.getfield 7, 3) := by decide +kernel
theorem dX10_addKind_86 : decode cX10_addKind 86 = .ok (.iconst 3, 1) := by decide +kernel
theorem dX10_addKind_87 : decode cX10_addKind 87 = .ok (.iload 5, 2) := by decide +kernel
theorem dX10_addKind_89 : decode cX10_addKind 89 = .ok (.imul, 1) := by decide +kernel
theorem dX10_addKind_90 : decode cX10_addKind 90 = .ok (.iload_n 1, 1) := by decide +kernel
theorem dX10_addKind_91 : decode cX10_addKind 91 = .ok (.iastore, 1) := by decide +kernel
theorem dX10_addKind_92 : decode cX10_addKind 92 = .ok (.aload_n 0, 1) := by decide +kernel
theorem dX10_addKind_93 : decode cX10_addKind 93 = .ok (.getfield 7, 3) := by decide +kernel
theorem dX10_addKind_96 : decode cX10_addKind 96 = .ok (.iconst 3, 1) := by decide +kernel
theorem dX10_addKind_97 : decode cX10_addKind 97 = .ok (.iload 5, 2) := by decide +kernel
theorem dX10_addKind_99 : decode cX10_addKind 99 = .ok (.imul, 1) := by decide +kernel
theorem dX10_addKind_100 : decode cX10_addKind 100 = .ok (.iconst 1, 1) := by decide +kernel
theorem dX10_addKind_101 : decode cX10_addKind 101 = .ok (.iadd, 1) := by decide +kernel
theorem dX10_addKind_102 : decode cX10_addKind 102 = .ok (.iload_n 2, 1) := by decide +kernel
theorem dX10_addKind_103 : decode cX10_addKind 103 = .ok (.iastore, 1) := by decide +kernel
theorem dX10_addKind_104 : decode cX10_addKind 104 = .ok (.aload_n 0, 1) := by decide +kernel
theorem dX10_addKind_105 : decode cX10_addKind 105 = .ok (.getfield 7, 3) := by decide +kernel
theorem dX10_addKind_108 : decode cX10_addKind 108 = .ok (.iconst 3, 1) := by decide +kernel
theorem dX10_addKind_109 : decode cX10_addKind 109 = .ok (.iload 5, 2) := by decide +kernel
theorem dX10_addKind_111 : decode cX10_addKind 111 = .ok (.imul, 1) := by decide +kernel
theorem dX10_addKind_112 : decode cX10_addKind 112 = .ok (.iconst 2, 1) := by decide +kernel
theorem dX10_addKind_113 : decode cX10_addKind 113 = .ok (.iadd, 1) := by decide +kernel
theorem dX10_addKind_114 : decode cX10_addKind 114 = .ok (.iload_n 3, 1) := by decide +kernel
theorem dX10_addKind_115 : decode cX10_addKind 115 = .ok (.iastore, 1) := by decide +kernel
theorem dX10_addKind_116 : decode cX10_addKind 116 = .ok (.aload_n 0, 1) := by decide +kernel
theorem dX10_addKind_117 : decode cX10_addKind 117 = .ok (.getfield 7, 3) := by decide +kernel
theorem dX10_addKind_120 : decode cX10_addKind 120 = .ok (.sipush 405, 3) := by decide +kernel
theorem dX10_addKind_123 : decode cX10_addKind 123 = .ok (.dup2, 1) := by decide +kernel
theorem dX10_addKind_124 : decode cX10_addKind 124 = .ok (.iaload, 1) := by decide +kernel
theorem dX10_addKind_125 : decode cX10_addKind 125 = .ok (.iconst 1, 1) := by decide +kernel
theorem dX10_addKind_126 : decode cX10_addKind 126 = .ok (.iadd, 1) := by decide +kernel
theorem dX10_addKind_127 : decode cX10_addKind 127 = .ok (.iastore, 1) := by decide +kernel
theorem dX10_addKind_128 : decode cX10_addKind 128 = .ok (.iload 5, 2) := by decide +kernel
theorem dX10_addKind_130 : decode cX10_addKind 130 = .ok (.ireturn, 1) := by decide +kernel
theorem dX10_inStore_0 : decode cX10_inStore 0 = .ok (.iconst 0, 1) := by decide +kernel
theorem dX10_inStore_1 : decode cX10_inStore 1 = .ok (.istore_n 2, 1) := by decide +kernel
theorem dX10_inStore_2 : decode cX10_inStore 2 = .ok (.iconst 0, 1) := by decide +kernel
theorem dX10_inStore_3 : decode cX10_inStore 3 = .ok (.istore_n 3, 1) := by decide +kernel
theorem dX10_inStore_4 : decode cX10_inStore 4 = .ok (.iload_n 3, 1) := by decide +kernel
theorem dX10_inStore_5 : decode cX10_inStore 5 = .ok (.aload_n 0, 1) := by decide +kernel
theorem dX10_inStore_6 : decode cX10_inStore 6 = .ok (.getfield 7, 3) := by decide +kernel
theorem dX10_inStore_9 : decode cX10_inStore 9 = .ok (.sipush 406, 3) := by decide +kernel
theorem dX10_inStore_12 : decode cX10_inStore 12 = .ok (.iaload, 1) := by decide +kernel
theorem dX10_inStore_13 : decode cX10_inStore 13 = .ok (.if_icmp .ge 32, 3) := by decide +kernel
theorem dX10_inStore_16 : decode cX10_inStore 16 = .ok (.iload_n 2, 1) := by decide +kernel
theorem dX10_inStore_17 : decode cX10_inStore 17 = .ok (.aload_n 0, 1) := by decide +kernel
theorem dX10_inStore_18 : decode cX10_inStore 18 = .ok (.iload_n 3, 1) := by decide +kernel
theorem dX10_inStore_19 : decode cX10_inStore 19 = .ok (.iconst 1, 1) := by decide +kernel
theorem dX10_inStore_20 : decode cX10_inStore 20 = .ok (.invokevirtual 53, 3) := by decide +kernel
theorem dX10_inStore_23 : decode cX10_inStore 23 = .ok (.iload_n 1, 1) := by decide +kernel
theorem dX10_inStore_24 : decode cX10_inStore 24 = .ok (.if_icmp .ne 12, 3) := by decide +kernel
theorem dX10_inStore_27 : decode cX10_inStore 27 = .ok (.aload_n 0, 1) := by decide +kernel
theorem dX10_inStore_28 : decode cX10_inStore 28 = .ok (.iload_n 3, 1) := by decide +kernel
theorem dX10_inStore_29 : decode cX10_inStore 29 = .ok (.iconst 2, 1) := by decide +kernel
theorem dX10_inStore_30 : decode cX10_inStore 30 = .ok (.invokevirtual 53, 3) := by decide +kernel
theorem dX10_inStore_33 : decode cX10_inStore 33 = .ok (.goto 4, 3) := by decide +kernel
theorem dX10_inStore_36 : decode cX10_inStore 36 = .ok (.iconst 0, 1) := by decide +kernel
theorem dX10_inStore_37 : decode cX10_inStore 37 = .ok (.iadd, 1) := by decide +kernel
theorem dX10_inStore_38 : decode cX10_inStore 38 = .ok (.istore_n 2, 1) := by decide +kernel
theorem dX10_inStore_39 : decode cX10_inStore 39 = .ok (.iinc 3 1, 3) := by decide +kernel
theorem dX10_inStore_42 : decode cX10_inStore 42 = .ok (.goto (-38), 3) := by decide +kernel
theorem dX10_inStore_45 : decode cX10_inStore 45 = .ok (.iload_n 2, 1) := by decide +kernel
theorem dX10_inStore_46 : decode cX10_inStore 46 = .ok (.ireturn, 1) := by decide +kernel
theorem dX10_setRoom_0 : decode cX10_setRoom 0 = .ok (.aload_n 0, 1) := by decide +kernel
theorem dX10_setRoom_1 : decode cX10_setRoom 1 = .ok (.iload_n 1, 1) := by decide +kernel
theorem dX10_setRoom_2 : decode cX10_setRoom 2 = .ok (.invokestatic 57, 3) := by decide +kernel
theorem dX10_setRoom_5 : decode cX10_setRoom 5 = .ok (.ifCond .ne 7, 3) := by decide +kernel
theorem dX10_setRoom_8 : decode cX10_setRoom 8 = .ok (.iconst 1, 1) := by decide +kernel
theorem dX10_setRoom_9 : decode cX10_setRoom 9 = .ok (.goto 32, 3) := by decide +kernel
theorem dX10_setRoom_12 : decode cX10_setRoom 12 = .ok (.iload_n 2, 1) := by decide +kernel
theorem dX10_setRoom_13 : decode cX10_setRoom 13 = .ok (.iconst 0, 1) := by decide +kernel
theorem dX10_setRoom_14 : decode cX10_setRoom 14 = .ok (.sipush 5000, 3) := by decide +kernel
theorem dX10_setRoom_17 : decode cX10_setRoom 17 = .ok (.invokestatic 35, 3) := by decide +kernel
theorem dX10_setRoom_20 : decode cX10_setRoom 20 = .ok (.ifCond .ne 7, 3) := by decide +kernel
theorem dX10_setRoom_23 : decode cX10_setRoom 23 = .ok (.iconst 2, 1) := by decide +kernel
theorem dX10_setRoom_24 : decode cX10_setRoom 24 = .ok (.goto 17, 3) := by decide +kernel
theorem dX10_setRoom_27 : decode cX10_setRoom 27 = .ok (.aload_n 0, 1) := by decide +kernel
theorem dX10_setRoom_28 : decode cX10_setRoom 28 = .ok (.iload_n 1, 1) := by decide +kernel
theorem dX10_setRoom_29 : decode cX10_setRoom 29 = .ok (.invokevirtual 60, 3) := by decide +kernel
theorem dX10_setRoom_32 : decode cX10_setRoom 32 = .ok (.iload_n 2, 1) := by decide +kernel
theorem dX10_setRoom_33 : decode cX10_setRoom 33 = .ok (.if_icmp .le 7, 3) := by decide +kernel
theorem dX10_setRoom_36 : decode cX10_setRoom 36 = .ok (.iconst 3, 1) := by decide +kernel
theorem dX10_setRoom_37 : decode cX10_setRoom 37 = .ok (.goto 4, 3) := by decide +kernel
theorem dX10_setRoom_40 : decode cX10_setRoom 40 = .ok (.iconst 0, 1) := by decide +kernel
theorem dX10_setRoom_41 : decode cX10_setRoom 41 = .ok (.putfield 31, 3) := by decide +kernel
theorem dX10_setRoom_44 : decode cX10_setRoom 44 = .ok (.aload_n 0, 1) := by decide +kernel
theorem dX10_setRoom_45 : decode cX10_setRoom 45 = .ok (.getfield 31, 3) := by decide +kernel
theorem dX10_setRoom_48 : decode cX10_setRoom 48 = .ok (.ifCond .le 5, 3) := by decide +kernel
theorem dX10_setRoom_51 : decode cX10_setRoom 51 = .ok (.iconst 0, 1) := by decide +kernel
theorem dX10_setRoom_52 : decode cX10_setRoom 52 = .ok (.ireturn, 1) := by decide +kernel
theorem dX10_setRoom_53 : decode cX10_setRoom 53 = .ok (.aload_n 0, 1) := by decide +kernel
theorem dX10_setRoom_54 : decode cX10_setRoom 54 = .ok (.invokevirtual 50, 3) := by decide +kernel
theorem dX10_setRoom_57 : decode cX10_setRoom 57 = .ok (.aload_n 0, 1) := by decide +kernel
theorem dX10_setRoom_58 : decode cX10_setRoom 58 = .ok (.getfield 7, 3) := by decide +kernel
theorem dX10_setRoom_61 : decode cX10_setRoom 61 = .ok (.bipush 64, 2) := by decide +kernel
theorem dX10_setRoom_63 : decode cX10_setRoom 63 = .ok (.iload_n 1, 1) := by decide +kernel
theorem dX10_setRoom_64 : decode cX10_setRoom 64 = .ok (.iadd, 1) := by decide +kernel
theorem dX10_setRoom_65 : decode cX10_setRoom 65 = .ok (.iaload, 1) := by decide +kernel
theorem dX10_setRoom_66 : decode cX10_setRoom 66 = .ok (.istore_n 3, 1) := by decide +kernel
theorem dX10_setRoom_67 : decode cX10_setRoom 67 = .ok (.aload_n 0, 1) := by decide +kernel
theorem dX10_setRoom_68 : decode cX10_setRoom 68 = .ok (.getfield 7, 3) := by decide +kernel
theorem dX10_setRoom_71 : decode cX10_setRoom 71 = .ok (.bipush 64, 2) := by decide +kernel
theorem dX10_setRoom_73 : decode cX10_setRoom 73 = .ok (.iload_n 1, 1) := by decide +kernel
theorem dX10_setRoom_74 : decode cX10_setRoom 74 = .ok (.iadd, 1) := by decide +kernel
theorem dX10_setRoom_75 : decode cX10_setRoom 75 = .ok (.iload_n 2, 1) := by decide +kernel
theorem dX10_setRoom_76 : decode cX10_setRoom 76 = .ok (.iastore, 1) := by decide +kernel
theorem dX10_setRoom_77 : decode cX10_setRoom 77 = .ok (.iload_n 3, 1) := by decide +kernel
theorem dX10_setRoom_78 : decode cX10_setRoom 78 = .ok (.ireturn, 1) := by decide +kernel
theorem dX10_warm_0 : decode cX10_warm 0 = .ok (.aload_n 0, 1) := by decide +kernel
theorem dX10_warm_1 : decode cX10_warm 1 = .ok (.iload_n 1, 1) := by decide +kernel
theorem dX10_warm_2 : decode cX10_warm 2 = .ok (.iconst 1, 1) := by decide +kernel
theorem dX10_warm_3 : decode cX10_warm 3 = .ok (.iconst 2, 1) := by decide +kernel
theorem dX10_warm_4 : decode cX10_warm 4 = .ok (.invokestatic 35, 3) := by decide +kernel
theorem dX10_warm_7 : decode cX10_warm 7 = .ok (.ifCond .ne 7, 3) := by decide +kernel
theorem dX10_warm_10 : decode cX10_warm 10 = .ok (.iconst 1, 1) := by decide +kernel
theorem dX10_warm_11 : decode cX10_warm 11 = .ok (.goto 18, 3) := by decide +kernel
theorem dX10_warm_14 : decode cX10_warm 14 = .ok (.iload_n 2, 1) := by decide +kernel
theorem dX10_warm_15 : decode cX10_warm 15 = .ok (.iconst 0, 1) := by decide +kernel
theorem dX10_warm_16 : decode cX10_warm 16 = .ok (.bipush 30, 2) := by decide +kernel
theorem dX10_warm_18 : decode cX10_warm 18 = .ok (.invokestatic 35, 3) := by decide +kernel
theorem dX10_warm_21 : decode cX10_warm 21 = .ok (.ifCond .eq 7, 3) := by decide +kernel
theorem dX10_warm_24 : decode cX10_warm 24 = .ok (.iconst 0, 1) := by decide +kernel
theorem dX10_warm_25 : decode cX10_warm 25 = .ok (.goto 4, 3) := by decide +kernel
theorem dX10_warm_28 : decode cX10_warm 28 = .ok (.iconst 2, 1) := by decide +kernel
theorem dX10_warm_29 : decode cX10_warm 29 = .ok (.putfield 31, 3) := by decide +kernel
theorem dX10_warm_32 : decode cX10_warm 32 = .ok (.aload_n 0, 1) := by decide +kernel
theorem dX10_warm_33 : decode cX10_warm 33 = .ok (.getfield 31, 3) := by decide +kernel
theorem dX10_warm_36 : decode cX10_warm 36 = .ok (.ifCond .le 5, 3) := by decide +kernel
theorem dX10_warm_39 : decode cX10_warm 39 = .ok (.iconst 0, 1) := by decide +kernel
theorem dX10_warm_40 : decode cX10_warm 40 = .ok (.ireturn, 1) := by decide +kernel
theorem dX10_warm_41 : decode cX10_warm 41 = .ok (.aload_n 0, 1) := by decide +kernel
theorem dX10_warm_42 : decode cX10_warm 42 = .ok (.invokevirtual 50, 3) := by decide +kernel
theorem dX10_warm_45 : decode cX10_warm 45 = .ok (.aload_n 0, 1) := by decide +kernel
theorem dX10_warm_46 : decode cX10_warm 46 = .ok (.getfield 7, 3) := by decide +kernel
theorem dX10_warm_49 : decode cX10_warm 49 = .ok (.bipush 67, 2) := by decide +kernel
theorem dX10_warm_51 : decode cX10_warm 51 = .ok (.iload_n 1, 1) := by decide +kernel
theorem dX10_warm_52 : decode cX10_warm 52 = .ok (.iadd, 1) := by decide +kernel
theorem dX10_warm_53 : decode cX10_warm 53 = .ok (.iaload, 1) := by decide +kernel
theorem dX10_warm_54 : decode cX10_warm 54 = .ok (.istore_n 3, 1) := by decide +kernel
theorem dX10_warm_55 : decode cX10_warm 55 = .ok (.aload_n 0, 1) := by decide +kernel
theorem dX10_warm_56 : decode cX10_warm 56 = .ok (.getfield 7, 3) := by decide +kernel
theorem dX10_warm_59 : decode cX10_warm 59 = .ok (.bipush 67, 2) := by decide +kernel
theorem dX10_warm_61 : decode cX10_warm 61 = .ok (.iload_n 1, 1) := by decide +kernel
theorem dX10_warm_62 : decode cX10_warm 62 = .ok (.iadd, 1) := by decide +kernel
theorem dX10_warm_63 : decode cX10_warm 63 = .ok (.iload_n 2, 1) := by decide +kernel
theorem dX10_warm_64 : decode cX10_warm 64 = .ok (.iastore, 1) := by decide +kernel
theorem dX10_warm_65 : decode cX10_warm 65 = .ok (.iload_n 3, 1) := by decide +kernel
theorem dX10_warm_66 : decode cX10_warm 66 = .ok (.ireturn, 1) := by decide +kernel
theorem dX10_setCrew_0 : decode cX10_setCrew 0 = .ok (.aload_n 0, 1) := by decide +kernel
theorem dX10_setCrew_1 : decode cX10_setCrew 1 = .ok (.iload_n 1, 1) := by decide +kernel
theorem dX10_setCrew_2 : decode cX10_setCrew 2 = .ok (.iconst 1, 1) := by decide +kernel
theorem dX10_setCrew_3 : decode cX10_setCrew 3 = .ok (.bipush 100, 2) := by decide +kernel
theorem dX10_setCrew_5 : decode cX10_setCrew 5 = .ok (.invokestatic 35, 3) := by decide +kernel
theorem dX10_setCrew_8 : decode cX10_setCrew 8 = .ok (.ifCond .eq 7, 3) := by decide +kernel
theorem dX10_setCrew_11 : decode cX10_setCrew 11 = .ok (.iconst 0, 1) := by decide +kernel
theorem dX10_setCrew_12 : decode cX10_setCrew 12 = .ok (.goto 4, 3) := by decide +kernel
theorem dX10_setCrew_15 : decode cX10_setCrew 15 = .ok (.iconst 1, 1) := by decide +kernel
theorem dX10_setCrew_16 : decode cX10_setCrew 16 = .ok (.putfield 31, 3) := by decide +kernel
theorem dX10_setCrew_19 : decode cX10_setCrew 19 = .ok (.aload_n 0, 1) := by decide +kernel
theorem dX10_setCrew_20 : decode cX10_setCrew 20 = .ok (.getfield 31, 3) := by decide +kernel
theorem dX10_setCrew_23 : decode cX10_setCrew 23 = .ok (.ifCond .le 5, 3) := by decide +kernel
theorem dX10_setCrew_26 : decode cX10_setCrew 26 = .ok (.iconst 0, 1) := by decide +kernel
theorem dX10_setCrew_27 : decode cX10_setCrew 27 = .ok (.ireturn, 1) := by decide +kernel
theorem dX10_setCrew_28 : decode cX10_setCrew 28 = .ok (.aload_n 0, 1) := by decide +kernel
theorem dX10_setCrew_29 : decode cX10_setCrew 29 = .ok (.invokevirtual 50, 3) := by decide +kernel
theorem dX10_setCrew_32 : decode cX10_setCrew 32 = .ok (.aload_n 0, 1) := by decide +kernel
theorem dX10_setCrew_33 : decode cX10_setCrew 33 = .ok (.getfield 7, 3) := by decide +kernel
theorem dX10_setCrew_36 : decode cX10_setCrew 36 = .ok (.sipush 409, 3) := by decide +kernel
theorem dX10_setCrew_39 : decode cX10_setCrew 39 = .ok (.iaload, 1) := by decide +kernel
theorem dX10_setCrew_40 : decode cX10_setCrew 40 = .ok (.istore_n 2, 1) := by decide +kernel
theorem dX10_setCrew_41 : decode cX10_setCrew 41 = .ok (.aload_n 0, 1) := by decide +kernel
theorem dX10_setCrew_42 : decode cX10_setCrew 42 = .ok (.getfield 7, 3) := by decide +kernel
theorem dX10_setCrew_45 : decode cX10_setCrew 45 = .ok (.sipush 409, 3) := by decide +kernel
theorem dX10_setCrew_48 : decode cX10_setCrew 48 = .ok (.iload_n 1, 1) := by decide +kernel
theorem dX10_setCrew_49 : decode cX10_setCrew 49 = .ok (.iastore, 1) := by decide +kernel
theorem dX10_setCrew_50 : decode cX10_setCrew 50 = .ok (.iload_n 2, 1) := by decide +kernel
theorem dX10_setCrew_51 : decode cX10_setCrew 51 = .ok (.ireturn, 1) := by decide +kernel
theorem dX10_pay_0 : decode cX10_pay 0 = .ok (.aload_n 0, 1) := by decide +kernel
theorem dX10_pay_1 : decode cX10_pay 1 = .ok (.getfield 7, 3) := by decide +kernel
theorem dX10_pay_4 : decode cX10_pay 4 = .ok (.sipush 410, 3) := by decide +kernel
theorem dX10_pay_7 : decode cX10_pay 7 = .ok (.iaload, 1) := by decide +kernel
theorem dX10_pay_8 : decode cX10_pay 8 = .ok (.i2l, 1) := by decide +kernel
theorem dX10_pay_9 : decode cX10_pay 9 = .ok (.iload_n 1, 1) := by decide +kernel
theorem dX10_pay_10 : decode cX10_pay 10 = .ok (.i2l, 1) := by decide +kernel
theorem dX10_pay_11 : decode cX10_pay 11 = .ok (.ladd, 1) := by decide +kernel
theorem dX10_pay_12 : decode cX10_pay 12 = .ok (.lstore_n 2, 1) := by decide +kernel
theorem dX10_pay_13 : decode cX10_pay 13 = .ok (.aload_n 0, 1) := by decide +kernel
theorem dX10_pay_14 : decode cX10_pay 14 = .ok (.lload_n 2, 1) := by decide +kernel
theorem dX10_pay_15 : decode cX10_pay 15 = .ok (.lconst 0, 1) := by decide +kernel
theorem dX10_pay_16 : decode cX10_pay 16 = .ok (.lcmp, 1) := by decide +kernel
theorem dX10_pay_17 : decode cX10_pay 17 = .ok (.ifCond .lt 15, 3) := by decide +kernel
theorem dX10_pay_20 : decode cX10_pay 20 = .ok (.lload_n 2, 1) := by decide +kernel
theorem dX10_pay_21 : decode cX10_pay 21 = .ok (.ldc2_w 64, 3) := by decide +kernel
theorem dX10_pay_24 : decode cX10_pay 24 = .ok (.lcmp, 1) := by decide +kernel
theorem dX10_pay_25 : decode cX10_pay 25 = .ok (.ifCond .gt 7, 3) := by decide +kernel
theorem dX10_pay_28 : decode cX10_pay 28 = .ok (.iconst 0, 1) := by decide +kernel
theorem dX10_pay_29 : decode cX10_pay 29 = .ok (.goto 4, 3) := by decide +kernel
theorem dX10_pay_32 : decode cX10_pay 32 = .ok (.iconst 1, 1) := by decide +kernel
theorem dX10_pay_33 : decode cX10_pay 33 = .ok (.putfield 31, 3) := by decide +kernel
theorem dX10_pay_36 : decode cX10_pay 36 = .ok (.aload_n 0, 1) := by decide +kernel
theorem dX10_pay_37 : decode cX10_pay 37 = .ok (.getfield 31, 3) := by decide +kernel
theorem dX10_pay_40 : decode cX10_pay 40 = .ok (.ifCond .le 5, 3) := by decide +kernel
theorem dX10_pay_43 : decode cX10_pay 43 = .ok (.iconst 0, 1) := by decide +kernel
theorem dX10_pay_44 : decode cX10_pay 44 = .ok (.ireturn, 1) := by decide +kernel
theorem dX10_pay_45 : decode cX10_pay 45 = .ok (.aload_n 0, 1) := by decide +kernel
theorem dX10_pay_46 : decode cX10_pay 46 = .ok (.invokevirtual 50, 3) := by decide +kernel
theorem dX10_pay_49 : decode cX10_pay 49 = .ok (.aload_n 0, 1) := by decide +kernel
theorem dX10_pay_50 : decode cX10_pay 50 = .ok (.getfield 7, 3) := by decide +kernel
theorem dX10_pay_53 : decode cX10_pay 53 = .ok (.sipush 410, 3) := by decide +kernel
theorem dX10_pay_56 : decode cX10_pay 56 = .ok (.lload_n 2, 1) := by decide +kernel
theorem dX10_pay_57 : decode cX10_pay 57 = .ok (.l2i, 1) := by decide +kernel
theorem dX10_pay_58 : decode cX10_pay 58 = .ok (.iastore, 1) := by decide +kernel
theorem dX10_pay_59 : decode cX10_pay 59 = .ok (.aload_n 0, 1) := by decide +kernel
theorem dX10_pay_60 : decode cX10_pay 60 = .ok (.getfield 7, 3) := by decide +kernel
theorem dX10_pay_63 : decode cX10_pay 63 = .ok (.sipush 410, 3) := by decide +kernel
theorem dX10_pay_66 : decode cX10_pay 66 = .ok (.iaload, 1) := by decide +kernel
theorem dX10_pay_67 : decode cX10_pay 67 = .ok (.ireturn, 1) := by decide +kernel
theorem dX10_portOf_0 : decode cX10_portOf 0 = .ok (.iconst (-1), 1) := by decide +kernel
theorem dX10_portOf_1 : decode cX10_portOf 1 = .ok (.istore_n 2, 1) := by decide +kernel
theorem dX10_portOf_2 : decode cX10_portOf 2 = .ok (.iconst 0, 1) := by decide +kernel
theorem dX10_portOf_3 : decode cX10_portOf 3 = .ok (.istore_n 3, 1) := by decide +kernel
theorem dX10_portOf_4 : decode cX10_portOf 4 = .ok (.iload_n 3, 1) := by decide +kernel
theorem dX10_portOf_5 : decode cX10_portOf 5 = .ok (.aload_n 0, 1) := by decide +kernel
theorem dX10_portOf_6 : decode cX10_portOf 6 = .ok (.getfield 7, 3) := by decide +kernel
theorem dX10_portOf_9 : decode cX10_portOf 9 = .ok (.sipush 407, 3) := by decide +kernel
theorem dX10_portOf_12 : decode cX10_portOf 12 = .ok (.iaload, 1) := by decide +kernel
theorem dX10_portOf_13 : decode cX10_portOf 13 = .ok (.if_icmp .ge 32, 3) := by decide +kernel
theorem dX10_portOf_16 : decode cX10_portOf 16 = .ok (.aload_n 0, 1) := by decide +kernel
theorem dX10_portOf_17 : decode cX10_portOf 17 = .ok (.getfield 7, 3) := by decide +kernel
theorem dX10_portOf_20 : decode cX10_portOf 20 = .ok (.sipush 324, 3) := by decide +kernel
theorem dX10_portOf_23 : decode cX10_portOf 23 = .ok (.bipush 10, 2) := by decide +kernel
theorem dX10_portOf_25 : decode cX10_portOf 25 = .ok (.iload_n 3, 1) := by decide +kernel
theorem dX10_portOf_26 : decode cX10_portOf 26 = .ok (.imul, 1) := by decide +kernel
theorem dX10_portOf_27 : decode cX10_portOf 27 = .ok (.iadd, 1) := by decide +kernel
theorem dX10_portOf_28 : decode cX10_portOf 28 = .ok (.iaload, 1) := by decide +kernel
theorem dX10_portOf_29 : decode cX10_portOf 29 = .ok (.iload_n 1, 1) := by decide +kernel
theorem dX10_portOf_30 : decode cX10_portOf 30 = .ok (.if_icmp .ne 7, 3) := by decide +kernel
theorem dX10_portOf_33 : decode cX10_portOf 33 = .ok (.iload_n 3, 1) := by decide +kernel
theorem dX10_portOf_34 : decode cX10_portOf 34 = .ok (.goto 4, 3) := by decide +kernel
theorem dX10_portOf_37 : decode cX10_portOf 37 = .ok (.iload_n 2, 1) := by decide +kernel
theorem dX10_portOf_38 : decode cX10_portOf 38 = .ok (.istore_n 2, 1) := by decide +kernel
theorem dX10_portOf_39 : decode cX10_portOf 39 = .ok (.iinc 3 1, 3) := by decide +kernel
theorem dX10_portOf_42 : decode cX10_portOf 42 = .ok (.goto (-38), 3) := by decide +kernel
theorem dX10_portOf_45 : decode cX10_portOf 45 = .ok (.iload_n 2, 1) := by decide +kernel
theorem dX10_portOf_46 : decode cX10_portOf 46 = .ok (.ireturn, 1) := by decide +kernel
theorem dX10_addPort_0 : decode cX10_addPort 0 = .ok (.iload_n 1, 1) := by decide +kernel
theorem dX10_addPort_1 : decode cX10_addPort 1 = .ok (.iconst 0, 1) := by decide +kernel
theorem dX10_addPort_2 : decode cX10_addPort 2 = .ok (.sipush 500, 3) := by decide +kernel
theorem dX10_addPort_5 : decode cX10_addPort 5 = .ok (.invokestatic 35, 3) := by decide +kernel
theorem dX10_addPort_8 : decode cX10_addPort 8 = .ok (.ifCond .eq 18, 3) := by decide +kernel
theorem dX10_addPort_11 : decode cX10_addPort 11 = .ok (.iload_n 2, 1) := by decide +kernel
theorem dX10_addPort_12 : decode cX10_addPort 12 = .ok (.iconst 0, 1) := by decide +kernel
theorem dX10_addPort_13 : decode cX10_addPort 13 = .ok (.sipush 900, 3) := by decide +kernel
theorem dX10_addPort_16 : decode cX10_addPort 16 = .ok (.invokestatic 35, 3) := by decide +kernel
theorem dX10_addPort_19 : decode cX10_addPort 19 = .ok (.ifCond .eq 7, 3) := by decide +kernel
theorem dX10_addPort_22 : decode cX10_addPort 22 = .ok (.iconst 1, 1) := by decide +kernel
theorem dX10_addPort_23 : decode cX10_addPort 23 = .ok (.goto 4, 3) := by decide +kernel
theorem dX10_addPort_26 : decode cX10_addPort 26 = .ok (.iconst 0, 1) := by decide +kernel
theorem dX10_addPort_27 : decode cX10_addPort 27 = .ok (.istore_n 3, 1) := by decide +kernel
theorem dX10_addPort_28 : decode cX10_addPort 28 = .ok (.aload_n 0, 1) := by decide +kernel
theorem dX10_addPort_29 : decode cX10_addPort 29 = .ok (.iload_n 3, 1) := by decide +kernel
theorem dX10_addPort_30 : decode cX10_addPort 30 = .ok (.ifCond .ne 7, 3) := by decide +kernel
theorem dX10_addPort_33 : decode cX10_addPort 33 = .ok (.iconst 1, 1) := by decide +kernel
theorem dX10_addPort_34 : decode cX10_addPort 34 = .ok (.goto 30, 3) := by decide +kernel
theorem dX10_addPort_37 : decode cX10_addPort 37 = .ok (.aload_n 0, 1) := by decide +kernel
theorem dX10_addPort_38 : decode cX10_addPort 38 = .ok (.getfield 7, 3) := by decide +kernel
theorem dX10_addPort_41 : decode cX10_addPort 41 = .ok (.sipush 407, 3) := by decide +kernel
theorem dX10_addPort_44 : decode cX10_addPort 44 = .ok (.iaload, 1) := by decide +kernel
theorem dX10_addPort_45 : decode cX10_addPort 45 = .ok (.bipush 8, 2) := by decide +kernel
theorem dX10_addPort_47 : decode cX10_addPort 47 = .ok (.if_icmp .eq 12, 3) := by decide +kernel
theorem dX10_addPort_50 : decode cX10_addPort 50 = .ok (.aload_n 0, 1) := by decide +kernel
theorem dX10_addPort_51 : decode cX10_addPort 51 = .ok (.iload_n 1, 1) := by decide +kernel
theorem dX10_addPort_52 : decode cX10_addPort 52 = .ok (.invokevirtual 66, 3) := by decide +kernel
theorem dX10_addPort_55 : decode cX10_addPort 55 = .ok (.iconst (-1), 1) := by decide +kernel
theorem dX10_addPort_56 : decode cX10_addPort 56 = .ok (.if_icmp .eq 7, 3) := by decide +kernel
theorem dX10_addPort_59 : decode cX10_addPort 59 = .ok (.iconst 2, 1) := by decide +kernel
theorem dX10_addPort_60 : decode cX10_addPort 60 = .ok (.goto 4, 3) := by decide +kernel
theorem dX10_addPort_63 : decode cX10_addPort 63 = .ok (.iconst 0, 1) := by decide +kernel
theorem dX10_addPort_64 : decode cX10_addPort 64 = .ok (.putfield 31, 3) := by decide +kernel
theorem dX10_addPort_67 : decode cX10_addPort 67 = .ok (.aload_n 0, 1) := by decide +kernel
theorem dX10_addPort_68 : decode cX10_addPort 68 = .ok (.getfield 31, 3) := by decide +kernel
theorem dX10_addPort_71 : decode cX10_addPort 71 = .ok (.ifCond .le 5, 3) := by decide +kernel
theorem dX10_addPort_74 : decode cX10_addPort 74 = .ok (.iconst 0, 1) := by decide +kernel
theorem dX10_addPort_75 : decode cX10_addPort 75 = .ok (.ireturn, 1) := by decide +kernel
theorem dX10_addPort_76 : decode cX10_addPort 76 = .ok (.aload_n 0, 1) := by decide +kernel
theorem dX10_addPort_77 : decode cX10_addPort 77 = .ok (.invokevirtual 50, 3) := by decide +kernel
theorem dX10_addPort_80 : decode cX10_addPort 80 = .ok (.aload_n 0, 1) := by decide +kernel
theorem dX10_addPort_81 : decode cX10_addPort 81 = .ok (.getfield 7, 3) := by decide +kernel
theorem dX10_addPort_84 : decode cX10_addPort 84 = .ok (.sipush 407, 3) := by decide +kernel
theorem dX10_addPort_87 : decode cX10_addPort 87 = .ok (.iaload, 1) := by decide +kernel
theorem dX10_addPort_88 : decode cX10_addPort 88 = .ok (.istore 4, 2) := by decide +kernel
theorem dX10_addPort_90 : decode cX10_addPort 90 = .ok (.iload 4, 2) := by decide +kernel
theorem dX10_addPort_92 : decode cX10_addPort 92 = .ok (.ifCond .le 83, 3) := by decide +kernel
theorem dX10_addPort_95 : decode cX10_addPort 95 = .ok (.aload_n 0, 1) := by decide +kernel
theorem dX10_addPort_96 : decode cX10_addPort 96 = .ok (.getfield 7, 3) := by decide +kernel
theorem dX10_addPort_99 : decode cX10_addPort 99 = .ok (.sipush 324, 3) := by decide +kernel
theorem dX10_addPort_102 : decode cX10_addPort 102 = .ok (.bipush 10, 2) := by decide +kernel
theorem dX10_addPort_104 : decode cX10_addPort 104 = .ok (.iload 4, 2) := by decide +kernel
theorem dX10_addPort_106 : decode cX10_addPort 106 = .ok (.imul, 1) := by decide +kernel
theorem dX10_addPort_107 : decode cX10_addPort 107 = .ok (.iadd, 1) := by decide +kernel
theorem dX10_addPort_108 : decode cX10_addPort 108 = .ok (.bipush 10, 2) := by decide +kernel
theorem dX10_addPort_110 : decode cX10_addPort 110 = .ok (.isub, 1) := by decide +kernel
theorem dX10_addPort_111 : decode cX10_addPort 111 = .ok (.iaload, 1) := by decide +kernel
theorem dX10_addPort_112 : decode cX10_addPort 112 = .ok (.iload_n 1, 1) := by decide +kernel
theorem dX10_addPort_113 : decode cX10_addPort 113 = .ok (.if_icmp .le 62, 3) := by decide +kernel
theorem dX10_addPort_116 : decode cX10_addPort 116 = .ok (.iconst 0, 1) := by decide +kernel
theorem dX10_addPort_117 : decode cX10_addPort 117 = .ok (.istore 5, 2) := by decide +kernel
theorem dX10_addPort_119 : decode cX10_addPort 119 = .ok (.iload 5, 2) := by decide +kernel
theorem dX10_addPort_121 : decode cX10_addPort 121 = .ok (.bipush 10, 2) := by decide +kernel
theorem dX10_addPort_123 : decode cX10_addPort 123 = .ok (.if_icmp .ge 46, 3) := by decide +kernel
theorem dX10_addPort_126 : decode cX10_addPort 126 = .ok (.aload_n 0, 1) := by decide +kernel
theorem dX10_addPort_127 : decode cX10_addPort 127 = .ok (.getfield 7, 3) := by decide +kernel
theorem dX10_addPort_130 : decode cX10_addPort 130 = .ok (.sipush 324, 3) := by decide +kernel
theorem dX10_addPort_133 : decode cX10_addPort 133 = .ok (.bipush 10, 2) := by decide +kernel
theorem dX10_addPort_135 : decode cX10_addPort 135 = .ok (.iload 4, 2) := by decide +kernel
theorem dX10_addPort_137 : decode cX10_addPort 137 = .ok (.imul, 1) := by decide +kernel
theorem dX10_addPort_138 : decode cX10_addPort 138 = .ok (.iadd, 1) := by decide +kernel
theorem dX10_addPort_139 : decode cX10_addPort 139 = .ok (.iload 5, 2) := by decide +kernel
theorem dX10_addPort_141 : decode cX10_addPort 141 = .ok (.iadd, 1) := by decide +kernel
theorem dX10_addPort_142 : decode cX10_addPort 142 = .ok (.aload_n 0, 1) := by decide +kernel
theorem dX10_addPort_143 : decode cX10_addPort 143 = .ok (.getfield 7, 3) := by decide +kernel
theorem dX10_addPort_146 : decode cX10_addPort 146 = .ok (.sipush 324, 3) := by decide +kernel
theorem dX10_addPort_149 : decode cX10_addPort 149 = .ok (.bipush 10, 2) := by decide +kernel
theorem dX10_addPort_151 : decode cX10_addPort 151 = .ok (.iload 4, 2) := by decide +kernel
theorem dX10_addPort_153 : decode cX10_addPort 153 = .ok (.imul, 1) := by decide +kernel
theorem dX10_addPort_154 : decode cX10_addPort 154 = .ok (.iadd, 1) := by decide +kernel
theorem dX10_addPort_155 : decode cX10_addPort 155 = .ok (.bipush 10, 2) := by decide +kernel
theorem dX10_addPort_157 : decode cX10_addPort 157 = .ok (.isub, 1) := by decide +kernel
theorem dX10_addPort_158 : decode cX10_addPort 158 = .ok (.iload 5, 2) := by decide +kernel
theorem dX10_addPort_160 : decode cX10_addPort 160 = .ok (.iadd, 1) := by decide +kernel
theorem dX10_addPort_161 : decode cX10_addPort 161 = .ok (.iaload, 1) := by decide +kernel
theorem dX10_addPort_162 : decode cX10_addPort 162 = .ok (.iastore, 1) := by decide +kernel
theorem dX10_addPort_163 : decode cX10_addPort 163 = .ok (.iinc 5 1, 3) := by decide +kernel
theorem dX10_addPort_166 : decode cX10_addPort 166 = .ok (.goto (-47), 3) := by decide +kernel
theorem dX10_addPort_169 : decode cX10_addPort 169 = .ok (.iinc 4 (-1), 3) := by decide +kernel
theorem dX10_addPort_172 : decode cX10_addPort 172 = .ok (.goto (-82), 3) := by decide +kernel
theorem dX10_addPort_175 : decode cX10_addPort 175 = .ok (.iconst 0, 1) := by decide +kernel
theorem dX10_addPort_176 : decode cX10_addPort 176 = .ok (.istore 5, 2) := by decide +kernel
theorem dX10_addPort_178 : decode cX10_addPort 178 = .ok (.iload 5, 2) := by decide +kernel
theorem dX10_addPort_180 : decode cX10_addPort 180 = .ok (.bipush 10, 2) := by decide +kernel
theorem dX10_addPort_182 : decode cX10_addPort 182 = .ok (.if_icmp .ge 46, 3) := by decide +kernel
theorem dX10_addPort_185 : decode cX10_addPort 185 = .ok (.aload_n 0, 1) := by decide +kernel
theorem dX10_addPort_186 : decode cX10_addPort 186 = .ok (.getfield 7, 3) := by decide +kernel
theorem dX10_addPort_189 : decode cX10_addPort 189 = .ok (.sipush 324, 3) := by decide +kernel
theorem dX10_addPort_192 : decode cX10_addPort 192 = .ok (.bipush 10, 2) := by decide +kernel
theorem dX10_addPort_194 : decode cX10_addPort 194 = .ok (.iload 4, 2) := by decide +kernel
theorem dX10_addPort_196 : decode cX10_addPort 196 = .ok (.imul, 1) := by decide +kernel
theorem dX10_addPort_197 : decode cX10_addPort 197 = .ok (.iadd, 1) := by decide +kernel
theorem dX10_addPort_198 : decode cX10_addPort 198 = .ok (.iload 5, 2) := by decide +kernel
theorem dX10_addPort_200 : decode cX10_addPort 200 = .ok (.iadd, 1) := by decide +kernel
theorem dX10_addPort_201 : decode cX10_addPort 201 = .ok (.iload 5, 2) := by decide +kernel
theorem dX10_addPort_203 : decode cX10_addPort 203 = .ok (.ifCond .ne 7, 3) := by decide +kernel
theorem dX10_addPort_206 : decode cX10_addPort 206 = .ok (.iload_n 1, 1) := by decide +kernel
theorem dX10_addPort_207 : decode cX10_addPort 207 = .ok (.goto 14, 3) := by decide +kernel
theorem dX10_addPort_210 : decode cX10_addPort 210 = .ok (.iload 5, 2) := by decide +kernel
theorem dX10_addPort_212 : decode cX10_addPort 212 = .ok (.iconst 1, 1) := by decide +kernel
theorem dX10_addPort_213 : decode cX10_addPort 213 = .ok (.if_icmp .ne 7, 3) := by decide +kernel
theorem dX10_addPort_216 : decode cX10_addPort 216 = .ok (.iload_n 2, 1) := by decide +kernel
theorem dX10_addPort_217 : decode cX10_addPort 217 = .ok (.goto 4, 3) := by decide +kernel
theorem dX10_addPort_220 : decode cX10_addPort 220 = .ok (.iconst 0, 1) := by decide +kernel
theorem dX10_addPort_221 : decode cX10_addPort 221 = .ok (.iastore, 1) := by decide +kernel
theorem dX10_addPort_222 : decode cX10_addPort 222 = .ok (.iinc 5 1, 3) := by decide +kernel
theorem dX10_addPort_225 : decode cX10_addPort 225 = .ok (.goto (-47), 3) := by decide +kernel
theorem dX10_addPort_228 : decode cX10_addPort 228 = .ok (.aload_n 0, 1) := by decide +kernel
theorem dX10_addPort_229 : decode cX10_addPort 229 = .ok (.getfield 7, 3) := by decide +kernel
theorem dX10_addPort_232 : decode cX10_addPort 232 = .ok (.sipush 407, 3) := by decide +kernel
theorem dX10_addPort_235 : decode cX10_addPort 235 = .ok (.dup2, 1) := by decide +kernel
theorem dX10_addPort_236 : decode cX10_addPort 236 = .ok (.iaload, 1) := by decide +kernel
theorem dX10_addPort_237 : decode cX10_addPort 237 = .ok (.iconst 1, 1) := by decide +kernel
theorem dX10_addPort_238 : decode cX10_addPort 238 = .ok (.iadd, 1) := by decide +kernel
theorem dX10_addPort_239 : decode cX10_addPort 239 = .ok (.iastore, 1) := by decide +kernel
theorem dX10_addPort_240 : decode cX10_addPort 240 = .ok (.iload 4, 2) := by decide +kernel
theorem dX10_addPort_242 : decode cX10_addPort 242 = .ok (.ireturn, 1) := by decide +kernel
theorem dX10_removePort_0 : decode cX10_removePort 0 = .ok (.aload_n 0, 1) := by decide +kernel
theorem dX10_removePort_1 : decode cX10_removePort 1 = .ok (.aload_n 0, 1) := by decide +kernel
theorem dX10_removePort_2 : decode cX10_removePort 2 = .ok (.iload_n 1, 1) := by decide +kernel
theorem dX10_removePort_3 : decode cX10_removePort 3 = .ok (.invokevirtual 69, 3) := by decide +kernel
theorem dX10_removePort_6 : decode cX10_removePort 6 = .ok (.ifCond .eq 7, 3) := by decide +kernel
theorem dX10_removePort_9 : decode cX10_removePort 9 = .ok (.iconst 0, 1) := by decide +kernel
theorem dX10_removePort_10 : decode cX10_removePort 10 = .ok (.goto 4, 3) := by decide +kernel
theorem dX10_removePort_13 : decode cX10_removePort 13 = .ok (.iconst 1, 1) := by decide +kernel
theorem dX10_removePort_14 : decode cX10_removePort 14 = .ok (.putfield 31, 3) := by decide +kernel
theorem dX10_removePort_17 : decode cX10_removePort 17 = .ok (.aload_n 0, 1) := by decide +kernel
theorem dX10_removePort_18 : decode cX10_removePort 18 = .ok (.getfield 31, 3) := by decide +kernel
theorem dX10_removePort_21 : decode cX10_removePort 21 = .ok (.ifCond .le 5, 3) := by decide +kernel
theorem dX10_removePort_24 : decode cX10_removePort 24 = .ok (.iconst 0, 1) := by decide +kernel
theorem dX10_removePort_25 : decode cX10_removePort 25 = .ok (.ireturn, 1) := by decide +kernel
theorem dX10_removePort_26 : decode cX10_removePort 26 = .ok (.aload_n 0, 1) := by decide +kernel
theorem dX10_removePort_27 : decode cX10_removePort 27 = .ok (.invokevirtual 50, 3) := by decide +kernel
theorem dX10_removePort_30 : decode cX10_removePort 30 = .ok (.aload_n 0, 1) := by decide +kernel
theorem dX10_removePort_31 : decode cX10_removePort 31 = .ok (.getfield 7, 3) := by decide +kernel
theorem dX10_removePort_34 : decode cX10_removePort 34 = .ok (.sipush 324, 3) := by decide +kernel
theorem dX10_removePort_37 : decode cX10_removePort 37 = .ok (.bipush 10, 2) := by decide +kernel
theorem dX10_removePort_39 : decode cX10_removePort 39 = .ok (.iload_n 1, 1) := by decide +kernel
theorem dX10_removePort_40 : decode cX10_removePort 40 = .ok (.imul, 1) := by decide +kernel
theorem dX10_removePort_41 : decode cX10_removePort 41 = .ok (.iadd, 1) := by decide +kernel
theorem dX10_removePort_42 : decode cX10_removePort 42 = .ok (.iaload, 1) := by decide +kernel
theorem dX10_removePort_43 : decode cX10_removePort 43 = .ok (.istore_n 2, 1) := by decide +kernel
theorem dX10_removePort_44 : decode cX10_removePort 44 = .ok (.aload_n 0, 1) := by decide +kernel
theorem dX10_removePort_45 : decode cX10_removePort 45 = .ok (.getfield 7, 3) := by decide +kernel
theorem dX10_removePort_48 : decode cX10_removePort 48 = .ok (.sipush 407, 3) := by decide +kernel
theorem dX10_removePort_51 : decode cX10_removePort 51 = .ok (.dup2, 1) := by decide +kernel
theorem dX10_removePort_52 : decode cX10_removePort 52 = .ok (.iaload, 1) := by decide +kernel
theorem dX10_removePort_53 : decode cX10_removePort 53 = .ok (.iconst 1, 1) := by decide +kernel
theorem dX10_removePort_54 : decode cX10_removePort 54 = .ok (.isub, 1) := by decide +kernel
theorem dX10_removePort_55 : decode cX10_removePort 55 = .ok (.iastore, 1) := by decide +kernel
theorem dX10_removePort_56 : decode cX10_removePort 56 = .ok (.sipush 324, 3) := by decide +kernel
theorem dX10_removePort_59 : decode cX10_removePort 59 = .ok (.bipush 10, 2) := by decide +kernel
theorem dX10_removePort_61 : decode cX10_removePort 61 = .ok (.iload_n 1, 1) := by decide +kernel
theorem dX10_removePort_62 : decode cX10_removePort 62 = .ok (.imul, 1) := by decide +kernel
theorem dX10_removePort_63 : decode cX10_removePort 63 = .ok (.iadd, 1) := by decide +kernel
theorem dX10_removePort_64 : decode cX10_removePort 64 = .ok (.istore_n 3, 1) := by decide +kernel
theorem dX10_removePort_65 : decode cX10_removePort 65 = .ok (.iload_n 3, 1) := by decide +kernel
theorem dX10_removePort_66 : decode cX10_removePort 66 = .ok (.sipush 324, 3) := by decide +kernel
theorem dX10_removePort_69 : decode cX10_removePort 69 = .ok (.bipush 10, 2) := by decide +kernel
theorem dX10_removePort_71 : decode cX10_removePort 71 = .ok (.aload_n 0, 1) := by decide +kernel
theorem dX10_removePort_72 : decode cX10_removePort 72 = .ok (.getfield 7, 3) := by decide +kernel
theorem dX10_removePort_75 : decode cX10_removePort 75 = .ok (.sipush 407, 3) := by decide +kernel
theorem dX10_removePort_78 : decode cX10_removePort 78 = .ok (.iaload, 1) := by decide +kernel
theorem dX10_removePort_79 : decode cX10_removePort 79 = .ok (.imul, 1) := by decide +kernel
theorem dX10_removePort_80 : decode cX10_removePort 80 = .ok (.iadd, 1) := by decide +kernel
theorem dX10_removePort_81 : decode cX10_removePort 81 = .ok (.if_icmp .ge 24, 3) := by decide +kernel
theorem dX10_removePort_84 : decode cX10_removePort 84 = .ok (.aload_n 0, 1) := by decide +kernel
theorem dX10_removePort_85 : decode cX10_removePort 85 = .ok (.getfield 7, 3) := by decide +kernel
theorem dX10_removePort_88 : decode cX10_removePort 88 = .ok (.iload_n 3, 1) := by decide +kernel
theorem dX10_removePort_89 : decode cX10_removePort 89 = .ok (.aload_n 0, 1) := by decide +kernel
theorem dX10_removePort_90 : decode cX10_removePort 90 = .ok (.getfield 7, 3) := by decide +kernel
theorem dX10_removePort_93 : decode cX10_removePort 93 = .ok (.iload_n 3, 1) := by decide +kernel
theorem dX10_removePort_94 : decode cX10_removePort 94 = .ok (.bipush 10, 2) := by decide +kernel
theorem dX10_removePort_96 : decode cX10_removePort 96 = .ok (.iadd, 1) := by decide +kernel
theorem dX10_removePort_97 : decode cX10_removePort 97 = .ok (.iaload, 1) := by decide +kernel
theorem dX10_removePort_98 : decode cX10_removePort 98 = .ok (.iastore, 1) := by decide +kernel
theorem dX10_removePort_99 : decode cX10_removePort 99 = .ok (.iinc 3 1, 3) := by decide +kernel
theorem dX10_removePort_102 : decode cX10_removePort 102 = .ok (.goto (-37), 3) := by decide +kernel
theorem dX10_removePort_105 : decode cX10_removePort 105 = .ok (.iload_n 2, 1) := by decide +kernel
theorem dX10_removePort_106 : decode cX10_removePort 106 = .ok (.ireturn, 1) := by decide +kernel
theorem dX10_setPrice_0 : decode cX10_setPrice 0 = .ok (.aload_n 0, 1) := by decide +kernel
theorem dX10_setPrice_1 : decode cX10_setPrice 1 = .ok (.aload_n 0, 1) := by decide +kernel
theorem dX10_setPrice_2 : decode cX10_setPrice 2 = .ok (.iload_n 1, 1) := by decide +kernel
theorem dX10_setPrice_3 : decode cX10_setPrice 3 = .ok (.invokevirtual 69, 3) := by decide +kernel
theorem dX10_setPrice_6 : decode cX10_setPrice 6 = .ok (.ifCond .eq 11, 3) := by decide +kernel
theorem dX10_setPrice_9 : decode cX10_setPrice 9 = .ok (.aload_n 0, 1) := by decide +kernel
theorem dX10_setPrice_10 : decode cX10_setPrice 10 = .ok (.iload_n 2, 1) := by decide +kernel
theorem dX10_setPrice_11 : decode cX10_setPrice 11 = .ok (.invokevirtual 72, 3) := by decide +kernel
theorem dX10_setPrice_14 : decode cX10_setPrice 14 = .ok (.ifCond .ne 7, 3) := by decide +kernel
theorem dX10_setPrice_17 : decode cX10_setPrice 17 = .ok (.iconst 1, 1) := by decide +kernel
theorem dX10_setPrice_18 : decode cX10_setPrice 18 = .ok (.goto 18, 3) := by decide +kernel
theorem dX10_setPrice_21 : decode cX10_setPrice 21 = .ok (.iload_n 3, 1) := by decide +kernel
theorem dX10_setPrice_22 : decode cX10_setPrice 22 = .ok (.iconst 0, 1) := by decide +kernel
theorem dX10_setPrice_23 : decode cX10_setPrice 23 = .ok (.bipush 100, 2) := by decide +kernel
theorem dX10_setPrice_25 : decode cX10_setPrice 25 = .ok (.invokestatic 35, 3) := by decide +kernel
theorem dX10_setPrice_28 : decode cX10_setPrice 28 = .ok (.ifCond .eq 7, 3) := by decide +kernel
theorem dX10_setPrice_31 : decode cX10_setPrice 31 = .ok (.iconst 0, 1) := by decide +kernel
theorem dX10_setPrice_32 : decode cX10_setPrice 32 = .ok (.goto 4, 3) := by decide +kernel
theorem dX10_setPrice_35 : decode cX10_setPrice 35 = .ok (.iconst 2, 1) := by decide +kernel
theorem dX10_setPrice_36 : decode cX10_setPrice 36 = .ok (.putfield 31, 3) := by decide +kernel
theorem dX10_setPrice_39 : decode cX10_setPrice 39 = .ok (.aload_n 0, 1) := by decide +kernel
theorem dX10_setPrice_40 : decode cX10_setPrice 40 = .ok (.getfield 31, 3) := by decide +kernel
theorem dX10_setPrice_43 : decode cX10_setPrice 43 = .ok (.ifCond .le 5, 3) := by decide +kernel
theorem dX10_setPrice_46 : decode cX10_setPrice 46 = .ok (.iconst 0, 1) := by decide +kernel
theorem dX10_setPrice_47 : decode cX10_setPrice 47 = .ok (.ireturn, 1) := by decide +kernel
theorem dX10_setPrice_48 : decode cX10_setPrice 48 = .ok (.aload_n 0, 1) := by decide +kernel
theorem dX10_setPrice_49 : decode cX10_setPrice 49 = .ok (.invokevirtual 50, 3) := by decide +kernel
theorem dX10_setPrice_52 : decode cX10_setPrice 52 = .ok (.sipush 324, 3) := by decide +kernel
theorem dX10_setPrice_55 : decode cX10_setPrice 55 = .ok (.bipush 10, 2) := by decide +kernel
theorem dX10_setPrice_57 : decode cX10_setPrice 57 = .ok (.iload_n 1, 1) := by decide +kernel
theorem dX10_setPrice_58 : decode cX10_setPrice 58 = .ok (.imul, 1) := by decide +kernel
theorem dX10_setPrice_59 : decode cX10_setPrice 59 = .ok (.iadd, 1) := by decide +kernel
theorem dX10_setPrice_60 : decode cX10_setPrice 60 = .ok (.iconst 2, 1) := by decide +kernel
theorem dX10_setPrice_61 : decode cX10_setPrice 61 = .ok (.iadd, 1) := by decide +kernel
theorem dX10_setPrice_62 : decode cX10_setPrice 62 = .ok (.iload_n 2, 1) := by decide +kernel
theorem dX10_setPrice_63 : decode cX10_setPrice 63 = .ok (.iadd, 1) := by decide +kernel
theorem dX10_setPrice_64 : decode cX10_setPrice 64 = .ok (.istore 4, 2) := by decide +kernel
theorem dX10_setPrice_66 : decode cX10_setPrice 66 = .ok (.aload_n 0, 1) := by decide +kernel
theorem dX10_setPrice_67 : decode cX10_setPrice 67 = .ok (.getfield 7, 3) := by decide +kernel
theorem dX10_setPrice_70 : decode cX10_setPrice 70 = .ok (.iload 4, 2) := by decide +kernel
theorem dX10_setPrice_72 : decode cX10_setPrice 72 = .ok (.iaload, 1) := by decide +kernel
theorem dX10_setPrice_73 : decode cX10_setPrice 73 = .ok (.istore 5, 2) := by decide +kernel
theorem dX10_setPrice_75 : decode cX10_setPrice 75 = .ok (.aload_n 0, 1) := by decide +kernel
theorem dX10_setPrice_76 : decode cX10_setPrice 76 = .ok (.getfield 7, 3) := by decide +kernel
theorem dX10_setPrice_79 : decode cX10_setPrice 79 = .ok (.iload 4, 2) := by decide +kernel
theorem dX10_setPrice_81 : decode cX10_setPrice 81 = .ok (.iload_n 3, 1) := by decide +kernel
theorem dX10_setPrice_82 : decode cX10_setPrice 82 = .ok (.iastore, 1) := by decide +kernel
theorem dX10_setPrice_83 : decode cX10_setPrice 83 = .ok (.iload 5, 2) := by decide +kernel
theorem dX10_setPrice_85 : decode cX10_setPrice 85 = .ok (.ireturn, 1) := by decide +kernel
theorem dX10_lifeIn_0 : decode cX10_lifeIn 0 = .ok (.aload_n 0, 1) := by decide +kernel
theorem dX10_lifeIn_1 : decode cX10_lifeIn 1 = .ok (.getfield 7, 3) := by decide +kernel
theorem dX10_lifeIn_4 : decode cX10_lifeIn 4 = .ok (.iconst 3, 1) := by decide +kernel
theorem dX10_lifeIn_5 : decode cX10_lifeIn 5 = .ok (.iload_n 1, 1) := by decide +kernel
theorem dX10_lifeIn_6 : decode cX10_lifeIn 6 = .ok (.imul, 1) := by decide +kernel
theorem dX10_lifeIn_7 : decode cX10_lifeIn 7 = .ok (.iload_n 3, 1) := by decide +kernel
theorem dX10_lifeIn_8 : decode cX10_lifeIn 8 = .ok (.ifCond .le 7, 3) := by decide +kernel
theorem dX10_lifeIn_11 : decode cX10_lifeIn 11 = .ok (.iconst 0, 1) := by decide +kernel
theorem dX10_lifeIn_12 : decode cX10_lifeIn 12 = .ok (.goto 4, 3) := by decide +kernel
theorem dX10_lifeIn_15 : decode cX10_lifeIn 15 = .ok (.iload_n 2, 1) := by decide +kernel
theorem dX10_lifeIn_16 : decode cX10_lifeIn 16 = .ok (.iadd, 1) := by decide +kernel
theorem dX10_lifeIn_17 : decode cX10_lifeIn 17 = .ok (.iaload, 1) := by decide +kernel
theorem dX10_lifeIn_18 : decode cX10_lifeIn 18 = .ok (.ireturn, 1) := by decide +kernel
theorem dX10_ages_0 : decode cX10_ages 0 = .ok (.aload_n 0, 1) := by decide +kernel
theorem dX10_ages_1 : decode cX10_ages 1 = .ok (.iload_n 1, 1) := by decide +kernel
theorem dX10_ages_2 : decode cX10_ages 2 = .ok (.iload_n 2, 1) := by decide +kernel
theorem dX10_ages_3 : decode cX10_ages 3 = .ok (.iload_n 3, 1) := by decide +kernel
theorem dX10_ages_4 : decode cX10_ages 4 = .ok (.invokevirtual 75, 3) := by decide +kernel
theorem dX10_ages_7 : decode cX10_ages 7 = .ok (.istore 4, 2) := by decide +kernel
theorem dX10_ages_9 : decode cX10_ages 9 = .ok (.sipush 1000, 3) := by decide +kernel
theorem dX10_ages_12 : decode cX10_ages 12 = .ok (.iload 4, 2) := by decide +kernel
theorem dX10_ages_14 : decode cX10_ages 14 = .ok (.ifCond .ne 7, 3) := by decide +kernel
theorem dX10_ages_17 : decode cX10_ages 17 = .ok (.iconst 1, 1) := by decide +kernel
theorem dX10_ages_18 : decode cX10_ages 18 = .ok (.goto 5, 3) := by decide +kernel
theorem dX10_ages_21 : decode cX10_ages 21 = .ok (.iload 4, 2) := by decide +kernel
theorem dX10_ages_23 : decode cX10_ages 23 = .ok (.idiv, 1) := by decide +kernel
theorem dX10_ages_24 : decode cX10_ages 24 = .ok (.ireturn, 1) := by decide +kernel
theorem dX10_daysLeft_0 : decode cX10_daysLeft 0 = .ok (.aload_n 0, 1) := by decide +kernel
theorem dX10_daysLeft_1 : decode cX10_daysLeft 1 = .ok (.iload_n 1, 1) := by decide +kernel
theorem dX10_daysLeft_2 : decode cX10_daysLeft 2 = .ok (.iconst 1, 1) := by decide +kernel
theorem dX10_daysLeft_3 : decode cX10_daysLeft 3 = .ok (.invokevirtual 53, 3) := by decide +kernel
theorem dX10_daysLeft_6 : decode cX10_daysLeft 6 = .ok (.istore_n 2, 1) := by decide +kernel
theorem dX10_daysLeft_7 : decode cX10_daysLeft 7 = .ok (.aload_n 0, 1) := by decide +kernel
theorem dX10_daysLeft_8 : decode cX10_daysLeft 8 = .ok (.getfield 7, 3) := by decide +kernel
theorem dX10_daysLeft_11 : decode cX10_daysLeft 11 = .ok (.bipush 67, 2) := by decide +kernel
theorem dX10_daysLeft_13 : decode cX10_daysLeft 13 = .ok (.iload_n 2, 1) := by decide +kernel
theorem dX10_daysLeft_14 : decode cX10_daysLeft 14 = .ok (.iadd, 1) := by decide +kernel
theorem dX10_daysLeft_15 : decode cX10_daysLeft 15 = .ok (.iaload, 1) := by decide +kernel
theorem dX10_daysLeft_16 : decode cX10_daysLeft 16 = .ok (.istore_n 3, 1) := by decide +kernel
theorem dX10_daysLeft_17 : decode cX10_daysLeft 17 = .ok (.aload_n 0, 1) := by decide +kernel
theorem dX10_daysLeft_18 : decode cX10_daysLeft 18 = .ok (.iload_n 1, 1) := by decide +kernel
theorem dX10_daysLeft_19 : decode cX10_daysLeft 19 = .ok (.iconst 3, 1) := by decide +kernel
theorem dX10_daysLeft_20 : decode cX10_daysLeft 20 = .ok (.invokevirtual 53, 3) := by decide +kernel
theorem dX10_daysLeft_23 : decode cX10_daysLeft 23 = .ok (.istore 4, 2) := by decide +kernel
theorem dX10_daysLeft_25 : decode cX10_daysLeft 25 = .ok (.iconst 0, 1) := by decide +kernel
theorem dX10_daysLeft_26 : decode cX10_daysLeft 26 = .ok (.istore 5, 2) := by decide +kernel
theorem dX10_daysLeft_28 : decode cX10_daysLeft 28 = .ok (.iload 4, 2) := by decide +kernel
theorem dX10_daysLeft_30 : decode cX10_daysLeft 30 = .ok (.sipush 1000, 3) := by decide +kernel
theorem dX10_daysLeft_33 : decode cX10_daysLeft 33 = .ok (.if_icmp .ge 38, 3) := by decide +kernel
theorem dX10_daysLeft_36 : decode cX10_daysLeft 36 = .ok (.iload 4, 2) := by decide +kernel
theorem dX10_daysLeft_38 : decode cX10_daysLeft 38 = .ok (.aload_n 0, 1) := by decide +kernel
theorem dX10_daysLeft_39 : decode cX10_daysLeft 39 = .ok (.aload_n 0, 1) := by decide +kernel
theorem dX10_daysLeft_40 : decode cX10_daysLeft 40 = .ok (.iload_n 1, 1) := by decide +kernel
theorem dX10_daysLeft_41 : decode cX10_daysLeft 41 = .ok (.iconst 0, 1) := by decide +kernel
theorem dX10_daysLeft_42 : decode cX10_daysLeft 42 = .ok (.invokevirtual 53, 3) := by decide +kernel
theorem dX10_daysLeft_45 : decode cX10_daysLeft 45 = .ok (.iload_n 2, 1) := by decide +kernel
theorem dX10_daysLeft_46 : decode cX10_daysLeft 46 = .ok (.iload_n 3, 1) := by decide +kernel
theorem dX10_daysLeft_47 : decode cX10_daysLeft 47 = .ok (.invokevirtual 79, 3) := by decide +kernel
theorem dX10_daysLeft_50 : decode cX10_daysLeft 50 = .ok (.iadd, 1) := by decide +kernel
theorem dX10_daysLeft_51 : decode cX10_daysLeft 51 = .ok (.istore 4, 2) := by decide +kernel
theorem dX10_daysLeft_53 : decode cX10_daysLeft 53 = .ok (.iload_n 3, 1) := by decide +kernel
theorem dX10_daysLeft_54 : decode cX10_daysLeft 54 = .ok (.iload_n 3, 1) := by decide +kernel
theorem dX10_daysLeft_55 : decode cX10_daysLeft 55 = .ok (.ifCond .le 7, 3) := by decide +kernel
theorem dX10_daysLeft_58 : decode cX10_daysLeft 58 = .ok (.iconst 1, 1) := by decide +kernel
theorem dX10_daysLeft_59 : decode cX10_daysLeft 59 = .ok (.goto 4, 3) := by decide +kernel
theorem dX10_daysLeft_62 : decode cX10_daysLeft 62 = .ok (.iconst 0, 1) := by decide +kernel
theorem dX10_daysLeft_63 : decode cX10_daysLeft 63 = .ok (.isub, 1) := by decide +kernel
theorem dX10_daysLeft_64 : decode cX10_daysLeft 64 = .ok (.istore_n 3, 1) := by decide +kernel
theorem dX10_daysLeft_65 : decode cX10_daysLeft 65 = .ok (.iinc 5 1, 3) := by decide +kernel
theorem dX10_daysLeft_68 : decode cX10_daysLeft 68 = .ok (.goto (-40), 3) := by decide +kernel
theorem dX10_daysLeft_71 : decode cX10_daysLeft 71 = .ok (.iload 5, 2) := by decide +kernel
theorem dX10_daysLeft_73 : decode cX10_daysLeft 73 = .ok (.ireturn, 1) := by decide +kernel
theorem dX10_putLot_0 : decode cX10_putLot 0 = .ok (.bipush 70, 2) := by decide +kernel
theorem dX10_putLot_2 : decode cX10_putLot 2 = .ok (.iconst 4, 1) := by decide +kernel
theorem dX10_putLot_3 : decode cX10_putLot 3 = .ok (.aload_n 0, 1) := by decide +kernel
theorem dX10_putLot_4 : decode cX10_putLot 4 = .ok (.getfield 7, 3) := by decide +kernel
theorem dX10_putLot_7 : decode cX10_putLot 7 = .ok (.sipush 406, 3) := by decide +kernel
theorem dX10_putLot_10 : decode cX10_putLot 10 = .ok (.iaload, 1) := by decide +kernel
theorem dX10_putLot_11 : decode cX10_putLot 11 = .ok (.imul, 1) := by decide +kernel
theorem dX10_putLot_12 : decode cX10_putLot 12 = .ok (.iadd, 1) := by decide +kernel
theorem dX10_putLot_13 : decode cX10_putLot 13 = .ok (.istore 5, 2) := by decide +kernel
theorem dX10_putLot_15 : decode cX10_putLot 15 = .ok (.aload_n 0, 1) := by decide +kernel
theorem dX10_putLot_16 : decode cX10_putLot 16 = .ok (.getfield 7, 3) := by decide +kernel
theorem dX10_putLot_19 : decode cX10_putLot 19 = .ok (.iload 5, 2) := by decide +kernel
theorem dX10_putLot_21 : decode cX10_putLot 21 = .ok (.iload_n 1, 1) := by decide +kernel
theorem dX10_putLot_22 : decode cX10_putLot 22 = .ok (.iastore, 1) := by decide +kernel
theorem dX10_putLot_23 : decode cX10_putLot 23 = .ok (.aload_n 0, 1) := by decide +kernel
theorem dX10_putLot_24 : decode cX10_putLot 24 = .ok (.getfield 7, 3) := by decide +kernel
theorem dX10_putLot_27 : decode cX10_putLot 27 = .ok (.iload 5, 2) := by decide +kernel
theorem dX10_putLot_29 : decode cX10_putLot 29 = .ok (.iconst 1, 1) := by decide +kernel
theorem dX10_putLot_30 : decode cX10_putLot 30 = .ok (.iadd, 1) := by decide +kernel
theorem dX10_putLot_31 : decode cX10_putLot 31 = .ok (.iload_n 2, 1) := by decide +kernel
theorem dX10_putLot_32 : decode cX10_putLot 32 = .ok (.iastore, 1) := by decide +kernel
theorem dX10_putLot_33 : decode cX10_putLot 33 = .ok (.aload_n 0, 1) := by decide +kernel
theorem dX10_putLot_34 : decode cX10_putLot 34 = .ok (.getfield 7, 3) := by decide +kernel
theorem dX10_putLot_37 : decode cX10_putLot 37 = .ok (.iload 5, 2) := by decide +kernel
theorem dX10_putLot_39 : decode cX10_putLot 39 = .ok (.iconst 2, 1) := by decide +kernel
theorem dX10_putLot_40 : decode cX10_putLot 40 = .ok (.iadd, 1) := by decide +kernel
theorem dX10_putLot_41 : decode cX10_putLot 41 = .ok (.iload_n 3, 1) := by decide +kernel
theorem dX10_putLot_42 : decode cX10_putLot 42 = .ok (.iastore, 1) := by decide +kernel
theorem dX10_putLot_43 : decode cX10_putLot 43 = .ok (.aload_n 0, 1) := by decide +kernel
theorem dX10_putLot_44 : decode cX10_putLot 44 = .ok (.getfield 7, 3) := by decide +kernel
theorem dX10_putLot_47 : decode cX10_putLot 47 = .ok (.iload 5, 2) := by decide +kernel
theorem dX10_putLot_49 : decode cX10_putLot 49 = .ok (.iconst 3, 1) := by decide +kernel
theorem dX10_putLot_50 : decode cX10_putLot 50 = .ok (.iadd, 1) := by decide +kernel
theorem dX10_putLot_51 : decode cX10_putLot 51 = .ok (.iload 4, 2) := by decide +kernel
theorem dX10_putLot_53 : decode cX10_putLot 53 = .ok (.iastore, 1) := by decide +kernel
theorem dX10_putLot_54 : decode cX10_putLot 54 = .ok (.aload_n 0, 1) := by decide +kernel
theorem dX10_putLot_55 : decode cX10_putLot 55 = .ok (.getfield 7, 3) := by decide +kernel
theorem dX10_putLot_58 : decode cX10_putLot 58 = .ok (.sipush 406, 3) := by decide +kernel
theorem dX10_putLot_61 : decode cX10_putLot 61 = .ok (.dup2, 1) := by decide +kernel
theorem dX10_putLot_62 : decode cX10_putLot 62 = .ok (.iaload, 1) := by decide +kernel
theorem dX10_putLot_63 : decode cX10_putLot 63 = .ok (.iconst 1, 1) := by decide +kernel
theorem dX10_putLot_64 : decode cX10_putLot 64 = .ok (.iadd, 1) := by decide +kernel
theorem dX10_putLot_65 : decode cX10_putLot 65 = .ok (.iastore, 1) := by decide +kernel
theorem dX10_putLot_66 : decode cX10_putLot 66 = .ok (.return_, 1) := by decide +kernel
theorem dX10_dropEmpty_0 : decode cX10_dropEmpty 0 = .ok (.iconst 0, 1) := by decide +kernel
theorem dX10_dropEmpty_1 : decode cX10_dropEmpty 1 = .ok (.istore_n 1, 1) := by decide +kernel
theorem dX10_dropEmpty_2 : decode cX10_dropEmpty 2 = .ok (.iconst 0, 1) := by decide +kernel
theorem dX10_dropEmpty_3 : decode cX10_dropEmpty 3 = .ok (.istore_n 2, 1) := by decide +kernel
theorem dX10_dropEmpty_4 : decode cX10_dropEmpty 4 = .ok (.iload_n 2, 1) := by decide +kernel
theorem dX10_dropEmpty_5 : decode cX10_dropEmpty 5 = .ok (.aload_n 0, 1) := by decide +kernel
theorem dX10_dropEmpty_6 : decode cX10_dropEmpty 6 = .ok (.getfield 7, 3) := by decide +kernel
theorem dX10_dropEmpty_9 : decode cX10_dropEmpty 9 = .ok (.sipush 406, 3) := by decide +kernel
theorem dX10_dropEmpty_12 : decode cX10_dropEmpty 12 = .ok (.iaload, 1) := by decide +kernel
theorem dX10_dropEmpty_13 : decode cX10_dropEmpty 13 = .ok (.if_icmp .ge 53, 3) := by decide +kernel
theorem dX10_dropEmpty_16 : decode cX10_dropEmpty 16 = .ok (.aload_n 0, 1) := by decide +kernel
theorem dX10_dropEmpty_17 : decode cX10_dropEmpty 17 = .ok (.iload_n 2, 1) := by decide +kernel
theorem dX10_dropEmpty_18 : decode cX10_dropEmpty 18 = .ok (.iconst 2, 1) := by decide +kernel
theorem dX10_dropEmpty_19 : decode cX10_dropEmpty 19 = .ok (.invokevirtual 53, 3) := by decide +kernel
theorem dX10_dropEmpty_22 : decode cX10_dropEmpty 22 = .ok (.ifCond .le 38, 3) := by decide +kernel
theorem dX10_dropEmpty_25 : decode cX10_dropEmpty 25 = .ok (.iconst 0, 1) := by decide +kernel
theorem dX10_dropEmpty_26 : decode cX10_dropEmpty 26 = .ok (.istore_n 3, 1) := by decide +kernel
theorem dX10_dropEmpty_27 : decode cX10_dropEmpty 27 = .ok (.iload_n 3, 1) := by decide +kernel
theorem dX10_dropEmpty_28 : decode cX10_dropEmpty 28 = .ok (.iconst 4, 1) := by decide +kernel
theorem dX10_dropEmpty_29 : decode cX10_dropEmpty 29 = .ok (.if_icmp .ge 28, 3) := by decide +kernel
theorem dX10_dropEmpty_32 : decode cX10_dropEmpty 32 = .ok (.aload_n 0, 1) := by decide +kernel
theorem dX10_dropEmpty_33 : decode cX10_dropEmpty 33 = .ok (.getfield 7, 3) := by decide +kernel
theorem dX10_dropEmpty_36 : decode cX10_dropEmpty 36 = .ok (.bipush 70, 2) := by decide +kernel
theorem dX10_dropEmpty_38 : decode cX10_dropEmpty 38 = .ok (.iconst 4, 1) := by decide +kernel
theorem dX10_dropEmpty_39 : decode cX10_dropEmpty 39 = .ok (.iload_n 1, 1) := by decide +kernel
theorem dX10_dropEmpty_40 : decode cX10_dropEmpty 40 = .ok (.imul, 1) := by decide +kernel
theorem dX10_dropEmpty_41 : decode cX10_dropEmpty 41 = .ok (.iadd, 1) := by decide +kernel
theorem dX10_dropEmpty_42 : decode cX10_dropEmpty 42 = .ok (.iload_n 3, 1) := by decide +kernel
theorem dX10_dropEmpty_43 : decode cX10_dropEmpty 43 = .ok (.iadd, 1) := by decide +kernel
theorem dX10_dropEmpty_44 : decode cX10_dropEmpty 44 = .ok (.aload_n 0, 1) := by decide +kernel
theorem dX10_dropEmpty_45 : decode cX10_dropEmpty 45 = .ok (.iload_n 2, 1) := by decide +kernel
theorem dX10_dropEmpty_46 : decode cX10_dropEmpty 46 = .ok (.iload_n 3, 1) := by decide +kernel
theorem dX10_dropEmpty_47 : decode cX10_dropEmpty 47 = .ok (.invokevirtual 53, 3) := by decide +kernel
theorem dX10_dropEmpty_50 : decode cX10_dropEmpty 50 = .ok (.iastore, 1) := by decide +kernel
theorem dX10_dropEmpty_51 : decode cX10_dropEmpty 51 = .ok (.iinc 3 1, 3) := by decide +kernel
theorem dX10_dropEmpty_54 : decode cX10_dropEmpty 54 = .ok (.goto (-27), 3) := by decide +kernel
theorem dX10_dropEmpty_57 : decode cX10_dropEmpty 57 = .ok (.iinc 1 1, 3) := by decide +kernel
theorem dX10_dropEmpty_60 : decode cX10_dropEmpty 60 = .ok (.iinc 2 1, 3) := by decide +kernel
theorem dX10_dropEmpty_63 : decode cX10_dropEmpty 63 = .ok (.goto (-59), 3) := by decide +kernel
theorem dX10_dropEmpty_66 : decode cX10_dropEmpty 66 = .ok (.aload_n 0, 1) := by decide +kernel
theorem dX10_dropEmpty_67 : decode cX10_dropEmpty 67 = .ok (.getfield 7, 3) := by decide +kernel
theorem dX10_dropEmpty_70 : decode cX10_dropEmpty 70 = .ok (.sipush 406, 3) := by decide +kernel
theorem dX10_dropEmpty_73 : decode cX10_dropEmpty 73 = .ok (.iload_n 1, 1) := by decide +kernel
theorem dX10_dropEmpty_74 : decode cX10_dropEmpty 74 = .ok (.iastore, 1) := by decide +kernel
theorem dX10_dropEmpty_75 : decode cX10_dropEmpty 75 = .ok (.return_, 1) := by decide +kernel
theorem dX10_refusal_0 : decode cX10_refusal 0 = .ok (.aload_n 0, 1) := by decide +kernel
theorem dX10_refusal_1 : decode cX10_refusal 1 = .ok (.aload_n 0, 1) := by decide +kernel
theorem dX10_refusal_2 : decode cX10_refusal 2 = .ok (.getfield 7, 3) := by decide +kernel
theorem dX10_refusal_5 : decode cX10_refusal 5 = .ok (.sipush 404, 3) := by decide +kernel
theorem dX10_refusal_8 : decode cX10_refusal 8 = .ok (.iaload, 1) := by decide +kernel
theorem dX10_refusal_9 : decode cX10_refusal 9 = .ok (.invokevirtual 66, 3) := by decide +kernel
theorem dX10_refusal_12 : decode cX10_refusal 12 = .ok (.istore 4, 2) := by decide +kernel
theorem dX10_refusal_14 : decode cX10_refusal 14 = .ok (.iload 4, 2) := by decide +kernel
theorem dX10_refusal_16 : decode cX10_refusal 16 = .ok (.iconst (-1), 1) := by decide +kernel
theorem dX10_refusal_17 : decode cX10_refusal 17 = .ok (.if_icmp .ne 5, 3) := by decide +kernel
theorem dX10_refusal_20 : decode cX10_refusal 20 = .ok (.iconst 1, 1) := by decide +kernel
theorem dX10_refusal_21 : decode cX10_refusal 21 = .ok (.ireturn, 1) := by decide +kernel
theorem dX10_refusal_22 : decode cX10_refusal 22 = .ok (.aload_n 0, 1) := by decide +kernel
theorem dX10_refusal_23 : decode cX10_refusal 23 = .ok (.getfield 7, 3) := by decide +kernel
theorem dX10_refusal_26 : decode cX10_refusal 26 = .ok (.sipush 324, 3) := by decide +kernel
theorem dX10_refusal_29 : decode cX10_refusal 29 = .ok (.bipush 10, 2) := by decide +kernel
theorem dX10_refusal_31 : decode cX10_refusal 31 = .ok (.iload 4, 2) := by decide +kernel
theorem dX10_refusal_33 : decode cX10_refusal 33 = .ok (.imul, 1) := by decide +kernel
theorem dX10_refusal_34 : decode cX10_refusal 34 = .ok (.iadd, 1) := by decide +kernel
theorem dX10_refusal_35 : decode cX10_refusal 35 = .ok (.iconst 2, 1) := by decide +kernel
theorem dX10_refusal_36 : decode cX10_refusal 36 = .ok (.iadd, 1) := by decide +kernel
theorem dX10_refusal_37 : decode cX10_refusal 37 = .ok (.iload_n 1, 1) := by decide +kernel
theorem dX10_refusal_38 : decode cX10_refusal 38 = .ok (.iadd, 1) := by decide +kernel
theorem dX10_refusal_39 : decode cX10_refusal 39 = .ok (.iaload, 1) := by decide +kernel
theorem dX10_refusal_40 : decode cX10_refusal 40 = .ok (.istore 5, 2) := by decide +kernel
theorem dX10_refusal_42 : decode cX10_refusal 42 = .ok (.iload 5, 2) := by decide +kernel
theorem dX10_refusal_44 : decode cX10_refusal 44 = .ok (.ifCond .ne 5, 3) := by decide +kernel
theorem dX10_refusal_47 : decode cX10_refusal 47 = .ok (.iconst 2, 1) := by decide +kernel
theorem dX10_refusal_48 : decode cX10_refusal 48 = .ok (.ireturn, 1) := by decide +kernel
theorem dX10_refusal_49 : decode cX10_refusal 49 = .ok (.aload_n 0, 1) := by decide +kernel
theorem dX10_refusal_50 : decode cX10_refusal 50 = .ok (.iload_n 1, 1) := by decide +kernel
theorem dX10_refusal_51 : decode cX10_refusal 51 = .ok (.iload_n 3, 1) := by decide +kernel
theorem dX10_refusal_52 : decode cX10_refusal 52 = .ok (.aload_n 0, 1) := by decide +kernel
theorem dX10_refusal_53 : decode cX10_refusal 53 = .ok (.getfield 7, 3) := by decide +kernel
theorem dX10_refusal_56 : decode cX10_refusal 56 = .ok (.bipush 67, 2) := by decide +kernel
theorem dX10_refusal_58 : decode cX10_refusal 58 = .ok (.iload_n 3, 1) := by decide +kernel
theorem dX10_refusal_59 : decode cX10_refusal 59 = .ok (.iadd, 1) := by decide +kernel
theorem dX10_refusal_60 : decode cX10_refusal 60 = .ok (.iaload, 1) := by decide +kernel
theorem dX10_refusal_61 : decode cX10_refusal 61 = .ok (.invokevirtual 75, 3) := by decide +kernel
theorem dX10_refusal_64 : decode cX10_refusal 64 = .ok (.ifCond .ne 5, 3) := by decide +kernel
theorem dX10_refusal_67 : decode cX10_refusal 67 = .ok (.iconst 3, 1) := by decide +kernel
theorem dX10_refusal_68 : decode cX10_refusal 68 = .ok (.ireturn, 1) := by decide +kernel
theorem dX10_refusal_69 : decode cX10_refusal 69 = .ok (.aload_n 0, 1) := by decide +kernel
theorem dX10_refusal_70 : decode cX10_refusal 70 = .ok (.iload_n 3, 1) := by decide +kernel
theorem dX10_refusal_71 : decode cX10_refusal 71 = .ok (.invokevirtual 60, 3) := by decide +kernel
theorem dX10_refusal_74 : decode cX10_refusal 74 = .ok (.iload_n 2, 1) := by decide +kernel
theorem dX10_refusal_75 : decode cX10_refusal 75 = .ok (.iadd, 1) := by decide +kernel
theorem dX10_refusal_76 : decode cX10_refusal 76 = .ok (.aload_n 0, 1) := by decide +kernel
theorem dX10_refusal_77 : decode cX10_refusal 77 = .ok (.getfield 7, 3) := by decide +kernel
theorem dX10_refusal_80 : decode cX10_refusal 80 = .ok (.bipush 64, 2) := by decide +kernel
theorem dX10_refusal_82 : decode cX10_refusal 82 = .ok (.iload_n 3, 1) := by decide +kernel
theorem dX10_refusal_83 : decode cX10_refusal 83 = .ok (.iadd, 1) := by decide +kernel
theorem dX10_refusal_84 : decode cX10_refusal 84 = .ok (.iaload, 1) := by decide +kernel
theorem dX10_refusal_85 : decode cX10_refusal 85 = .ok (.if_icmp .le 5, 3) := by decide +kernel
theorem dX10_refusal_88 : decode cX10_refusal 88 = .ok (.iconst 4, 1) := by decide +kernel
theorem dX10_refusal_89 : decode cX10_refusal 89 = .ok (.ireturn, 1) := by decide +kernel
theorem dX10_refusal_90 : decode cX10_refusal 90 = .ok (.iload 5, 2) := by decide +kernel
theorem dX10_refusal_92 : decode cX10_refusal 92 = .ok (.iload_n 2, 1) := by decide +kernel
theorem dX10_refusal_93 : decode cX10_refusal 93 = .ok (.imul, 1) := by decide +kernel
theorem dX10_refusal_94 : decode cX10_refusal 94 = .ok (.aload_n 0, 1) := by decide +kernel
theorem dX10_refusal_95 : decode cX10_refusal 95 = .ok (.getfield 7, 3) := by decide +kernel
theorem dX10_refusal_98 : decode cX10_refusal 98 = .ok (.sipush 410, 3) := by decide +kernel
theorem dX10_refusal_101 : decode cX10_refusal 101 = .ok (.iaload, 1) := by decide +kernel
theorem dX10_refusal_102 : decode cX10_refusal 102 = .ok (.if_icmp .le 7, 3) := by decide +kernel
theorem dX10_refusal_105 : decode cX10_refusal 105 = .ok (.iconst 5, 1) := by decide +kernel
theorem dX10_refusal_106 : decode cX10_refusal 106 = .ok (.goto 22, 3) := by decide +kernel
theorem dX10_refusal_109 : decode cX10_refusal 109 = .ok (.aload_n 0, 1) := by decide +kernel
theorem dX10_refusal_110 : decode cX10_refusal 110 = .ok (.getfield 7, 3) := by decide +kernel
theorem dX10_refusal_113 : decode cX10_refusal 113 = .ok (.sipush 406, 3) := by decide +kernel
theorem dX10_refusal_116 : decode cX10_refusal 116 = .ok (.iaload, 1) := by decide +kernel
theorem dX10_refusal_117 : decode cX10_refusal 117 = .ok (.bipush 30, 2) := by decide +kernel
theorem dX10_refusal_119 : decode cX10_refusal 119 = .ok (.if_icmp .ne 8, 3) := by decide +kernel
theorem dX10_refusal_122 : decode cX10_refusal 122 = .ok (.bipush 6, 2) := by decide +kernel
theorem dX10_refusal_124 : decode cX10_refusal 124 = .ok (.goto 4, 3) := by decide +kernel
theorem dX10_refusal_127 : decode cX10_refusal 127 = .ok (.iconst 0, 1) := by decide +kernel
theorem dX10_refusal_128 : decode cX10_refusal 128 = .ok (.ireturn, 1) := by decide +kernel
theorem dX10_isAmount_0 : decode cX10_isAmount 0 = .ok (.iload_n 0, 1) := by decide +kernel
theorem dX10_isAmount_1 : decode cX10_isAmount 1 = .ok (.iconst 1, 1) := by decide +kernel
theorem dX10_isAmount_2 : decode cX10_isAmount 2 = .ok (.sipush 2000, 3) := by decide +kernel
theorem dX10_isAmount_5 : decode cX10_isAmount 5 = .ok (.invokestatic 35, 3) := by decide +kernel
theorem dX10_isAmount_8 : decode cX10_isAmount 8 = .ok (.ireturn, 1) := by decide +kernel
theorem dX10_buy_0 : decode cX10_buy 0 = .ok (.aload_n 0, 1) := by decide +kernel
theorem dX10_buy_1 : decode cX10_buy 1 = .ok (.aload_n 0, 1) := by decide +kernel
theorem dX10_buy_2 : decode cX10_buy 2 = .ok (.iload_n 1, 1) := by decide +kernel
theorem dX10_buy_3 : decode cX10_buy 3 = .ok (.invokevirtual 72, 3) := by decide +kernel
theorem dX10_buy_6 : decode cX10_buy 6 = .ok (.ifCond .eq 10, 3) := by decide +kernel
theorem dX10_buy_9 : decode cX10_buy 9 = .ok (.iload_n 3, 1) := by decide +kernel
theorem dX10_buy_10 : decode cX10_buy 10 = .ok (.invokestatic 57, 3) := by decide +kernel
theorem dX10_buy_13 : decode cX10_buy 13 = .ok (.ifCond .ne 7, 3) := by decide +kernel
theorem dX10_buy_16 : decode cX10_buy 16 = .ok (.iconst 1, 1) := by decide +kernel
theorem dX10_buy_17 : decode cX10_buy 17 = .ok (.goto 29, 3) := by decide +kernel
theorem dX10_buy_20 : decode cX10_buy 20 = .ok (.iload_n 2, 1) := by decide +kernel
theorem dX10_buy_21 : decode cX10_buy 21 = .ok (.invokestatic 82, 3) := by decide +kernel
theorem dX10_buy_24 : decode cX10_buy 24 = .ok (.ifCond .ne 7, 3) := by decide +kernel
theorem dX10_buy_27 : decode cX10_buy 27 = .ok (.iconst 2, 1) := by decide +kernel
theorem dX10_buy_28 : decode cX10_buy 28 = .ok (.goto 18, 3) := by decide +kernel
theorem dX10_buy_31 : decode cX10_buy 31 = .ok (.aload_n 0, 1) := by decide +kernel
theorem dX10_buy_32 : decode cX10_buy 32 = .ok (.iload_n 1, 1) := by decide +kernel
theorem dX10_buy_33 : decode cX10_buy 33 = .ok (.iload_n 2, 1) := by decide +kernel
theorem dX10_buy_34 : decode cX10_buy 34 = .ok (.iload_n 3, 1) := by decide +kernel
theorem dX10_buy_35 : decode cX10_buy 35 = .ok (.invokevirtual 85, 3) := by decide +kernel
theorem dX10_buy_38 : decode cX10_buy 38 = .ok (.ifCond .le 7, 3) := by decide +kernel
theorem dX10_buy_41 : decode cX10_buy 41 = .ok (.iconst 3, 1) := by decide +kernel
theorem dX10_buy_42 : decode cX10_buy 42 = .ok (.goto 4, 3) := by decide +kernel
theorem dX10_buy_45 : decode cX10_buy 45 = .ok (.iconst 0, 1) := by decide +kernel
theorem dX10_buy_46 : decode cX10_buy 46 = .ok (.putfield 31, 3) := by decide +kernel
theorem dX10_buy_49 : decode cX10_buy 49 = .ok (.aload_n 0, 1) := by decide +kernel
theorem dX10_buy_50 : decode cX10_buy 50 = .ok (.getfield 31, 3) := by decide +kernel
theorem dX10_buy_53 : decode cX10_buy 53 = .ok (.ifCond .le 5, 3) := by decide +kernel
theorem dX10_buy_56 : decode cX10_buy 56 = .ok (.iconst 0, 1) := by decide +kernel
theorem dX10_buy_57 : decode cX10_buy 57 = .ok (.ireturn, 1) := by decide +kernel
theorem dX10_buy_58 : decode cX10_buy 58 = .ok (.aload_n 0, 1) := by decide +kernel
theorem dX10_buy_59 : decode cX10_buy 59 = .ok (.invokevirtual 50, 3) := by decide +kernel
theorem dX10_buy_62 : decode cX10_buy 62 = .ok (.aload_n 0, 1) := by decide +kernel
theorem dX10_buy_63 : decode cX10_buy 63 = .ok (.aload_n 0, 1) := by decide +kernel
theorem dX10_buy_64 : decode cX10_buy 64 = .ok (.getfield 7, 3) := by decide +kernel
theorem dX10_buy_67 : decode cX10_buy 67 = .ok (.sipush 404, 3) := by decide +kernel
theorem dX10_buy_70 : decode cX10_buy 70 = .ok (.iaload, 1) := by decide +kernel
theorem dX10_buy_71 : decode cX10_buy 71 = .ok (.invokevirtual 66, 3) := by decide +kernel
theorem dX10_buy_74 : decode cX10_buy 74 = .ok (.istore 4, 2) := by decide +kernel
theorem dX10_buy_76 : decode cX10_buy 76 = .ok (.iload_n 2, 1) := by decide +kernel
theorem dX10_buy_77 : decode cX10_buy 77 = .ok (.aload_n 0, 1) := by decide +kernel
theorem dX10_buy_78 : decode cX10_buy 78 = .ok (.getfield 7, 3) := by decide +kernel
theorem dX10_buy_81 : decode cX10_buy 81 = .ok (.sipush 324, 3) := by decide +kernel
theorem dX10_buy_84 : decode cX10_buy 84 = .ok (.bipush 10, 2) := by decide +kernel
theorem dX10_buy_86 : decode cX10_buy 86 = .ok (.iload 4, 2) := by decide +kernel
theorem dX10_buy_88 : decode cX10_buy 88 = .ok (.imul, 1) := by decide +kernel
theorem dX10_buy_89 : decode cX10_buy 89 = .ok (.iadd, 1) := by decide +kernel
theorem dX10_buy_90 : decode cX10_buy 90 = .ok (.iconst 2, 1) := by decide +kernel
theorem dX10_buy_91 : decode cX10_buy 91 = .ok (.iadd, 1) := by decide +kernel
theorem dX10_buy_92 : decode cX10_buy 92 = .ok (.iload_n 1, 1) := by decide +kernel
theorem dX10_buy_93 : decode cX10_buy 93 = .ok (.iadd, 1) := by decide +kernel
theorem dX10_buy_94 : decode cX10_buy 94 = .ok (.iaload, 1) := by decide +kernel
theorem dX10_buy_95 : decode cX10_buy 95 = .ok (.imul, 1) := by decide +kernel
theorem dX10_buy_96 : decode cX10_buy 96 = .ok (.istore 5, 2) := by decide +kernel
theorem dX10_buy_98 : decode cX10_buy 98 = .ok (.aload_n 0, 1) := by decide +kernel
theorem dX10_buy_99 : decode cX10_buy 99 = .ok (.getfield 7, 3) := by decide +kernel
theorem dX10_buy_102 : decode cX10_buy 102 = .ok (.sipush 410, 3) := by decide +kernel
theorem dX10_buy_105 : decode cX10_buy 105 = .ok (.dup2, 1) := by decide +kernel
theorem dX10_buy_106 : decode cX10_buy 106 = .ok (.iaload, 1) := by decide +kernel
theorem dX10_buy_107 : decode cX10_buy 107 = .ok (.iload 5, 2) := by decide +kernel
theorem dX10_buy_109 : decode cX10_buy 109 = .ok (.isub, 1) := by decide +kernel
theorem dX10_buy_110 : decode cX10_buy 110 = .ok (.iastore, 1) := by decide +kernel
theorem dX10_buy_111 : decode cX10_buy 111 = .ok (.aload_n 0, 1) := by decide +kernel
theorem dX10_buy_112 : decode cX10_buy 112 = .ok (.getfield 7, 3) := by decide +kernel
theorem dX10_buy_115 : decode cX10_buy 115 = .ok (.sipush 411, 3) := by decide +kernel
theorem dX10_buy_118 : decode cX10_buy 118 = .ok (.dup2, 1) := by decide +kernel
theorem dX10_buy_119 : decode cX10_buy 119 = .ok (.iaload, 1) := by decide +kernel
theorem dX10_buy_120 : decode cX10_buy 120 = .ok (.iload 5, 2) := by decide +kernel
theorem dX10_buy_122 : decode cX10_buy 122 = .ok (.iadd, 1) := by decide +kernel
theorem dX10_buy_123 : decode cX10_buy 123 = .ok (.iastore, 1) := by decide +kernel
theorem dX10_buy_124 : decode cX10_buy 124 = .ok (.aload_n 0, 1) := by decide +kernel
theorem dX10_buy_125 : decode cX10_buy 125 = .ok (.iload_n 1, 1) := by decide +kernel
theorem dX10_buy_126 : decode cX10_buy 126 = .ok (.iconst 0, 1) := by decide +kernel
theorem dX10_buy_127 : decode cX10_buy 127 = .ok (.iload_n 2, 1) := by decide +kernel
theorem dX10_buy_128 : decode cX10_buy 128 = .ok (.invokevirtual 88, 3) := by decide +kernel
theorem dX10_buy_131 : decode cX10_buy 131 = .ok (.aload_n 0, 1) := by decide +kernel
theorem dX10_buy_132 : decode cX10_buy 132 = .ok (.iload_n 1, 1) := by decide +kernel
theorem dX10_buy_133 : decode cX10_buy 133 = .ok (.iload_n 3, 1) := by decide +kernel
theorem dX10_buy_134 : decode cX10_buy 134 = .ok (.iload_n 2, 1) := by decide +kernel
theorem dX10_buy_135 : decode cX10_buy 135 = .ok (.aload_n 0, 1) := by decide +kernel
theorem dX10_buy_136 : decode cX10_buy 136 = .ok (.getfield 7, 3) := by decide +kernel
theorem dX10_buy_139 : decode cX10_buy 139 = .ok (.sipush 324, 3) := by decide +kernel
theorem dX10_buy_142 : decode cX10_buy 142 = .ok (.bipush 10, 2) := by decide +kernel
theorem dX10_buy_144 : decode cX10_buy 144 = .ok (.iload 4, 2) := by decide +kernel
theorem dX10_buy_146 : decode cX10_buy 146 = .ok (.imul, 1) := by decide +kernel
theorem dX10_buy_147 : decode cX10_buy 147 = .ok (.iadd, 1) := by decide +kernel
theorem dX10_buy_148 : decode cX10_buy 148 = .ok (.iconst 1, 1) := by decide +kernel
theorem dX10_buy_149 : decode cX10_buy 149 = .ok (.iadd, 1) := by decide +kernel
theorem dX10_buy_150 : decode cX10_buy 150 = .ok (.iaload, 1) := by decide +kernel
theorem dX10_buy_151 : decode cX10_buy 151 = .ok (.invokevirtual 92, 3) := by decide +kernel
theorem dX10_buy_154 : decode cX10_buy 154 = .ok (.aload_n 0, 1) := by decide +kernel
theorem dX10_buy_155 : decode cX10_buy 155 = .ok (.getfield 7, 3) := by decide +kernel
theorem dX10_buy_158 : decode cX10_buy 158 = .ok (.sipush 406, 3) := by decide +kernel
theorem dX10_buy_161 : decode cX10_buy 161 = .ok (.iaload, 1) := by decide +kernel
theorem dX10_buy_162 : decode cX10_buy 162 = .ok (.iconst 1, 1) := by decide +kernel
theorem dX10_buy_163 : decode cX10_buy 163 = .ok (.isub, 1) := by decide +kernel
theorem dX10_buy_164 : decode cX10_buy 164 = .ok (.ireturn, 1) := by decide +kernel
theorem dX10_move_0 : decode cX10_move 0 = .ok (.aload_n 0, 1) := by decide +kernel
theorem dX10_move_1 : decode cX10_move 1 = .ok (.iload_n 1, 1) := by decide +kernel
theorem dX10_move_2 : decode cX10_move 2 = .ok (.invokevirtual 96, 3) := by decide +kernel
theorem dX10_move_5 : decode cX10_move 5 = .ok (.ifCond .eq 10, 3) := by decide +kernel
theorem dX10_move_8 : decode cX10_move 8 = .ok (.iload_n 3, 1) := by decide +kernel
theorem dX10_move_9 : decode cX10_move 9 = .ok (.invokestatic 57, 3) := by decide +kernel
theorem dX10_move_12 : decode cX10_move 12 = .ok (.ifCond .ne 10, 3) := by decide +kernel
theorem dX10_move_15 : decode cX10_move 15 = .ok (.aload_n 0, 1) := by decide +kernel
theorem dX10_move_16 : decode cX10_move 16 = .ok (.iconst 1, 1) := by decide +kernel
theorem dX10_move_17 : decode cX10_move 17 = .ok (.putfield 31, 3) := by decide +kernel
theorem dX10_move_20 : decode cX10_move 20 = .ok (.iconst 0, 1) := by decide +kernel
theorem dX10_move_21 : decode cX10_move 21 = .ok (.ireturn, 1) := by decide +kernel
theorem dX10_move_22 : decode cX10_move 22 = .ok (.iload_n 2, 1) := by decide +kernel
theorem dX10_move_23 : decode cX10_move 23 = .ok (.iconst 1, 1) := by decide +kernel
theorem dX10_move_24 : decode cX10_move 24 = .ok (.aload_n 0, 1) := by decide +kernel
theorem dX10_move_25 : decode cX10_move 25 = .ok (.iload_n 1, 1) := by decide +kernel
theorem dX10_move_26 : decode cX10_move 26 = .ok (.iconst 2, 1) := by decide +kernel
theorem dX10_move_27 : decode cX10_move 27 = .ok (.invokevirtual 53, 3) := by decide +kernel
theorem dX10_move_30 : decode cX10_move 30 = .ok (.invokestatic 35, 3) := by decide +kernel
theorem dX10_move_33 : decode cX10_move 33 = .ok (.ifCond .eq 13, 3) := by decide +kernel
theorem dX10_move_36 : decode cX10_move 36 = .ok (.aload_n 0, 1) := by decide +kernel
theorem dX10_move_37 : decode cX10_move 37 = .ok (.iload_n 1, 1) := by decide +kernel
theorem dX10_move_38 : decode cX10_move 38 = .ok (.iconst 1, 1) := by decide +kernel
theorem dX10_move_39 : decode cX10_move 39 = .ok (.invokevirtual 53, 3) := by decide +kernel
theorem dX10_move_42 : decode cX10_move 42 = .ok (.iload_n 3, 1) := by decide +kernel
theorem dX10_move_43 : decode cX10_move 43 = .ok (.if_icmp .ne 10, 3) := by decide +kernel
theorem dX10_move_46 : decode cX10_move 46 = .ok (.aload_n 0, 1) := by decide +kernel
theorem dX10_move_47 : decode cX10_move 47 = .ok (.iconst 2, 1) := by decide +kernel
theorem dX10_move_48 : decode cX10_move 48 = .ok (.putfield 31, 3) := by decide +kernel
theorem dX10_move_51 : decode cX10_move 51 = .ok (.iconst 0, 1) := by decide +kernel
theorem dX10_move_52 : decode cX10_move 52 = .ok (.ireturn, 1) := by decide +kernel
theorem dX10_move_53 : decode cX10_move 53 = .ok (.iload_n 2, 1) := by decide +kernel
theorem dX10_move_54 : decode cX10_move 54 = .ok (.aload_n 0, 1) := by decide +kernel
theorem dX10_move_55 : decode cX10_move 55 = .ok (.iload_n 1, 1) := by decide +kernel
theorem dX10_move_56 : decode cX10_move 56 = .ok (.iconst 2, 1) := by decide +kernel
theorem dX10_move_57 : decode cX10_move 57 = .ok (.invokevirtual 53, 3) := by decide +kernel
theorem dX10_move_60 : decode cX10_move 60 = .ok (.if_icmp .ne 7, 3) := by decide +kernel
theorem dX10_move_63 : decode cX10_move 63 = .ok (.iconst 1, 1) := by decide +kernel
theorem dX10_move_64 : decode cX10_move 64 = .ok (.goto 4, 3) := by decide +kernel
theorem dX10_move_67 : decode cX10_move 67 = .ok (.iconst 0, 1) := by decide +kernel
theorem dX10_move_68 : decode cX10_move 68 = .ok (.istore 4, 2) := by decide +kernel
theorem dX10_move_70 : decode cX10_move 70 = .ok (.aload_n 0, 1) := by decide +kernel
theorem dX10_move_71 : decode cX10_move 71 = .ok (.aload_n 0, 1) := by decide +kernel
theorem dX10_move_72 : decode cX10_move 72 = .ok (.iload_n 3, 1) := by decide +kernel
theorem dX10_move_73 : decode cX10_move 73 = .ok (.invokevirtual 60, 3) := by decide +kernel
theorem dX10_move_76 : decode cX10_move 76 = .ok (.iload_n 2, 1) := by decide +kernel
theorem dX10_move_77 : decode cX10_move 77 = .ok (.iadd, 1) := by decide +kernel
theorem dX10_move_78 : decode cX10_move 78 = .ok (.aload_n 0, 1) := by decide +kernel
theorem dX10_move_79 : decode cX10_move 79 = .ok (.getfield 7, 3) := by decide +kernel
theorem dX10_move_82 : decode cX10_move 82 = .ok (.bipush 64, 2) := by decide +kernel
theorem dX10_move_84 : decode cX10_move 84 = .ok (.iload_n 3, 1) := by decide +kernel
theorem dX10_move_85 : decode cX10_move 85 = .ok (.iadd, 1) := by decide +kernel
theorem dX10_move_86 : decode cX10_move 86 = .ok (.iaload, 1) := by decide +kernel
theorem dX10_move_87 : decode cX10_move 87 = .ok (.if_icmp .gt 21, 3) := by decide +kernel
theorem dX10_move_90 : decode cX10_move 90 = .ok (.iload 4, 2) := by decide +kernel
theorem dX10_move_92 : decode cX10_move 92 = .ok (.ifCond .ne 20, 3) := by decide +kernel
theorem dX10_move_95 : decode cX10_move 95 = .ok (.aload_n 0, 1) := by decide +kernel
theorem dX10_move_96 : decode cX10_move 96 = .ok (.getfield 7, 3) := by decide +kernel
theorem dX10_move_99 : decode cX10_move 99 = .ok (.sipush 406, 3) := by decide +kernel
theorem dX10_move_102 : decode cX10_move 102 = .ok (.iaload, 1) := by decide +kernel
theorem dX10_move_103 : decode cX10_move 103 = .ok (.bipush 30, 2) := by decide +kernel
theorem dX10_move_105 : decode cX10_move 105 = .ok (.if_icmp .ne 7, 3) := by decide +kernel
theorem dX10_move_108 : decode cX10_move 108 = .ok (.iconst 3, 1) := by decide +kernel
theorem dX10_move_109 : decode cX10_move 109 = .ok (.goto 4, 3) := by decide +kernel
theorem dX10_move_112 : decode cX10_move 112 = .ok (.iconst 0, 1) := by decide +kernel
theorem dX10_move_113 : decode cX10_move 113 = .ok (.putfield 31, 3) := by decide +kernel
theorem dX10_move_116 : decode cX10_move 116 = .ok (.aload_n 0, 1) := by decide +kernel
theorem dX10_move_117 : decode cX10_move 117 = .ok (.getfield 31, 3) := by decide +kernel
theorem dX10_move_120 : decode cX10_move 120 = .ok (.ifCond .le 5, 3) := by decide +kernel
theorem dX10_move_123 : decode cX10_move 123 = .ok (.iconst 0, 1) := by decide +kernel
theorem dX10_move_124 : decode cX10_move 124 = .ok (.ireturn, 1) := by decide +kernel
theorem dX10_move_125 : decode cX10_move 125 = .ok (.aload_n 0, 1) := by decide +kernel
theorem dX10_move_126 : decode cX10_move 126 = .ok (.invokevirtual 50, 3) := by decide +kernel
theorem dX10_move_129 : decode cX10_move 129 = .ok (.iload 4, 2) := by decide +kernel
theorem dX10_move_131 : decode cX10_move 131 = .ok (.ifCond .eq 19, 3) := by decide +kernel
theorem dX10_move_134 : decode cX10_move 134 = .ok (.aload_n 0, 1) := by decide +kernel
theorem dX10_move_135 : decode cX10_move 135 = .ok (.getfield 7, 3) := by decide +kernel
theorem dX10_move_138 : decode cX10_move 138 = .ok (.bipush 70, 2) := by decide +kernel
theorem dX10_move_140 : decode cX10_move 140 = .ok (.iconst 4, 1) := by decide +kernel
theorem dX10_move_141 : decode cX10_move 141 = .ok (.iload_n 1, 1) := by decide +kernel
theorem dX10_move_142 : decode cX10_move 142 = .ok (.imul, 1) := by decide +kernel
theorem dX10_move_143 : decode cX10_move 143 = .ok (.iadd, 1) := by decide +kernel
theorem dX10_move_144 : decode cX10_move 144 = .ok (.iconst 1, 1) := by decide +kernel
theorem dX10_move_145 : decode cX10_move 145 = .ok (.iadd, 1) := by decide +kernel
theorem dX10_move_146 : decode cX10_move 146 = .ok (.iload_n 3, 1) := by decide +kernel
theorem dX10_move_147 : decode cX10_move 147 = .ok (.iastore, 1) := by decide +kernel
theorem dX10_move_148 : decode cX10_move 148 = .ok (.iload_n 1, 1) := by decide +kernel
theorem dX10_move_149 : decode cX10_move 149 = .ok (.ireturn, 1) := by decide +kernel
theorem dX10_move_150 : decode cX10_move 150 = .ok (.aload_n 0, 1) := by decide +kernel
theorem dX10_move_151 : decode cX10_move 151 = .ok (.getfield 7, 3) := by decide +kernel
theorem dX10_move_154 : decode cX10_move 154 = .ok (.bipush 70, 2) := by decide +kernel
theorem dX10_move_156 : decode cX10_move 156 = .ok (.iconst 4, 1) := by decide +kernel
theorem dX10_move_157 : decode cX10_move 157 = .ok (.iload_n 1, 1) := by decide +kernel
theorem dX10_move_158 : decode cX10_move 158 = .ok (.imul, 1) := by decide +kernel
theorem dX10_move_159 : decode cX10_move 159 = .ok (.iadd, 1) := by decide +kernel
theorem dX10_move_160 : decode cX10_move 160 = .ok (.iconst 2, 1) := by decide +kernel
theorem dX10_move_161 : decode cX10_move 161 = .ok (.iadd, 1) := by decide +kernel
theorem dX10_move_162 : decode cX10_move 162 = .ok (.dup2, 1) := by decide +kernel
theorem dX10_move_163 : decode cX10_move 163 = .ok (.iaload, 1) := by decide +kernel
theorem dX10_move_164 : decode cX10_move 164 = .ok (.iload_n 2, 1) := by decide +kernel
theorem dX10_move_165 : decode cX10_move 165 = .ok (.isub, 1) := by decide +kernel
theorem dX10_move_166 : decode cX10_move 166 = .ok (.iastore, 1) := by decide +kernel
theorem dX10_move_167 : decode cX10_move 167 = .ok (.aload_n 0, 1) := by decide +kernel
theorem dX10_move_168 : decode cX10_move 168 = .ok (.aload_n 0, 1) := by decide +kernel
theorem dX10_move_169 : decode cX10_move 169 = .ok (.iload_n 1, 1) := by decide +kernel
theorem dX10_move_170 : decode cX10_move 170 = .ok (.iconst 0, 1) := by decide +kernel
theorem dX10_move_171 : decode cX10_move 171 = .ok (.invokevirtual 53, 3) := by decide +kernel
theorem dX10_move_174 : decode cX10_move 174 = .ok (.iload_n 3, 1) := by decide +kernel
theorem dX10_move_175 : decode cX10_move 175 = .ok (.iload_n 2, 1) := by decide +kernel
theorem dX10_move_176 : decode cX10_move 176 = .ok (.aload_n 0, 1) := by decide +kernel
theorem dX10_move_177 : decode cX10_move 177 = .ok (.iload_n 1, 1) := by decide +kernel
theorem dX10_move_178 : decode cX10_move 178 = .ok (.iconst 3, 1) := by decide +kernel
theorem dX10_move_179 : decode cX10_move 179 = .ok (.invokevirtual 53, 3) := by decide +kernel
theorem dX10_move_182 : decode cX10_move 182 = .ok (.invokevirtual 92, 3) := by decide +kernel
theorem dX10_move_185 : decode cX10_move 185 = .ok (.aload_n 0, 1) := by decide +kernel
theorem dX10_move_186 : decode cX10_move 186 = .ok (.getfield 7, 3) := by decide +kernel
theorem dX10_move_189 : decode cX10_move 189 = .ok (.sipush 406, 3) := by decide +kernel
theorem dX10_move_192 : decode cX10_move 192 = .ok (.iaload, 1) := by decide +kernel
theorem dX10_move_193 : decode cX10_move 193 = .ok (.iconst 1, 1) := by decide +kernel
theorem dX10_move_194 : decode cX10_move 194 = .ok (.isub, 1) := by decide +kernel
theorem dX10_move_195 : decode cX10_move 195 = .ok (.ireturn, 1) := by decide +kernel
theorem dX10_rations_0 : decode cX10_rations 0 = .ok (.aload_n 0, 1) := by decide +kernel
theorem dX10_rations_1 : decode cX10_rations 1 = .ok (.iconst 0, 1) := by decide +kernel
theorem dX10_rations_2 : decode cX10_rations 2 = .ok (.invokevirtual 60, 3) := by decide +kernel
theorem dX10_rations_5 : decode cX10_rations 5 = .ok (.aload_n 0, 1) := by decide +kernel
theorem dX10_rations_6 : decode cX10_rations 6 = .ok (.iconst 1, 1) := by decide +kernel
theorem dX10_rations_7 : decode cX10_rations 7 = .ok (.invokevirtual 60, 3) := by decide +kernel
theorem dX10_rations_10 : decode cX10_rations 10 = .ok (.iadd, 1) := by decide +kernel
theorem dX10_rations_11 : decode cX10_rations 11 = .ok (.aload_n 0, 1) := by decide +kernel
theorem dX10_rations_12 : decode cX10_rations 12 = .ok (.iconst 2, 1) := by decide +kernel
theorem dX10_rations_13 : decode cX10_rations 13 = .ok (.invokevirtual 60, 3) := by decide +kernel
theorem dX10_rations_16 : decode cX10_rations 16 = .ok (.iadd, 1) := by decide +kernel
theorem dX10_rations_17 : decode cX10_rations 17 = .ok (.ireturn, 1) := by decide +kernel
theorem dX10_discard_0 : decode cX10_discard 0 = .ok (.aload_n 0, 1) := by decide +kernel
theorem dX10_discard_1 : decode cX10_discard 1 = .ok (.aload_n 0, 1) := by decide +kernel
theorem dX10_discard_2 : decode cX10_discard 2 = .ok (.iload_n 1, 1) := by decide +kernel
theorem dX10_discard_3 : decode cX10_discard 3 = .ok (.invokevirtual 96, 3) := by decide +kernel
theorem dX10_discard_6 : decode cX10_discard 6 = .ok (.ifCond .ne 7, 3) := by decide +kernel
theorem dX10_discard_9 : decode cX10_discard 9 = .ok (.iconst 1, 1) := by decide +kernel
theorem dX10_discard_10 : decode cX10_discard 10 = .ok (.goto 22, 3) := by decide +kernel
theorem dX10_discard_13 : decode cX10_discard 13 = .ok (.iload_n 2, 1) := by decide +kernel
theorem dX10_discard_14 : decode cX10_discard 14 = .ok (.iconst 1, 1) := by decide +kernel
theorem dX10_discard_15 : decode cX10_discard 15 = .ok (.aload_n 0, 1) := by decide +kernel
theorem dX10_discard_16 : decode cX10_discard 16 = .ok (.iload_n 1, 1) := by decide +kernel
theorem dX10_discard_17 : decode cX10_discard 17 = .ok (.iconst 2, 1) := by decide +kernel
theorem dX10_discard_18 : decode cX10_discard 18 = .ok (.invokevirtual 53, 3) := by decide +kernel
theorem dX10_discard_21 : decode cX10_discard 21 = .ok (.invokestatic 35, 3) := by decide +kernel
theorem dX10_discard_24 : decode cX10_discard 24 = .ok (.ifCond .eq 7, 3) := by decide +kernel
theorem dX10_discard_27 : decode cX10_discard 27 = .ok (.iconst 0, 1) := by decide +kernel
theorem dX10_discard_28 : decode cX10_discard 28 = .ok (.goto 4, 3) := by decide +kernel
theorem dX10_discard_31 : decode cX10_discard 31 = .ok (.iconst 2, 1) := by decide +kernel
theorem dX10_discard_32 : decode cX10_discard 32 = .ok (.putfield 31, 3) := by decide +kernel
theorem dX10_discard_35 : decode cX10_discard 35 = .ok (.aload_n 0, 1) := by decide +kernel
theorem dX10_discard_36 : decode cX10_discard 36 = .ok (.getfield 31, 3) := by decide +kernel
theorem dX10_discard_39 : decode cX10_discard 39 = .ok (.ifCond .le 5, 3) := by decide +kernel
theorem dX10_discard_42 : decode cX10_discard 42 = .ok (.iconst 0, 1) := by decide +kernel
theorem dX10_discard_43 : decode cX10_discard 43 = .ok (.ireturn, 1) := by decide +kernel
theorem dX10_discard_44 : decode cX10_discard 44 = .ok (.aload_n 0, 1) := by decide +kernel
theorem dX10_discard_45 : decode cX10_discard 45 = .ok (.invokevirtual 50, 3) := by decide +kernel
theorem dX10_discard_48 : decode cX10_discard 48 = .ok (.aload_n 0, 1) := by decide +kernel
theorem dX10_discard_49 : decode cX10_discard 49 = .ok (.aload_n 0, 1) := by decide +kernel
theorem dX10_discard_50 : decode cX10_discard 50 = .ok (.iload_n 1, 1) := by decide +kernel
theorem dX10_discard_51 : decode cX10_discard 51 = .ok (.iconst 0, 1) := by decide +kernel
theorem dX10_discard_52 : decode cX10_discard 52 = .ok (.invokevirtual 53, 3) := by decide +kernel
theorem dX10_discard_55 : decode cX10_discard 55 = .ok (.iconst 3, 1) := by decide +kernel
theorem dX10_discard_56 : decode cX10_discard 56 = .ok (.iload_n 2, 1) := by decide +kernel
theorem dX10_discard_57 : decode cX10_discard 57 = .ok (.invokevirtual 88, 3) := by decide +kernel
theorem dX10_discard_60 : decode cX10_discard 60 = .ok (.aload_n 0, 1) := by decide +kernel
theorem dX10_discard_61 : decode cX10_discard 61 = .ok (.getfield 7, 3) := by decide +kernel
theorem dX10_discard_64 : decode cX10_discard 64 = .ok (.bipush 70, 2) := by decide +kernel
theorem dX10_discard_66 : decode cX10_discard 66 = .ok (.iconst 4, 1) := by decide +kernel
theorem dX10_discard_67 : decode cX10_discard 67 = .ok (.iload_n 1, 1) := by decide +kernel
theorem dX10_discard_68 : decode cX10_discard 68 = .ok (.imul, 1) := by decide +kernel
theorem dX10_discard_69 : decode cX10_discard 69 = .ok (.iadd, 1) := by decide +kernel
theorem dX10_discard_70 : decode cX10_discard 70 = .ok (.iconst 2, 1) := by decide +kernel
theorem dX10_discard_71 : decode cX10_discard 71 = .ok (.iadd, 1) := by decide +kernel
theorem dX10_discard_72 : decode cX10_discard 72 = .ok (.dup2, 1) := by decide +kernel
theorem dX10_discard_73 : decode cX10_discard 73 = .ok (.iaload, 1) := by decide +kernel
theorem dX10_discard_74 : decode cX10_discard 74 = .ok (.iload_n 2, 1) := by decide +kernel
theorem dX10_discard_75 : decode cX10_discard 75 = .ok (.isub, 1) := by decide +kernel
theorem dX10_discard_76 : decode cX10_discard 76 = .ok (.iastore, 1) := by decide +kernel
theorem dX10_discard_77 : decode cX10_discard 77 = .ok (.aload_n 0, 1) := by decide +kernel
theorem dX10_discard_78 : decode cX10_discard 78 = .ok (.invokevirtual 99, 3) := by decide +kernel
theorem dX10_discard_81 : decode cX10_discard 81 = .ok (.aload_n 0, 1) := by decide +kernel
theorem dX10_discard_82 : decode cX10_discard 82 = .ok (.invokevirtual 102, 3) := by decide +kernel
theorem dX10_discard_85 : decode cX10_discard 85 = .ok (.ireturn, 1) := by decide +kernel
theorem dX10_nextLot_0 : decode cX10_nextLot 0 = .ok (.iconst (-1), 1) := by decide +kernel
theorem dX10_nextLot_1 : decode cX10_nextLot 1 = .ok (.istore_n 2, 1) := by decide +kernel
theorem dX10_nextLot_2 : decode cX10_nextLot 2 = .ok (.iconst 0, 1) := by decide +kernel
theorem dX10_nextLot_3 : decode cX10_nextLot 3 = .ok (.istore_n 3, 1) := by decide +kernel
theorem dX10_nextLot_4 : decode cX10_nextLot 4 = .ok (.iload_n 3, 1) := by decide +kernel
theorem dX10_nextLot_5 : decode cX10_nextLot 5 = .ok (.aload_n 0, 1) := by decide +kernel
theorem dX10_nextLot_6 : decode cX10_nextLot 6 = .ok (.getfield 7, 3) := by decide +kernel
theorem dX10_nextLot_9 : decode cX10_nextLot 9 = .ok (.sipush 406, 3) := by decide +kernel
theorem dX10_nextLot_12 : decode cX10_nextLot 12 = .ok (.iaload, 1) := by decide +kernel
theorem dX10_nextLot_13 : decode cX10_nextLot 13 = .ok (.if_icmp .ge 50, 3) := by decide +kernel
theorem dX10_nextLot_16 : decode cX10_nextLot 16 = .ok (.aload_n 0, 1) := by decide +kernel
theorem dX10_nextLot_17 : decode cX10_nextLot 17 = .ok (.iload_n 3, 1) := by decide +kernel
theorem dX10_nextLot_18 : decode cX10_nextLot 18 = .ok (.iconst 0, 1) := by decide +kernel
theorem dX10_nextLot_19 : decode cX10_nextLot 19 = .ok (.invokevirtual 53, 3) := by decide +kernel
theorem dX10_nextLot_22 : decode cX10_nextLot 22 = .ok (.iload_n 1, 1) := by decide +kernel
theorem dX10_nextLot_23 : decode cX10_nextLot 23 = .ok (.if_icmp .ne 34, 3) := by decide +kernel
theorem dX10_nextLot_26 : decode cX10_nextLot 26 = .ok (.aload_n 0, 1) := by decide +kernel
theorem dX10_nextLot_27 : decode cX10_nextLot 27 = .ok (.iload_n 3, 1) := by decide +kernel
theorem dX10_nextLot_28 : decode cX10_nextLot 28 = .ok (.iconst 2, 1) := by decide +kernel
theorem dX10_nextLot_29 : decode cX10_nextLot 29 = .ok (.invokevirtual 53, 3) := by decide +kernel
theorem dX10_nextLot_32 : decode cX10_nextLot 32 = .ok (.ifCond .le 25, 3) := by decide +kernel
theorem dX10_nextLot_35 : decode cX10_nextLot 35 = .ok (.iload_n 2, 1) := by decide +kernel
theorem dX10_nextLot_36 : decode cX10_nextLot 36 = .ok (.iconst (-1), 1) := by decide +kernel
theorem dX10_nextLot_37 : decode cX10_nextLot 37 = .ok (.if_icmp .eq 18, 3) := by decide +kernel
theorem dX10_nextLot_40 : decode cX10_nextLot 40 = .ok (.aload_n 0, 1) := by decide +kernel
theorem dX10_nextLot_41 : decode cX10_nextLot 41 = .ok (.getfield 22, 3) := by decide +kernel
theorem dX10_nextLot_44 : decode cX10_nextLot 44 = .ok (.iload_n 3, 1) := by decide +kernel
theorem dX10_nextLot_45 : decode cX10_nextLot 45 = .ok (.iaload, 1) := by decide +kernel
theorem dX10_nextLot_46 : decode cX10_nextLot 46 = .ok (.aload_n 0, 1) := by decide +kernel
theorem dX10_nextLot_47 : decode cX10_nextLot 47 = .ok (.getfield 22, 3) := by decide +kernel
theorem dX10_nextLot_50 : decode cX10_nextLot 50 = .ok (.iload_n 2, 1) := by decide +kernel
theorem dX10_nextLot_51 : decode cX10_nextLot 51 = .ok (.iaload, 1) := by decide +kernel
theorem dX10_nextLot_52 : decode cX10_nextLot 52 = .ok (.if_icmp .ge 5, 3) := by decide +kernel
theorem dX10_nextLot_55 : decode cX10_nextLot 55 = .ok (.iload_n 3, 1) := by decide +kernel
theorem dX10_nextLot_56 : decode cX10_nextLot 56 = .ok (.istore_n 2, 1) := by decide +kernel
theorem dX10_nextLot_57 : decode cX10_nextLot 57 = .ok (.iinc 3 1, 3) := by decide +kernel
theorem dX10_nextLot_60 : decode cX10_nextLot 60 = .ok (.goto (-56), 3) := by decide +kernel
theorem dX10_nextLot_63 : decode cX10_nextLot 63 = .ok (.iload_n 2, 1) := by decide +kernel
theorem dX10_nextLot_64 : decode cX10_nextLot 64 = .ok (.ireturn, 1) := by decide +kernel
theorem dX10_eat_0 : decode cX10_eat 0 = .ok (.iload_n 2, 1) := by decide +kernel
theorem dX10_eat_1 : decode cX10_eat 1 = .ok (.istore_n 3, 1) := by decide +kernel
theorem dX10_eat_2 : decode cX10_eat 2 = .ok (.aload_n 0, 1) := by decide +kernel
theorem dX10_eat_3 : decode cX10_eat 3 = .ok (.iload_n 1, 1) := by decide +kernel
theorem dX10_eat_4 : decode cX10_eat 4 = .ok (.invokevirtual 106, 3) := by decide +kernel
theorem dX10_eat_7 : decode cX10_eat 7 = .ok (.istore 4, 2) := by decide +kernel
theorem dX10_eat_9 : decode cX10_eat 9 = .ok (.iload_n 3, 1) := by decide +kernel
theorem dX10_eat_10 : decode cX10_eat 10 = .ok (.ifCond .le 75, 3) := by decide +kernel
theorem dX10_eat_13 : decode cX10_eat 13 = .ok (.iload 4, 2) := by decide +kernel
theorem dX10_eat_15 : decode cX10_eat 15 = .ok (.iconst (-1), 1) := by decide +kernel
theorem dX10_eat_16 : decode cX10_eat 16 = .ok (.if_icmp .eq 69, 3) := by decide +kernel
theorem dX10_eat_19 : decode cX10_eat 19 = .ok (.aload_n 0, 1) := by decide +kernel
theorem dX10_eat_20 : decode cX10_eat 20 = .ok (.iload 4, 2) := by decide +kernel
theorem dX10_eat_22 : decode cX10_eat 22 = .ok (.iconst 2, 1) := by decide +kernel
theorem dX10_eat_23 : decode cX10_eat 23 = .ok (.invokevirtual 53, 3) := by decide +kernel
theorem dX10_eat_26 : decode cX10_eat 26 = .ok (.iload_n 3, 1) := by decide +kernel
theorem dX10_eat_27 : decode cX10_eat 27 = .ok (.if_icmp .ge 13, 3) := by decide +kernel
theorem dX10_eat_30 : decode cX10_eat 30 = .ok (.aload_n 0, 1) := by decide +kernel
theorem dX10_eat_31 : decode cX10_eat 31 = .ok (.iload 4, 2) := by decide +kernel
theorem dX10_eat_33 : decode cX10_eat 33 = .ok (.iconst 2, 1) := by decide +kernel
theorem dX10_eat_34 : decode cX10_eat 34 = .ok (.invokevirtual 53, 3) := by decide +kernel
theorem dX10_eat_37 : decode cX10_eat 37 = .ok (.goto 4, 3) := by decide +kernel
theorem dX10_eat_40 : decode cX10_eat 40 = .ok (.iload_n 3, 1) := by decide +kernel
theorem dX10_eat_41 : decode cX10_eat 41 = .ok (.istore 5, 2) := by decide +kernel
theorem dX10_eat_43 : decode cX10_eat 43 = .ok (.aload_n 0, 1) := by decide +kernel
theorem dX10_eat_44 : decode cX10_eat 44 = .ok (.getfield 7, 3) := by decide +kernel
theorem dX10_eat_47 : decode cX10_eat 47 = .ok (.bipush 70, 2) := by decide +kernel
theorem dX10_eat_49 : decode cX10_eat 49 = .ok (.iconst 4, 1) := by decide +kernel
theorem dX10_eat_50 : decode cX10_eat 50 = .ok (.iload 4, 2) := by decide +kernel
theorem dX10_eat_52 : decode cX10_eat 52 = .ok (.imul, 1) := by decide +kernel
theorem dX10_eat_53 : decode cX10_eat 53 = .ok (.iadd, 1) := by decide +kernel
theorem dX10_eat_54 : decode cX10_eat 54 = .ok (.iconst 2, 1) := by decide +kernel
theorem dX10_eat_55 : decode cX10_eat 55 = .ok (.iadd, 1) := by decide +kernel
theorem dX10_eat_56 : decode cX10_eat 56 = .ok (.dup2, 1) := by decide +kernel
theorem dX10_eat_57 : decode cX10_eat 57 = .ok (.iaload, 1) := by decide +kernel
theorem dX10_eat_58 : decode cX10_eat 58 = .ok (.iload 5, 2) := by decide +kernel
theorem dX10_eat_60 : decode cX10_eat 60 = .ok (.isub, 1) := by decide +kernel
theorem dX10_eat_61 : decode cX10_eat 61 = .ok (.iastore, 1) := by decide +kernel
theorem dX10_eat_62 : decode cX10_eat 62 = .ok (.aload_n 0, 1) := by decide +kernel
theorem dX10_eat_63 : decode cX10_eat 63 = .ok (.iload_n 1, 1) := by decide +kernel
theorem dX10_eat_64 : decode cX10_eat 64 = .ok (.iconst 1, 1) := by decide +kernel
theorem dX10_eat_65 : decode cX10_eat 65 = .ok (.iload 5, 2) := by decide +kernel
theorem dX10_eat_67 : decode cX10_eat 67 = .ok (.invokevirtual 88, 3) := by decide +kernel
theorem dX10_eat_70 : decode cX10_eat 70 = .ok (.iload_n 3, 1) := by decide +kernel
theorem dX10_eat_71 : decode cX10_eat 71 = .ok (.iload 5, 2) := by decide +kernel
theorem dX10_eat_73 : decode cX10_eat 73 = .ok (.isub, 1) := by decide +kernel
theorem dX10_eat_74 : decode cX10_eat 74 = .ok (.istore_n 3, 1) := by decide +kernel
theorem dX10_eat_75 : decode cX10_eat 75 = .ok (.aload_n 0, 1) := by decide +kernel
theorem dX10_eat_76 : decode cX10_eat 76 = .ok (.iload_n 1, 1) := by decide +kernel
theorem dX10_eat_77 : decode cX10_eat 77 = .ok (.invokevirtual 106, 3) := by decide +kernel
theorem dX10_eat_80 : decode cX10_eat 80 = .ok (.istore 4, 2) := by decide +kernel
theorem dX10_eat_82 : decode cX10_eat 82 = .ok (.goto (-73), 3) := by decide +kernel
theorem dX10_eat_85 : decode cX10_eat 85 = .ok (.iload_n 3, 1) := by decide +kernel
theorem dX10_eat_86 : decode cX10_eat 86 = .ok (.ireturn, 1) := by decide +kernel
theorem dX10_serve_0 : decode cX10_serve 0 = .ok (.iconst 0, 1) := by decide +kernel
theorem dX10_serve_1 : decode cX10_serve 1 = .ok (.istore_n 1, 1) := by decide +kernel
theorem dX10_serve_2 : decode cX10_serve 2 = .ok (.iload_n 1, 1) := by decide +kernel
theorem dX10_serve_3 : decode cX10_serve 3 = .ok (.aload_n 0, 1) := by decide +kernel
theorem dX10_serve_4 : decode cX10_serve 4 = .ok (.getfield 7, 3) := by decide +kernel
theorem dX10_serve_7 : decode cX10_serve 7 = .ok (.sipush 406, 3) := by decide +kernel
theorem dX10_serve_10 : decode cX10_serve 10 = .ok (.iaload, 1) := by decide +kernel
theorem dX10_serve_11 : decode cX10_serve 11 = .ok (.if_icmp .ge 20, 3) := by decide +kernel
theorem dX10_serve_14 : decode cX10_serve 14 = .ok (.aload_n 0, 1) := by decide +kernel
theorem dX10_serve_15 : decode cX10_serve 15 = .ok (.getfield 22, 3) := by decide +kernel
theorem dX10_serve_18 : decode cX10_serve 18 = .ok (.iload_n 1, 1) := by decide +kernel
theorem dX10_serve_19 : decode cX10_serve 19 = .ok (.aload_n 0, 1) := by decide +kernel
theorem dX10_serve_20 : decode cX10_serve 20 = .ok (.iload_n 1, 1) := by decide +kernel
theorem dX10_serve_21 : decode cX10_serve 21 = .ok (.invokevirtual 109, 3) := by decide +kernel
theorem dX10_serve_24 : decode cX10_serve 24 = .ok (.iastore, 1) := by decide +kernel
theorem dX10_serve_25 : decode cX10_serve 25 = .ok (.iinc 1 1, 3) := by decide +kernel
theorem dX10_serve_28 : decode cX10_serve 28 = .ok (.goto (-26), 3) := by decide +kernel
theorem dX10_serve_31 : decode cX10_serve 31 = .ok (.aload_n 0, 1) := by decide +kernel
theorem dX10_serve_32 : decode cX10_serve 32 = .ok (.getfield 7, 3) := by decide +kernel
theorem dX10_serve_35 : decode cX10_serve 35 = .ok (.sipush 404, 3) := by decide +kernel
theorem dX10_serve_38 : decode cX10_serve 38 = .ok (.iaload, 1) := by decide +kernel
theorem dX10_serve_39 : decode cX10_serve 39 = .ok (.aload_n 0, 1) := by decide +kernel
theorem dX10_serve_40 : decode cX10_serve 40 = .ok (.getfield 7, 3) := by decide +kernel
theorem dX10_serve_43 : decode cX10_serve 43 = .ok (.sipush 408, 3) := by decide +kernel
theorem dX10_serve_46 : decode cX10_serve 46 = .ok (.iaload, 1) := by decide +kernel
theorem dX10_serve_47 : decode cX10_serve 47 = .ok (.irem, 1) := by decide +kernel
theorem dX10_serve_48 : decode cX10_serve 48 = .ok (.istore_n 1, 1) := by decide +kernel
theorem dX10_serve_49 : decode cX10_serve 49 = .ok (.iconst 0, 1) := by decide +kernel
theorem dX10_serve_50 : decode cX10_serve 50 = .ok (.istore_n 2, 1) := by decide +kernel
theorem dX10_serve_51 : decode cX10_serve 51 = .ok (.iconst 0, 1) := by decide +kernel
theorem dX10_serve_52 : decode cX10_serve 52 = .ok (.istore_n 3, 1) := by decide +kernel
theorem dX10_serve_53 : decode cX10_serve 53 = .ok (.iload_n 3, 1) := by decide +kernel
theorem dX10_serve_54 : decode cX10_serve 54 = .ok (.aload_n 0, 1) := by decide +kernel
theorem dX10_serve_55 : decode cX10_serve 55 = .ok (.getfield 7, 3) := by decide +kernel
theorem dX10_serve_58 : decode cX10_serve 58 = .ok (.sipush 314, 3) := by decide +kernel
theorem dX10_serve_61 : decode cX10_serve 61 = .ok (.iload_n 1, 1) := by decide +kernel
theorem dX10_serve_62 : decode cX10_serve 62 = .ok (.iadd, 1) := by decide +kernel
theorem dX10_serve_63 : decode cX10_serve 63 = .ok (.iaload, 1) := by decide +kernel
theorem dX10_serve_64 : decode cX10_serve 64 = .ok (.if_icmp .ge 118, 3) := by decide +kernel
theorem dX10_serve_67 : decode cX10_serve 67 = .ok (.sipush 194, 3) := by decide +kernel
theorem dX10_serve_70 : decode cX10_serve 70 = .ok (.bipush 12, 2) := by decide +kernel
theorem dX10_serve_72 : decode cX10_serve 72 = .ok (.iload_n 1, 1) := by decide +kernel
theorem dX10_serve_73 : decode cX10_serve 73 = .ok (.imul, 1) := by decide +kernel
theorem dX10_serve_74 : decode cX10_serve 74 = .ok (.iadd, 1) := by decide +kernel
theorem dX10_serve_75 : decode cX10_serve 75 = .ok (.iconst 3, 1) := by decide +kernel
theorem dX10_serve_76 : decode cX10_serve 76 = .ok (.iload_n 3, 1) := by decide +kernel
theorem dX10_serve_77 : decode cX10_serve 77 = .ok (.imul, 1) := by decide +kernel
theorem dX10_serve_78 : decode cX10_serve 78 = .ok (.iadd, 1) := by decide +kernel
theorem dX10_serve_79 : decode cX10_serve 79 = .ok (.istore 4, 2) := by decide +kernel
theorem dX10_serve_81 : decode cX10_serve 81 = .ok (.aload_n 0, 1) := by decide +kernel
theorem dX10_serve_82 : decode cX10_serve 82 = .ok (.aload_n 0, 1) := by decide +kernel
theorem dX10_serve_83 : decode cX10_serve 83 = .ok (.getfield 7, 3) := by decide +kernel
theorem dX10_serve_86 : decode cX10_serve 86 = .ok (.iload 4, 2) := by decide +kernel
theorem dX10_serve_88 : decode cX10_serve 88 = .ok (.iaload, 1) := by decide +kernel
theorem dX10_serve_89 : decode cX10_serve 89 = .ok (.aload_n 0, 1) := by decide +kernel
theorem dX10_serve_90 : decode cX10_serve 90 = .ok (.getfield 7, 3) := by decide +kernel
theorem dX10_serve_93 : decode cX10_serve 93 = .ok (.iload 4, 2) := by decide +kernel
theorem dX10_serve_95 : decode cX10_serve 95 = .ok (.iconst 1, 1) := by decide +kernel
theorem dX10_serve_96 : decode cX10_serve 96 = .ok (.iadd, 1) := by decide +kernel
theorem dX10_serve_97 : decode cX10_serve 97 = .ok (.iaload, 1) := by decide +kernel
theorem dX10_serve_98 : decode cX10_serve 98 = .ok (.aload_n 0, 1) := by decide +kernel
theorem dX10_serve_99 : decode cX10_serve 99 = .ok (.getfield 7, 3) := by decide +kernel
theorem dX10_serve_102 : decode cX10_serve 102 = .ok (.sipush 409, 3) := by decide +kernel
theorem dX10_serve_105 : decode cX10_serve 105 = .ok (.iaload, 1) := by decide +kernel
theorem dX10_serve_106 : decode cX10_serve 106 = .ok (.imul, 1) := by decide +kernel
theorem dX10_serve_107 : decode cX10_serve 107 = .ok (.invokevirtual 112, 3) := by decide +kernel
theorem dX10_serve_110 : decode cX10_serve 110 = .ok (.istore 5, 2) := by decide +kernel
theorem dX10_serve_112 : decode cX10_serve 112 = .ok (.iload 5, 2) := by decide +kernel
theorem dX10_serve_114 : decode cX10_serve 114 = .ok (.ifCond .le 33, 3) := by decide +kernel
theorem dX10_serve_117 : decode cX10_serve 117 = .ok (.aload_n 0, 1) := by decide +kernel
theorem dX10_serve_118 : decode cX10_serve 118 = .ok (.getfield 7, 3) := by decide +kernel
theorem dX10_serve_121 : decode cX10_serve 121 = .ok (.iload 4, 2) := by decide +kernel
theorem dX10_serve_123 : decode cX10_serve 123 = .ok (.iconst 2, 1) := by decide +kernel
theorem dX10_serve_124 : decode cX10_serve 124 = .ok (.iadd, 1) := by decide +kernel
theorem dX10_serve_125 : decode cX10_serve 125 = .ok (.iaload, 1) := by decide +kernel
theorem dX10_serve_126 : decode cX10_serve 126 = .ok (.iconst (-1), 1) := by decide +kernel
theorem dX10_serve_127 : decode cX10_serve 127 = .ok (.if_icmp .eq 20, 3) := by decide +kernel
theorem dX10_serve_130 : decode cX10_serve 130 = .ok (.aload_n 0, 1) := by decide +kernel
theorem dX10_serve_131 : decode cX10_serve 131 = .ok (.aload_n 0, 1) := by decide +kernel
theorem dX10_serve_132 : decode cX10_serve 132 = .ok (.getfield 7, 3) := by decide +kernel
theorem dX10_serve_135 : decode cX10_serve 135 = .ok (.iload 4, 2) := by decide +kernel
theorem dX10_serve_137 : decode cX10_serve 137 = .ok (.iconst 2, 1) := by decide +kernel
theorem dX10_serve_138 : decode cX10_serve 138 = .ok (.iadd, 1) := by decide +kernel
theorem dX10_serve_139 : decode cX10_serve 139 = .ok (.iaload, 1) := by decide +kernel
theorem dX10_serve_140 : decode cX10_serve 140 = .ok (.iload 5, 2) := by decide +kernel
theorem dX10_serve_142 : decode cX10_serve 142 = .ok (.invokevirtual 112, 3) := by decide +kernel
theorem dX10_serve_145 : decode cX10_serve 145 = .ok (.istore 5, 2) := by decide +kernel
theorem dX10_serve_147 : decode cX10_serve 147 = .ok (.aload_n 0, 1) := by decide +kernel
theorem dX10_serve_148 : decode cX10_serve 148 = .ok (.aload_n 0, 1) := by decide +kernel
theorem dX10_serve_149 : decode cX10_serve 149 = .ok (.getfield 7, 3) := by decide +kernel
theorem dX10_serve_152 : decode cX10_serve 152 = .ok (.iload 4, 2) := by decide +kernel
theorem dX10_serve_154 : decode cX10_serve 154 = .ok (.iaload, 1) := by decide +kernel
theorem dX10_serve_155 : decode cX10_serve 155 = .ok (.iconst 4, 1) := by decide +kernel
theorem dX10_serve_156 : decode cX10_serve 156 = .ok (.iload 5, 2) := by decide +kernel
theorem dX10_serve_158 : decode cX10_serve 158 = .ok (.invokevirtual 88, 3) := by decide +kernel
theorem dX10_serve_161 : decode cX10_serve 161 = .ok (.iload_n 2, 1) := by decide +kernel
theorem dX10_serve_162 : decode cX10_serve 162 = .ok (.ifCond .ne 8, 3) := by decide +kernel
theorem dX10_serve_165 : decode cX10_serve 165 = .ok (.iload 5, 2) := by decide +kernel
theorem dX10_serve_167 : decode cX10_serve 167 = .ok (.ifCond .le 7, 3) := by decide +kernel
theorem dX10_serve_170 : decode cX10_serve 170 = .ok (.iconst 1, 1) := by decide +kernel
theorem dX10_serve_171 : decode cX10_serve 171 = .ok (.goto 4, 3) := by decide +kernel
theorem dX10_serve_174 : decode cX10_serve 174 = .ok (.iconst 0, 1) := by decide +kernel
theorem dX10_serve_175 : decode cX10_serve 175 = .ok (.istore_n 2, 1) := by decide +kernel
theorem dX10_serve_176 : decode cX10_serve 176 = .ok (.iinc 3 1, 3) := by decide +kernel
theorem dX10_serve_179 : decode cX10_serve 179 = .ok (.goto (-126), 3) := by decide +kernel
theorem dX10_serve_182 : decode cX10_serve 182 = .ok (.aload_n 0, 1) := by decide +kernel
theorem dX10_serve_183 : decode cX10_serve 183 = .ok (.invokevirtual 99, 3) := by decide +kernel
theorem dX10_serve_186 : decode cX10_serve 186 = .ok (.iload_n 2, 1) := by decide +kernel
theorem dX10_serve_187 : decode cX10_serve 187 = .ok (.ireturn, 1) := by decide +kernel
theorem dX10_age_0 : decode cX10_age 0 = .ok (.iconst 0, 1) := by decide +kernel
theorem dX10_age_1 : decode cX10_age 1 = .ok (.istore_n 1, 1) := by decide +kernel
theorem dX10_age_2 : decode cX10_age 2 = .ok (.iload_n 1, 1) := by decide +kernel
theorem dX10_age_3 : decode cX10_age 3 = .ok (.aload_n 0, 1) := by decide +kernel
theorem dX10_age_4 : decode cX10_age 4 = .ok (.getfield 7, 3) := by decide +kernel
theorem dX10_age_7 : decode cX10_age 7 = .ok (.sipush 406, 3) := by decide +kernel
theorem dX10_age_10 : decode cX10_age 10 = .ok (.iaload, 1) := by decide +kernel
theorem dX10_age_11 : decode cX10_age 11 = .ok (.if_icmp .ge 92, 3) := by decide +kernel
theorem dX10_age_14 : decode cX10_age 14 = .ok (.aload_n 0, 1) := by decide +kernel
theorem dX10_age_15 : decode cX10_age 15 = .ok (.iload_n 1, 1) := by decide +kernel
theorem dX10_age_16 : decode cX10_age 16 = .ok (.iconst 0, 1) := by decide +kernel
theorem dX10_age_17 : decode cX10_age 17 = .ok (.invokevirtual 53, 3) := by decide +kernel
theorem dX10_age_20 : decode cX10_age 20 = .ok (.istore_n 2, 1) := by decide +kernel
theorem dX10_age_21 : decode cX10_age 21 = .ok (.aload_n 0, 1) := by decide +kernel
theorem dX10_age_22 : decode cX10_age 22 = .ok (.iload_n 1, 1) := by decide +kernel
theorem dX10_age_23 : decode cX10_age 23 = .ok (.iconst 1, 1) := by decide +kernel
theorem dX10_age_24 : decode cX10_age 24 = .ok (.invokevirtual 53, 3) := by decide +kernel
theorem dX10_age_27 : decode cX10_age 27 = .ok (.istore_n 3, 1) := by decide +kernel
theorem dX10_age_28 : decode cX10_age 28 = .ok (.aload_n 0, 1) := by decide +kernel
theorem dX10_age_29 : decode cX10_age 29 = .ok (.getfield 7, 3) := by decide +kernel
theorem dX10_age_32 : decode cX10_age 32 = .ok (.bipush 70, 2) := by decide +kernel
theorem dX10_age_34 : decode cX10_age 34 = .ok (.iconst 4, 1) := by decide +kernel
theorem dX10_age_35 : decode cX10_age 35 = .ok (.iload_n 1, 1) := by decide +kernel
theorem dX10_age_36 : decode cX10_age 36 = .ok (.imul, 1) := by decide +kernel
theorem dX10_age_37 : decode cX10_age 37 = .ok (.iadd, 1) := by decide +kernel
theorem dX10_age_38 : decode cX10_age 38 = .ok (.iconst 3, 1) := by decide +kernel
theorem dX10_age_39 : decode cX10_age 39 = .ok (.iadd, 1) := by decide +kernel
theorem dX10_age_40 : decode cX10_age 40 = .ok (.dup2, 1) := by decide +kernel
theorem dX10_age_41 : decode cX10_age 41 = .ok (.iaload, 1) := by decide +kernel
theorem dX10_age_42 : decode cX10_age 42 = .ok (.aload_n 0, 1) := by decide +kernel
theorem dX10_age_43 : decode cX10_age 43 = .ok (.iload_n 2, 1) := by decide +kernel
theorem dX10_age_44 : decode cX10_age 44 = .ok (.iload_n 3, 1) := by decide +kernel
theorem dX10_age_45 : decode cX10_age 45 = .ok (.aload_n 0, 1) := by decide +kernel
theorem dX10_age_46 : decode cX10_age 46 = .ok (.getfield 7, 3) := by decide +kernel
theorem dX10_age_49 : decode cX10_age 49 = .ok (.bipush 67, 2) := by decide +kernel
theorem dX10_age_51 : decode cX10_age 51 = .ok (.iload_n 3, 1) := by decide +kernel
theorem dX10_age_52 : decode cX10_age 52 = .ok (.iadd, 1) := by decide +kernel
theorem dX10_age_53 : decode cX10_age 53 = .ok (.iaload, 1) := by decide +kernel
theorem dX10_age_54 : decode cX10_age 54 = .ok (.invokevirtual 79, 3) := by decide +kernel
theorem dX10_age_57 : decode cX10_age 57 = .ok (.iadd, 1) := by decide +kernel
theorem dX10_age_58 : decode cX10_age 58 = .ok (.iastore, 1) := by decide +kernel
theorem dX10_age_59 : decode cX10_age 59 = .ok (.aload_n 0, 1) := by decide +kernel
theorem dX10_age_60 : decode cX10_age 60 = .ok (.iload_n 1, 1) := by decide +kernel
theorem dX10_age_61 : decode cX10_age 61 = .ok (.iconst 3, 1) := by decide +kernel
theorem dX10_age_62 : decode cX10_age 62 = .ok (.invokevirtual 53, 3) := by decide +kernel
theorem dX10_age_65 : decode cX10_age 65 = .ok (.sipush 1000, 3) := by decide +kernel
theorem dX10_age_68 : decode cX10_age 68 = .ok (.if_icmp .lt 29, 3) := by decide +kernel
theorem dX10_age_71 : decode cX10_age 71 = .ok (.aload_n 0, 1) := by decide +kernel
theorem dX10_age_72 : decode cX10_age 72 = .ok (.iload_n 2, 1) := by decide +kernel
theorem dX10_age_73 : decode cX10_age 73 = .ok (.iconst 2, 1) := by decide +kernel
theorem dX10_age_74 : decode cX10_age 74 = .ok (.aload_n 0, 1) := by decide +kernel
theorem dX10_age_75 : decode cX10_age 75 = .ok (.iload_n 1, 1) := by decide +kernel
theorem dX10_age_76 : decode cX10_age 76 = .ok (.iconst 2, 1) := by decide +kernel
theorem dX10_age_77 : decode cX10_age 77 = .ok (.invokevirtual 53, 3) := by decide +kernel
theorem dX10_age_80 : decode cX10_age 80 = .ok (.invokevirtual 88, 3) := by decide +kernel
theorem dX10_age_83 : decode cX10_age 83 = .ok (.aload_n 0, 1) := by decide +kernel
theorem dX10_age_84 : decode cX10_age 84 = .ok (.getfield 7, 3) := by decide +kernel
theorem dX10_age_87 : decode cX10_age 87 = .ok (.bipush 70, 2) := by decide +kernel
theorem dX10_age_89 : decode cX10_age 89 = .ok (.iconst 4, 1) := by decide +kernel
theorem dX10_age_90 : decode cX10_age 90 = .ok (.iload_n 1, 1) := by decide +kernel
theorem dX10_age_91 : decode cX10_age 91 = .ok (.imul, 1) := by decide +kernel
theorem dX10_age_92 : decode cX10_age 92 = .ok (.iadd, 1) := by decide +kernel
theorem dX10_age_93 : decode cX10_age 93 = .ok (.iconst 2, 1) := by decide +kernel
theorem dX10_age_94 : decode cX10_age 94 = .ok (.iadd, 1) := by decide +kernel
theorem dX10_age_95 : decode cX10_age 95 = .ok (.iconst 0, 1) := by decide +kernel
theorem dX10_age_96 : decode cX10_age 96 = .ok (.iastore, 1) := by decide +kernel
theorem dX10_age_97 : decode cX10_age 97 = .ok (.iinc 1 1, 3) := by decide +kernel
theorem dX10_age_100 : decode cX10_age 100 = .ok (.goto (-98), 3) := by decide +kernel
theorem dX10_age_103 : decode cX10_age 103 = .ok (.aload_n 0, 1) := by decide +kernel
theorem dX10_age_104 : decode cX10_age 104 = .ok (.invokevirtual 99, 3) := by decide +kernel
theorem dX10_age_107 : decode cX10_age 107 = .ok (.iconst 0, 1) := by decide +kernel
theorem dX10_age_108 : decode cX10_age 108 = .ok (.istore_n 1, 1) := by decide +kernel
theorem dX10_age_109 : decode cX10_age 109 = .ok (.iload_n 1, 1) := by decide +kernel
theorem dX10_age_110 : decode cX10_age 110 = .ok (.iconst 3, 1) := by decide +kernel
theorem dX10_age_111 : decode cX10_age 111 = .ok (.if_icmp .ge 38, 3) := by decide +kernel
theorem dX10_age_114 : decode cX10_age 114 = .ok (.aload_n 0, 1) := by decide +kernel
theorem dX10_age_115 : decode cX10_age 115 = .ok (.getfield 7, 3) := by decide +kernel
theorem dX10_age_118 : decode cX10_age 118 = .ok (.bipush 67, 2) := by decide +kernel
theorem dX10_age_120 : decode cX10_age 120 = .ok (.iload_n 1, 1) := by decide +kernel
theorem dX10_age_121 : decode cX10_age 121 = .ok (.iadd, 1) := by decide +kernel
theorem dX10_age_122 : decode cX10_age 122 = .ok (.dup2, 1) := by decide +kernel
theorem dX10_age_123 : decode cX10_age 123 = .ok (.iaload, 1) := by decide +kernel
theorem dX10_age_124 : decode cX10_age 124 = .ok (.aload_n 0, 1) := by decide +kernel
theorem dX10_age_125 : decode cX10_age 125 = .ok (.getfield 7, 3) := by decide +kernel
theorem dX10_age_128 : decode cX10_age 128 = .ok (.bipush 67, 2) := by decide +kernel
theorem dX10_age_130 : decode cX10_age 130 = .ok (.iload_n 1, 1) := by decide +kernel
theorem dX10_age_131 : decode cX10_age 131 = .ok (.iadd, 1) := by decide +kernel
theorem dX10_age_132 : decode cX10_age 132 = .ok (.iaload, 1) := by decide +kernel
theorem dX10_age_133 : decode cX10_age 133 = .ok (.ifCond .le 7, 3) := by decide +kernel
theorem dX10_age_136 : decode cX10_age 136 = .ok (.iconst 1, 1) := by decide +kernel
theorem dX10_age_137 : decode cX10_age 137 = .ok (.goto 4, 3) := by decide +kernel
theorem dX10_age_140 : decode cX10_age 140 = .ok (.iconst 0, 1) := by decide +kernel
theorem dX10_age_141 : decode cX10_age 141 = .ok (.isub, 1) := by decide +kernel
theorem dX10_age_142 : decode cX10_age 142 = .ok (.iastore, 1) := by decide +kernel
theorem dX10_age_143 : decode cX10_age 143 = .ok (.iinc 1 1, 3) := by decide +kernel
theorem dX10_age_146 : decode cX10_age 146 = .ok (.goto (-37), 3) := by decide +kernel
theorem dX10_age_149 : decode cX10_age 149 = .ok (.return_, 1) := by decide +kernel
theorem dX10_passDay_0 : decode cX10_passDay 0 = .ok (.aload_n 0, 1) := by decide +kernel
theorem dX10_passDay_1 : decode cX10_passDay 1 = .ok (.getfield 7, 3) := by decide +kernel
theorem dX10_passDay_4 : decode cX10_passDay 4 = .ok (.sipush 412, 3) := by decide +kernel
theorem dX10_passDay_7 : decode cX10_passDay 7 = .ok (.dup2, 1) := by decide +kernel
theorem dX10_passDay_8 : decode cX10_passDay 8 = .ok (.iaload, 1) := by decide +kernel
theorem dX10_passDay_9 : decode cX10_passDay 9 = .ok (.aload_n 0, 1) := by decide +kernel
theorem dX10_passDay_10 : decode cX10_passDay 10 = .ok (.invokevirtual 115, 3) := by decide +kernel
theorem dX10_passDay_13 : decode cX10_passDay 13 = .ok (.ifCond .eq 7, 3) := by decide +kernel
theorem dX10_passDay_16 : decode cX10_passDay 16 = .ok (.iconst 1, 1) := by decide +kernel
theorem dX10_passDay_17 : decode cX10_passDay 17 = .ok (.goto 4, 3) := by decide +kernel
theorem dX10_passDay_20 : decode cX10_passDay 20 = .ok (.iconst 0, 1) := by decide +kernel
theorem dX10_passDay_21 : decode cX10_passDay 21 = .ok (.iadd, 1) := by decide +kernel
theorem dX10_passDay_22 : decode cX10_passDay 22 = .ok (.iastore, 1) := by decide +kernel
theorem dX10_passDay_23 : decode cX10_passDay 23 = .ok (.aload_n 0, 1) := by decide +kernel
theorem dX10_passDay_24 : decode cX10_passDay 24 = .ok (.invokevirtual 119, 3) := by decide +kernel
theorem dX10_passDay_27 : decode cX10_passDay 27 = .ok (.aload_n 0, 1) := by decide +kernel
theorem dX10_passDay_28 : decode cX10_passDay 28 = .ok (.getfield 7, 3) := by decide +kernel
theorem dX10_passDay_31 : decode cX10_passDay 31 = .ok (.sipush 404, 3) := by decide +kernel
theorem dX10_passDay_34 : decode cX10_passDay 34 = .ok (.dup2, 1) := by decide +kernel
theorem dX10_passDay_35 : decode cX10_passDay 35 = .ok (.iaload, 1) := by decide +kernel
theorem dX10_passDay_36 : decode cX10_passDay 36 = .ok (.iconst 1, 1) := by decide +kernel
theorem dX10_passDay_37 : decode cX10_passDay 37 = .ok (.iadd, 1) := by decide +kernel
theorem dX10_passDay_38 : decode cX10_passDay 38 = .ok (.iastore, 1) := by decide +kernel
theorem dX10_passDay_39 : decode cX10_passDay 39 = .ok (.return_, 1) := by decide +kernel
theorem dX10_all_0 : decode cX10_all 0 = .ok (.iconst 0, 1) := by decide +kernel
theorem dX10_all_1 : decode cX10_all 1 = .ok (.istore_n 2, 1) := by decide +kernel
theorem dX10_all_2 : decode cX10_all 2 = .ok (.iconst 0, 1) := by decide +kernel
theorem dX10_all_3 : decode cX10_all 3 = .ok (.istore_n 3, 1) := by decide +kernel
theorem dX10_all_4 : decode cX10_all 4 = .ok (.iload_n 3, 1) := by decide +kernel
theorem dX10_all_5 : decode cX10_all 5 = .ok (.aload_n 0, 1) := by decide +kernel
theorem dX10_all_6 : decode cX10_all 6 = .ok (.getfield 7, 3) := by decide +kernel
theorem dX10_all_9 : decode cX10_all 9 = .ok (.sipush 405, 3) := by decide +kernel
theorem dX10_all_12 : decode cX10_all 12 = .ok (.iaload, 1) := by decide +kernel
theorem dX10_all_13 : decode cX10_all 13 = .ok (.if_icmp .ge 25, 3) := by decide +kernel
theorem dX10_all_16 : decode cX10_all 16 = .ok (.iload_n 2, 1) := by decide +kernel
theorem dX10_all_17 : decode cX10_all 17 = .ok (.aload_n 0, 1) := by decide +kernel
theorem dX10_all_18 : decode cX10_all 18 = .ok (.getfield 7, 3) := by decide +kernel
theorem dX10_all_21 : decode cX10_all 21 = .ok (.bipush 24, 2) := by decide +kernel
theorem dX10_all_23 : decode cX10_all 23 = .ok (.iconst 5, 1) := by decide +kernel
theorem dX10_all_24 : decode cX10_all 24 = .ok (.iload_n 3, 1) := by decide +kernel
theorem dX10_all_25 : decode cX10_all 25 = .ok (.imul, 1) := by decide +kernel
theorem dX10_all_26 : decode cX10_all 26 = .ok (.iadd, 1) := by decide +kernel
theorem dX10_all_27 : decode cX10_all 27 = .ok (.iload_n 1, 1) := by decide +kernel
theorem dX10_all_28 : decode cX10_all 28 = .ok (.iadd, 1) := by decide +kernel
theorem dX10_all_29 : decode cX10_all 29 = .ok (.iaload, 1) := by decide +kernel
theorem dX10_all_30 : decode cX10_all 30 = .ok (.iadd, 1) := by decide +kernel
theorem dX10_all_31 : decode cX10_all 31 = .ok (.istore_n 2, 1) := by decide +kernel
theorem dX10_all_32 : decode cX10_all 32 = .ok (.iinc 3 1, 3) := by decide +kernel
theorem dX10_all_35 : decode cX10_all 35 = .ok (.goto (-31), 3) := by decide +kernel
theorem dX10_all_38 : decode cX10_all 38 = .ok (.iload_n 2, 1) := by decide +kernel
theorem dX10_all_39 : decode cX10_all 39 = .ok (.ireturn, 1) := by decide +kernel
theorem dX10_passDays_0 : decode cX10_passDays 0 = .ok (.iconst 0, 1) := by decide +kernel
theorem dX10_passDays_1 : decode cX10_passDays 1 = .ok (.istore_n 2, 1) := by decide +kernel
theorem dX10_passDays_2 : decode cX10_passDays 2 = .ok (.iload_n 2, 1) := by decide +kernel
theorem dX10_passDays_3 : decode cX10_passDays 3 = .ok (.iload_n 1, 1) := by decide +kernel
theorem dX10_passDays_4 : decode cX10_passDays 4 = .ok (.if_icmp .ge 13, 3) := by decide +kernel
theorem dX10_passDays_7 : decode cX10_passDays 7 = .ok (.aload_n 0, 1) := by decide +kernel
theorem dX10_passDays_8 : decode cX10_passDays 8 = .ok (.invokevirtual 122, 3) := by decide +kernel
theorem dX10_passDays_11 : decode cX10_passDays 11 = .ok (.iinc 2 1, 3) := by decide +kernel
theorem dX10_passDays_14 : decode cX10_passDays 14 = .ok (.goto (-12), 3) := by decide +kernel
theorem dX10_passDays_17 : decode cX10_passDays 17 = .ok (.return_, 1) := by decide +kernel
theorem dX10_pass_0 : decode cX10_pass 0 = .ok (.aload_n 0, 1) := by decide +kernel
theorem dX10_pass_1 : decode cX10_pass 1 = .ok (.iload_n 1, 1) := by decide +kernel
theorem dX10_pass_2 : decode cX10_pass 2 = .ok (.iconst 1, 1) := by decide +kernel
theorem dX10_pass_3 : decode cX10_pass 3 = .ok (.bipush 60, 2) := by decide +kernel
theorem dX10_pass_5 : decode cX10_pass 5 = .ok (.invokestatic 35, 3) := by decide +kernel
theorem dX10_pass_8 : decode cX10_pass 8 = .ok (.ifCond .eq 7, 3) := by decide +kernel
theorem dX10_pass_11 : decode cX10_pass 11 = .ok (.iconst 0, 1) := by decide +kernel
theorem dX10_pass_12 : decode cX10_pass 12 = .ok (.goto 4, 3) := by decide +kernel
theorem dX10_pass_15 : decode cX10_pass 15 = .ok (.iconst 1, 1) := by decide +kernel
theorem dX10_pass_16 : decode cX10_pass 16 = .ok (.putfield 31, 3) := by decide +kernel
theorem dX10_pass_19 : decode cX10_pass 19 = .ok (.aload_n 0, 1) := by decide +kernel
theorem dX10_pass_20 : decode cX10_pass 20 = .ok (.getfield 31, 3) := by decide +kernel
theorem dX10_pass_23 : decode cX10_pass 23 = .ok (.ifCond .le 5, 3) := by decide +kernel
theorem dX10_pass_26 : decode cX10_pass 26 = .ok (.iconst 0, 1) := by decide +kernel
theorem dX10_pass_27 : decode cX10_pass 27 = .ok (.ireturn, 1) := by decide +kernel
theorem dX10_pass_28 : decode cX10_pass 28 = .ok (.aload_n 0, 1) := by decide +kernel
theorem dX10_pass_29 : decode cX10_pass 29 = .ok (.invokevirtual 50, 3) := by decide +kernel
theorem dX10_pass_32 : decode cX10_pass 32 = .ok (.aload_n 0, 1) := by decide +kernel
theorem dX10_pass_33 : decode cX10_pass 33 = .ok (.iconst 2, 1) := by decide +kernel
theorem dX10_pass_34 : decode cX10_pass 34 = .ok (.invokevirtual 125, 3) := by decide +kernel
theorem dX10_pass_37 : decode cX10_pass 37 = .ok (.istore_n 2, 1) := by decide +kernel
theorem dX10_pass_38 : decode cX10_pass 38 = .ok (.aload_n 0, 1) := by decide +kernel
theorem dX10_pass_39 : decode cX10_pass 39 = .ok (.iload_n 1, 1) := by decide +kernel
theorem dX10_pass_40 : decode cX10_pass 40 = .ok (.invokevirtual 128, 3) := by decide +kernel
theorem dX10_pass_43 : decode cX10_pass 43 = .ok (.aload_n 0, 1) := by decide +kernel
theorem dX10_pass_44 : decode cX10_pass 44 = .ok (.iconst 2, 1) := by decide +kernel
theorem dX10_pass_45 : decode cX10_pass 45 = .ok (.invokevirtual 125, 3) := by decide +kernel
theorem dX10_pass_48 : decode cX10_pass 48 = .ok (.iload_n 2, 1) := by decide +kernel
theorem dX10_pass_49 : decode cX10_pass 49 = .ok (.isub, 1) := by decide +kernel
theorem dX10_pass_50 : decode cX10_pass 50 = .ok (.ireturn, 1) := by decide +kernel
theorem dX10_takesItem_0 : decode cX10_takesItem 0 = .ok (.bipush 12, 2) := by decide +kernel
theorem dX10_takesItem_2 : decode cX10_takesItem 2 = .ok (.aload_n 0, 1) := by decide +kernel
theorem dX10_takesItem_3 : decode cX10_takesItem 3 = .ok (.getfield 132, 3) := by decide +kernel
theorem dX10_takesItem_6 : decode cX10_takesItem 6 = .ok (.imul, 1) := by decide +kernel
theorem dX10_takesItem_7 : decode cX10_takesItem 7 = .ok (.iconst 3, 1) := by decide +kernel
theorem dX10_takesItem_8 : decode cX10_takesItem 8 = .ok (.aload_n 0, 1) := by decide +kernel
theorem dX10_takesItem_9 : decode cX10_takesItem 9 = .ok (.getfield 28, 3) := by decide +kernel
theorem dX10_takesItem_12 : decode cX10_takesItem 12 = .ok (.aload_n 0, 1) := by decide +kernel
theorem dX10_takesItem_13 : decode cX10_takesItem 13 = .ok (.getfield 132, 3) := by decide +kernel
theorem dX10_takesItem_16 : decode cX10_takesItem 16 = .ok (.iaload, 1) := by decide +kernel
theorem dX10_takesItem_17 : decode cX10_takesItem 17 = .ok (.imul, 1) := by decide +kernel
theorem dX10_takesItem_18 : decode cX10_takesItem 18 = .ok (.iadd, 1) := by decide +kernel
theorem dX10_takesItem_19 : decode cX10_takesItem 19 = .ok (.istore_n 2, 1) := by decide +kernel
theorem dX10_takesItem_20 : decode cX10_takesItem 20 = .ok (.aload_n 0, 1) := by decide +kernel
theorem dX10_takesItem_21 : decode cX10_takesItem 21 = .ok (.getfield 25, 3) := by decide +kernel
theorem dX10_takesItem_24 : decode cX10_takesItem 24 = .ok (.iload_n 2, 1) := by decide +kernel
theorem dX10_takesItem_25 : decode cX10_takesItem 25 = .ok (.iload_n 1, 1) := by decide +kernel
theorem dX10_takesItem_26 : decode cX10_takesItem 26 = .ok (.bipush 48, 2) := by decide +kernel
theorem dX10_takesItem_28 : decode cX10_takesItem 28 = .ok (.isub, 1) := by decide +kernel
theorem dX10_takesItem_29 : decode cX10_takesItem 29 = .ok (.iastore, 1) := by decide +kernel
theorem dX10_takesItem_30 : decode cX10_takesItem 30 = .ok (.aload_n 0, 1) := by decide +kernel
theorem dX10_takesItem_31 : decode cX10_takesItem 31 = .ok (.getfield 25, 3) := by decide +kernel
theorem dX10_takesItem_34 : decode cX10_takesItem 34 = .ok (.iload_n 2, 1) := by decide +kernel
theorem dX10_takesItem_35 : decode cX10_takesItem 35 = .ok (.iconst 1, 1) := by decide +kernel
theorem dX10_takesItem_36 : decode cX10_takesItem 36 = .ok (.iadd, 1) := by decide +kernel
theorem dX10_takesItem_37 : decode cX10_takesItem 37 = .ok (.iconst 0, 1) := by decide +kernel
theorem dX10_takesItem_38 : decode cX10_takesItem 38 = .ok (.iastore, 1) := by decide +kernel
theorem dX10_takesItem_39 : decode cX10_takesItem 39 = .ok (.aload_n 0, 1) := by decide +kernel
theorem dX10_takesItem_40 : decode cX10_takesItem 40 = .ok (.getfield 25, 3) := by decide +kernel
theorem dX10_takesItem_43 : decode cX10_takesItem 43 = .ok (.iload_n 2, 1) := by decide +kernel
theorem dX10_takesItem_44 : decode cX10_takesItem 44 = .ok (.iconst 2, 1) := by decide +kernel
theorem dX10_takesItem_45 : decode cX10_takesItem 45 = .ok (.iadd, 1) := by decide +kernel
theorem dX10_takesItem_46 : decode cX10_takesItem 46 = .ok (.iconst (-1), 1) := by decide +kernel
theorem dX10_takesItem_47 : decode cX10_takesItem 47 = .ok (.iastore, 1) := by decide +kernel
theorem dX10_takesItem_48 : decode cX10_takesItem 48 = .ok (.aload_n 0, 1) := by decide +kernel
theorem dX10_takesItem_49 : decode cX10_takesItem 49 = .ok (.iconst 1, 1) := by decide +kernel
theorem dX10_takesItem_50 : decode cX10_takesItem 50 = .ok (.putfield 135, 3) := by decide +kernel
theorem dX10_takesItem_53 : decode cX10_takesItem 53 = .ok (.iload_n 1, 1) := by decide +kernel
theorem dX10_takesItem_54 : decode cX10_takesItem 54 = .ok (.bipush 48, 2) := by decide +kernel
theorem dX10_takesItem_56 : decode cX10_takesItem 56 = .ok (.bipush 55, 2) := by decide +kernel
theorem dX10_takesItem_58 : decode cX10_takesItem 58 = .ok (.invokestatic 35, 3) := by decide +kernel
theorem dX10_takesItem_61 : decode cX10_takesItem 61 = .ok (.ireturn, 1) := by decide +kernel
theorem dX10_goesOn_0 : decode cX10_goesOn 0 = .ok (.iload_n 1, 1) := by decide +kernel
theorem dX10_goesOn_1 : decode cX10_goesOn 1 = .ok (.bipush 59, 2) := by decide +kernel
theorem dX10_goesOn_3 : decode cX10_goesOn 3 = .ok (.if_icmp .ne 39, 3) := by decide +kernel
theorem dX10_goesOn_6 : decode cX10_goesOn 6 = .ok (.aload_n 0, 1) := by decide +kernel
theorem dX10_goesOn_7 : decode cX10_goesOn 7 = .ok (.getfield 132, 3) := by decide +kernel
theorem dX10_goesOn_10 : decode cX10_goesOn 10 = .ok (.bipush 9, 2) := by decide +kernel
theorem dX10_goesOn_12 : decode cX10_goesOn 12 = .ok (.if_icmp .ge 30, 3) := by decide +kernel
theorem dX10_goesOn_15 : decode cX10_goesOn 15 = .ok (.aload_n 0, 1) := by decide +kernel
theorem dX10_goesOn_16 : decode cX10_goesOn 16 = .ok (.dup, 1) := by decide +kernel
theorem dX10_goesOn_17 : decode cX10_goesOn 17 = .ok (.getfield 132, 3) := by decide +kernel
theorem dX10_goesOn_20 : decode cX10_goesOn 20 = .ok (.iconst 1, 1) := by decide +kernel
theorem dX10_goesOn_21 : decode cX10_goesOn 21 = .ok (.iadd, 1) := by decide +kernel
theorem dX10_goesOn_22 : decode cX10_goesOn 22 = .ok (.putfield 132, 3) := by decide +kernel
theorem dX10_goesOn_25 : decode cX10_goesOn 25 = .ok (.aload_n 0, 1) := by decide +kernel
theorem dX10_goesOn_26 : decode cX10_goesOn 26 = .ok (.getfield 28, 3) := by decide +kernel
theorem dX10_goesOn_29 : decode cX10_goesOn 29 = .ok (.aload_n 0, 1) := by decide +kernel
theorem dX10_goesOn_30 : decode cX10_goesOn 30 = .ok (.getfield 132, 3) := by decide +kernel
theorem dX10_goesOn_33 : decode cX10_goesOn 33 = .ok (.iconst 0, 1) := by decide +kernel
theorem dX10_goesOn_34 : decode cX10_goesOn 34 = .ok (.iastore, 1) := by decide +kernel
theorem dX10_goesOn_35 : decode cX10_goesOn 35 = .ok (.aload_n 0, 1) := by decide +kernel
theorem dX10_goesOn_36 : decode cX10_goesOn 36 = .ok (.iconst 0, 1) := by decide +kernel
theorem dX10_goesOn_37 : decode cX10_goesOn 37 = .ok (.putfield 135, 3) := by decide +kernel
theorem dX10_goesOn_40 : decode cX10_goesOn 40 = .ok (.iconst 1, 1) := by decide +kernel
theorem dX10_goesOn_41 : decode cX10_goesOn 41 = .ok (.ireturn, 1) := by decide +kernel
theorem dX10_goesOn_42 : decode cX10_goesOn 42 = .ok (.iload_n 1, 1) := by decide +kernel
theorem dX10_goesOn_43 : decode cX10_goesOn 43 = .ok (.bipush 44, 2) := by decide +kernel
theorem dX10_goesOn_45 : decode cX10_goesOn 45 = .ok (.if_icmp .ne 33, 3) := by decide +kernel
theorem dX10_goesOn_48 : decode cX10_goesOn 48 = .ok (.aload_n 0, 1) := by decide +kernel
theorem dX10_goesOn_49 : decode cX10_goesOn 49 = .ok (.getfield 135, 3) := by decide +kernel
theorem dX10_goesOn_52 : decode cX10_goesOn 52 = .ok (.bipush 6, 2) := by decide +kernel
theorem dX10_goesOn_54 : decode cX10_goesOn 54 = .ok (.if_icmp .eq 24, 3) := by decide +kernel
theorem dX10_goesOn_57 : decode cX10_goesOn 57 = .ok (.aload_n 0, 1) := by decide +kernel
theorem dX10_goesOn_58 : decode cX10_goesOn 58 = .ok (.getfield 28, 3) := by decide +kernel
theorem dX10_goesOn_61 : decode cX10_goesOn 61 = .ok (.aload_n 0, 1) := by decide +kernel
theorem dX10_goesOn_62 : decode cX10_goesOn 62 = .ok (.getfield 132, 3) := by decide +kernel
theorem dX10_goesOn_65 : decode cX10_goesOn 65 = .ok (.iaload, 1) := by decide +kernel
theorem dX10_goesOn_66 : decode cX10_goesOn 66 = .ok (.iconst 4, 1) := by decide +kernel
theorem dX10_goesOn_67 : decode cX10_goesOn 67 = .ok (.if_icmp .ge 11, 3) := by decide +kernel
theorem dX10_goesOn_70 : decode cX10_goesOn 70 = .ok (.aload_n 0, 1) := by decide +kernel
theorem dX10_goesOn_71 : decode cX10_goesOn 71 = .ok (.bipush 7, 2) := by decide +kernel
theorem dX10_goesOn_73 : decode cX10_goesOn 73 = .ok (.putfield 135, 3) := by decide +kernel
theorem dX10_goesOn_76 : decode cX10_goesOn 76 = .ok (.iconst 1, 1) := by decide +kernel
theorem dX10_goesOn_77 : decode cX10_goesOn 77 = .ok (.ireturn, 1) := by decide +kernel
theorem dX10_goesOn_78 : decode cX10_goesOn 78 = .ok (.iload_n 1, 1) := by decide +kernel
theorem dX10_goesOn_79 : decode cX10_goesOn 79 = .ok (.bipush 47, 2) := by decide +kernel
theorem dX10_goesOn_81 : decode cX10_goesOn 81 = .ok (.if_icmp .ne 15, 3) := by decide +kernel
theorem dX10_goesOn_84 : decode cX10_goesOn 84 = .ok (.aload_n 0, 1) := by decide +kernel
theorem dX10_goesOn_85 : decode cX10_goesOn 85 = .ok (.getfield 135, 3) := by decide +kernel
theorem dX10_goesOn_88 : decode cX10_goesOn 88 = .ok (.iconst 3, 1) := by decide +kernel
theorem dX10_goesOn_89 : decode cX10_goesOn 89 = .ok (.if_icmp .ne 7, 3) := by decide +kernel
theorem dX10_goesOn_92 : decode cX10_goesOn 92 = .ok (.iconst 1, 1) := by decide +kernel
theorem dX10_goesOn_93 : decode cX10_goesOn 93 = .ok (.goto 4, 3) := by decide +kernel
theorem dX10_goesOn_96 : decode cX10_goesOn 96 = .ok (.iconst 0, 1) := by decide +kernel
theorem dX10_goesOn_97 : decode cX10_goesOn 97 = .ok (.istore_n 2, 1) := by decide +kernel
theorem dX10_goesOn_98 : decode cX10_goesOn 98 = .ok (.aload_n 0, 1) := by decide +kernel
theorem dX10_goesOn_99 : decode cX10_goesOn 99 = .ok (.iconst 4, 1) := by decide +kernel
theorem dX10_goesOn_100 : decode cX10_goesOn 100 = .ok (.putfield 135, 3) := by decide +kernel
theorem dX10_goesOn_103 : decode cX10_goesOn 103 = .ok (.iload_n 2, 1) := by decide +kernel
theorem dX10_goesOn_104 : decode cX10_goesOn 104 = .ok (.ireturn, 1) := by decide +kernel
theorem dX10_takes_0 : decode cX10_takes 0 = .ok (.bipush 12, 2) := by decide +kernel
theorem dX10_takes_2 : decode cX10_takes 2 = .ok (.aload_n 0, 1) := by decide +kernel
theorem dX10_takes_3 : decode cX10_takes 3 = .ok (.getfield 132, 3) := by decide +kernel
theorem dX10_takes_6 : decode cX10_takes 6 = .ok (.imul, 1) := by decide +kernel
theorem dX10_takes_7 : decode cX10_takes 7 = .ok (.iconst 3, 1) := by decide +kernel
theorem dX10_takes_8 : decode cX10_takes 8 = .ok (.aload_n 0, 1) := by decide +kernel
theorem dX10_takes_9 : decode cX10_takes 9 = .ok (.getfield 28, 3) := by decide +kernel
theorem dX10_takes_12 : decode cX10_takes 12 = .ok (.aload_n 0, 1) := by decide +kernel
theorem dX10_takes_13 : decode cX10_takes 13 = .ok (.getfield 132, 3) := by decide +kernel
theorem dX10_takes_16 : decode cX10_takes 16 = .ok (.iaload, 1) := by decide +kernel
theorem dX10_takes_17 : decode cX10_takes 17 = .ok (.imul, 1) := by decide +kernel
theorem dX10_takes_18 : decode cX10_takes 18 = .ok (.iadd, 1) := by decide +kernel
theorem dX10_takes_19 : decode cX10_takes 19 = .ok (.istore_n 2, 1) := by decide +kernel
theorem dX10_takes_20 : decode cX10_takes 20 = .ok (.aload_n 0, 1) := by decide +kernel
theorem dX10_takes_21 : decode cX10_takes 21 = .ok (.getfield 135, 3) := by decide +kernel
theorem dX10_takes_24 : decode cX10_takes 24 = .ok (.tableswitch 179 0 7 #[48, 68, 85, 179, 124, 179, 179, 173], 48) := by decide +kernel
theorem dX10_takes_72 : decode cX10_takes 72 = .ok (.iload_n 1, 1) := by decide +kernel
theorem dX10_takes_73 : decode cX10_takes 73 = .ok (.bipush 45, 2) := by decide +kernel
theorem dX10_takes_75 : decode cX10_takes 75 = .ok (.if_icmp .ne 11, 3) := by decide +kernel
theorem dX10_takes_78 : decode cX10_takes 78 = .ok (.aload_n 0, 1) := by decide +kernel
theorem dX10_takes_79 : decode cX10_takes 79 = .ok (.bipush 6, 2) := by decide +kernel
theorem dX10_takes_81 : decode cX10_takes 81 = .ok (.putfield 135, 3) := by decide +kernel
theorem dX10_takes_84 : decode cX10_takes 84 = .ok (.iconst 1, 1) := by decide +kernel
theorem dX10_takes_85 : decode cX10_takes 85 = .ok (.ireturn, 1) := by decide +kernel
theorem dX10_takes_86 : decode cX10_takes 86 = .ok (.aload_n 0, 1) := by decide +kernel
theorem dX10_takes_87 : decode cX10_takes 87 = .ok (.iload_n 1, 1) := by decide +kernel
theorem dX10_takes_88 : decode cX10_takes 88 = .ok (.invokevirtual 138, 3) := by decide +kernel
theorem dX10_takes_91 : decode cX10_takes 91 = .ok (.ireturn, 1) := by decide +kernel
theorem dX10_takes_92 : decode cX10_takes 92 = .ok (.aload_n 0, 1) := by decide +kernel
theorem dX10_takes_93 : decode cX10_takes 93 = .ok (.iconst 2, 1) := by decide +kernel
theorem dX10_takes_94 : decode cX10_takes 94 = .ok (.putfield 135, 3) := by decide +kernel
theorem dX10_takes_97 : decode cX10_takes 97 = .ok (.iload_n 1, 1) := by decide +kernel
theorem dX10_takes_98 : decode cX10_takes 98 = .ok (.bipush 42, 2) := by decide +kernel
theorem dX10_takes_100 : decode cX10_takes 100 = .ok (.if_icmp .ne 7, 3) := by decide +kernel
theorem dX10_takes_103 : decode cX10_takes 103 = .ok (.iconst 1, 1) := by decide +kernel
theorem dX10_takes_104 : decode cX10_takes 104 = .ok (.goto 4, 3) := by decide +kernel
theorem dX10_takes_107 : decode cX10_takes 107 = .ok (.iconst 0, 1) := by decide +kernel
theorem dX10_takes_108 : decode cX10_takes 108 = .ok (.ireturn, 1) := by decide +kernel
theorem dX10_takes_109 : decode cX10_takes 109 = .ok (.aload_n 0, 1) := by decide +kernel
theorem dX10_takes_110 : decode cX10_takes 110 = .ok (.getfield 25, 3) := by decide +kernel
theorem dX10_takes_113 : decode cX10_takes 113 = .ok (.iload_n 2, 1) := by decide +kernel
theorem dX10_takes_114 : decode cX10_takes 114 = .ok (.iconst 1, 1) := by decide +kernel
theorem dX10_takes_115 : decode cX10_takes 115 = .ok (.iadd, 1) := by decide +kernel
theorem dX10_takes_116 : decode cX10_takes 116 = .ok (.iload_n 1, 1) := by decide +kernel
theorem dX10_takes_117 : decode cX10_takes 117 = .ok (.bipush 48, 2) := by decide +kernel
theorem dX10_takes_119 : decode cX10_takes 119 = .ok (.isub, 1) := by decide +kernel
theorem dX10_takes_120 : decode cX10_takes 120 = .ok (.iastore, 1) := by decide +kernel
theorem dX10_takes_121 : decode cX10_takes 121 = .ok (.aload_n 0, 1) := by decide +kernel
theorem dX10_takes_122 : decode cX10_takes 122 = .ok (.getfield 28, 3) := by decide +kernel
theorem dX10_takes_125 : decode cX10_takes 125 = .ok (.aload_n 0, 1) := by decide +kernel
theorem dX10_takes_126 : decode cX10_takes 126 = .ok (.getfield 132, 3) := by decide +kernel
theorem dX10_takes_129 : decode cX10_takes 129 = .ok (.dup2, 1) := by decide +kernel
theorem dX10_takes_130 : decode cX10_takes 130 = .ok (.iaload, 1) := by decide +kernel
theorem dX10_takes_131 : decode cX10_takes 131 = .ok (.iconst 1, 1) := by decide +kernel
theorem dX10_takes_132 : decode cX10_takes 132 = .ok (.iadd, 1) := by decide +kernel
theorem dX10_takes_133 : decode cX10_takes 133 = .ok (.iastore, 1) := by decide +kernel
theorem dX10_takes_134 : decode cX10_takes 134 = .ok (.aload_n 0, 1) := by decide +kernel
theorem dX10_takes_135 : decode cX10_takes 135 = .ok (.iconst 3, 1) := by decide +kernel
theorem dX10_takes_136 : decode cX10_takes 136 = .ok (.putfield 135, 3) := by decide +kernel
theorem dX10_takes_139 : decode cX10_takes 139 = .ok (.iload_n 1, 1) := by decide +kernel
theorem dX10_takes_140 : decode cX10_takes 140 = .ok (.bipush 49, 2) := by decide +kernel
theorem dX10_takes_142 : decode cX10_takes 142 = .ok (.bipush 57, 2) := by decide +kernel
theorem dX10_takes_144 : decode cX10_takes 144 = .ok (.invokestatic 35, 3) := by decide +kernel
theorem dX10_takes_147 : decode cX10_takes 147 = .ok (.ireturn, 1) := by decide +kernel
theorem dX10_takes_148 : decode cX10_takes 148 = .ok (.aload_n 0, 1) := by decide +kernel
theorem dX10_takes_149 : decode cX10_takes 149 = .ok (.getfield 25, 3) := by decide +kernel
theorem dX10_takes_152 : decode cX10_takes 152 = .ok (.iload_n 2, 1) := by decide +kernel
theorem dX10_takes_153 : decode cX10_takes 153 = .ok (.iconst 1, 1) := by decide +kernel
theorem dX10_takes_154 : decode cX10_takes 154 = .ok (.isub, 1) := by decide +kernel
theorem dX10_takes_155 : decode cX10_takes 155 = .ok (.iload_n 1, 1) := by decide +kernel
theorem dX10_takes_156 : decode cX10_takes 156 = .ok (.bipush 48, 2) := by decide +kernel
theorem dX10_takes_158 : decode cX10_takes 158 = .ok (.isub, 1) := by decide +kernel
theorem dX10_takes_159 : decode cX10_takes 159 = .ok (.iastore, 1) := by decide +kernel
theorem dX10_takes_160 : decode cX10_takes 160 = .ok (.aload_n 0, 1) := by decide +kernel
theorem dX10_takes_161 : decode cX10_takes 161 = .ok (.iconst 5, 1) := by decide +kernel
theorem dX10_takes_162 : decode cX10_takes 162 = .ok (.putfield 135, 3) := by decide +kernel
theorem dX10_takes_165 : decode cX10_takes 165 = .ok (.iload_n 1, 1) := by decide +kernel
theorem dX10_takes_166 : decode cX10_takes 166 = .ok (.bipush 48, 2) := by decide +kernel
theorem dX10_takes_168 : decode cX10_takes 168 = .ok (.bipush 55, 2) := by decide +kernel
theorem dX10_takes_170 : decode cX10_takes 170 = .ok (.invokestatic 35, 3) := by decide +kernel
theorem dX10_takes_173 : decode cX10_takes 173 = .ok (.ifCond .eq 22, 3) := by decide +kernel
theorem dX10_takes_176 : decode cX10_takes 176 = .ok (.iload_n 1, 1) := by decide +kernel
theorem dX10_takes_177 : decode cX10_takes 177 = .ok (.bipush 48, 2) := by decide +kernel
theorem dX10_takes_179 : decode cX10_takes 179 = .ok (.isub, 1) := by decide +kernel
theorem dX10_takes_180 : decode cX10_takes 180 = .ok (.aload_n 0, 1) := by decide +kernel
theorem dX10_takes_181 : decode cX10_takes 181 = .ok (.getfield 25, 3) := by decide +kernel
theorem dX10_takes_184 : decode cX10_takes 184 = .ok (.iload_n 2, 1) := by decide +kernel
theorem dX10_takes_185 : decode cX10_takes 185 = .ok (.iconst 3, 1) := by decide +kernel
theorem dX10_takes_186 : decode cX10_takes 186 = .ok (.isub, 1) := by decide +kernel
theorem dX10_takes_187 : decode cX10_takes 187 = .ok (.iaload, 1) := by decide +kernel
theorem dX10_takes_188 : decode cX10_takes 188 = .ok (.if_icmp .eq 7, 3) := by decide +kernel
theorem dX10_takes_191 : decode cX10_takes 191 = .ok (.iconst 1, 1) := by decide +kernel
theorem dX10_takes_192 : decode cX10_takes 192 = .ok (.goto 4, 3) := by decide +kernel
theorem dX10_takes_195 : decode cX10_takes 195 = .ok (.iconst 0, 1) := by decide +kernel
theorem dX10_takes_196 : decode cX10_takes 196 = .ok (.ireturn, 1) := by decide +kernel
theorem dX10_takes_197 : decode cX10_takes 197 = .ok (.aload_n 0, 1) := by decide +kernel
theorem dX10_takes_198 : decode cX10_takes 198 = .ok (.iload_n 1, 1) := by decide +kernel
theorem dX10_takes_199 : decode cX10_takes 199 = .ok (.invokevirtual 138, 3) := by decide +kernel
theorem dX10_takes_202 : decode cX10_takes 202 = .ok (.ireturn, 1) := by decide +kernel
theorem dX10_takes_203 : decode cX10_takes 203 = .ok (.aload_n 0, 1) := by decide +kernel
theorem dX10_takes_204 : decode cX10_takes 204 = .ok (.iload_n 1, 1) := by decide +kernel
theorem dX10_takes_205 : decode cX10_takes 205 = .ok (.invokevirtual 141, 3) := by decide +kernel
theorem dX10_takes_208 : decode cX10_takes 208 = .ok (.ireturn, 1) := by decide +kernel
theorem dX10_rightLength_0 : decode cX10_rightLength 0 = .ok (.aload_n 0, 1) := by decide +kernel
theorem dX10_rightLength_1 : decode cX10_rightLength 1 = .ok (.iconst 0, 1) := by decide +kernel
theorem dX10_rightLength_2 : decode cX10_rightLength 2 = .ok (.putfield 132, 3) := by decide +kernel
theorem dX10_rightLength_5 : decode cX10_rightLength 5 = .ok (.aload_n 0, 1) := by decide +kernel
theorem dX10_rightLength_6 : decode cX10_rightLength 6 = .ok (.getfield 28, 3) := by decide +kernel
theorem dX10_rightLength_9 : decode cX10_rightLength 9 = .ok (.iconst 0, 1) := by decide +kernel
theorem dX10_rightLength_10 : decode cX10_rightLength 10 = .ok (.iconst 0, 1) := by decide +kernel
theorem dX10_rightLength_11 : decode cX10_rightLength 11 = .ok (.iastore, 1) := by decide +kernel
theorem dX10_rightLength_12 : decode cX10_rightLength 12 = .ok (.aload_n 0, 1) := by decide +kernel
theorem dX10_rightLength_13 : decode cX10_rightLength 13 = .ok (.iconst 0, 1) := by decide +kernel
theorem dX10_rightLength_14 : decode cX10_rightLength 14 = .ok (.putfield 135, 3) := by decide +kernel
theorem dX10_rightLength_17 : decode cX10_rightLength 17 = .ok (.iconst 0, 1) := by decide +kernel
theorem dX10_rightLength_18 : decode cX10_rightLength 18 = .ok (.istore_n 1, 1) := by decide +kernel
theorem dX10_rightLength_19 : decode cX10_rightLength 19 = .ok (.iload_n 1, 1) := by decide +kernel
theorem dX10_rightLength_20 : decode cX10_rightLength 20 = .ok (.aload_n 0, 1) := by decide +kernel
theorem dX10_rightLength_21 : decode cX10_rightLength 21 = .ok (.getfield 144, 3) := by decide +kernel
theorem dX10_rightLength_24 : decode cX10_rightLength 24 = .ok (.if_icmp .ge 22, 3) := by decide +kernel
theorem dX10_rightLength_27 : decode cX10_rightLength 27 = .ok (.aload_n 0, 1) := by decide +kernel
theorem dX10_rightLength_28 : decode cX10_rightLength 28 = .ok (.aload_n 0, 1) := by decide +kernel
theorem dX10_rightLength_29 : decode cX10_rightLength 29 = .ok (.getfield 19, 3) := by decide +kernel
theorem dX10_rightLength_32 : decode cX10_rightLength 32 = .ok (.iload_n 1, 1) := by decide +kernel
theorem dX10_rightLength_33 : decode cX10_rightLength 33 = .ok (.iaload, 1) := by decide +kernel
theorem dX10_rightLength_34 : decode cX10_rightLength 34 = .ok (.invokevirtual 147, 3) := by decide +kernel
theorem dX10_rightLength_37 : decode cX10_rightLength 37 = .ok (.ifCond .eq 9, 3) := by decide +kernel
theorem dX10_rightLength_40 : decode cX10_rightLength 40 = .ok (.iinc 1 1, 3) := by decide +kernel
theorem dX10_rightLength_43 : decode cX10_rightLength 43 = .ok (.goto (-24), 3) := by decide +kernel
theorem dX10_rightLength_46 : decode cX10_rightLength 46 = .ok (.iload_n 1, 1) := by decide +kernel
theorem dX10_rightLength_47 : decode cX10_rightLength 47 = .ok (.ireturn, 1) := by decide +kernel
theorem dX10_append_0 : decode cX10_append 0 = .ok (.aload_n 0, 1) := by decide +kernel
theorem dX10_append_1 : decode cX10_append 1 = .ok (.iload_n 1, 1) := by decide +kernel
theorem dX10_append_2 : decode cX10_append 2 = .ok (.bipush 33, 2) := by decide +kernel
theorem dX10_append_4 : decode cX10_append 4 = .ok (.bipush 126, 2) := by decide +kernel
theorem dX10_append_6 : decode cX10_append 6 = .ok (.invokestatic 35, 3) := by decide +kernel
theorem dX10_append_9 : decode cX10_append 9 = .ok (.ifCond .ne 7, 3) := by decide +kernel
theorem dX10_append_12 : decode cX10_append 12 = .ok (.iconst 1, 1) := by decide +kernel
theorem dX10_append_13 : decode cX10_append 13 = .ok (.goto 17, 3) := by decide +kernel
theorem dX10_append_16 : decode cX10_append 16 = .ok (.aload_n 0, 1) := by decide +kernel
theorem dX10_append_17 : decode cX10_append 17 = .ok (.getfield 144, 3) := by decide +kernel
theorem dX10_append_20 : decode cX10_append 20 = .ok (.bipush 60, 2) := by decide +kernel
theorem dX10_append_22 : decode cX10_append 22 = .ok (.if_icmp .ne 7, 3) := by decide +kernel
theorem dX10_append_25 : decode cX10_append 25 = .ok (.iconst 2, 1) := by decide +kernel
theorem dX10_append_26 : decode cX10_append 26 = .ok (.goto 4, 3) := by decide +kernel
theorem dX10_append_29 : decode cX10_append 29 = .ok (.iconst 0, 1) := by decide +kernel
theorem dX10_append_30 : decode cX10_append 30 = .ok (.putfield 31, 3) := by decide +kernel
theorem dX10_append_33 : decode cX10_append 33 = .ok (.aload_n 0, 1) := by decide +kernel
theorem dX10_append_34 : decode cX10_append 34 = .ok (.getfield 31, 3) := by decide +kernel
theorem dX10_append_37 : decode cX10_append 37 = .ok (.ifCond .le 5, 3) := by decide +kernel
theorem dX10_append_40 : decode cX10_append 40 = .ok (.iconst 0, 1) := by decide +kernel
theorem dX10_append_41 : decode cX10_append 41 = .ok (.ireturn, 1) := by decide +kernel
theorem dX10_append_42 : decode cX10_append 42 = .ok (.aload_n 0, 1) := by decide +kernel
theorem dX10_append_43 : decode cX10_append 43 = .ok (.getfield 19, 3) := by decide +kernel
theorem dX10_append_46 : decode cX10_append 46 = .ok (.aload_n 0, 1) := by decide +kernel
theorem dX10_append_47 : decode cX10_append 47 = .ok (.getfield 144, 3) := by decide +kernel
theorem dX10_append_50 : decode cX10_append 50 = .ok (.iload_n 1, 1) := by decide +kernel
theorem dX10_append_51 : decode cX10_append 51 = .ok (.iastore, 1) := by decide +kernel
theorem dX10_append_52 : decode cX10_append 52 = .ok (.aload_n 0, 1) := by decide +kernel
theorem dX10_append_53 : decode cX10_append 53 = .ok (.dup, 1) := by decide +kernel
theorem dX10_append_54 : decode cX10_append 54 = .ok (.getfield 144, 3) := by decide +kernel
theorem dX10_append_57 : decode cX10_append 57 = .ok (.iconst 1, 1) := by decide +kernel
theorem dX10_append_58 : decode cX10_append 58 = .ok (.iadd, 1) := by decide +kernel
theorem dX10_append_59 : decode cX10_append 59 = .ok (.putfield 144, 3) := by decide +kernel
theorem dX10_append_62 : decode cX10_append 62 = .ok (.aload_n 0, 1) := by decide +kernel
theorem dX10_append_63 : decode cX10_append 63 = .ok (.getfield 144, 3) := by decide +kernel
theorem dX10_append_66 : decode cX10_append 66 = .ok (.ireturn, 1) := by decide +kernel
theorem dX10_clearBuffer_0 : decode cX10_clearBuffer 0 = .ok (.aload_n 0, 1) := by decide +kernel
theorem dX10_clearBuffer_1 : decode cX10_clearBuffer 1 = .ok (.iconst 0, 1) := by decide +kernel
theorem dX10_clearBuffer_2 : decode cX10_clearBuffer 2 = .ok (.putfield 31, 3) := by decide +kernel
theorem dX10_clearBuffer_5 : decode cX10_clearBuffer 5 = .ok (.aload_n 0, 1) := by decide +kernel
theorem dX10_clearBuffer_6 : decode cX10_clearBuffer 6 = .ok (.getfield 144, 3) := by decide +kernel
theorem dX10_clearBuffer_9 : decode cX10_clearBuffer 9 = .ok (.istore_n 1, 1) := by decide +kernel
theorem dX10_clearBuffer_10 : decode cX10_clearBuffer 10 = .ok (.aload_n 0, 1) := by decide +kernel
theorem dX10_clearBuffer_11 : decode cX10_clearBuffer 11 = .ok (.iconst 0, 1) := by decide +kernel
theorem dX10_clearBuffer_12 : decode cX10_clearBuffer 12 = .ok (.putfield 144, 3) := by decide +kernel
theorem dX10_clearBuffer_15 : decode cX10_clearBuffer 15 = .ok (.iload_n 1, 1) := by decide +kernel
theorem dX10_clearBuffer_16 : decode cX10_clearBuffer 16 = .ok (.ireturn, 1) := by decide +kernel
theorem dX10_firstError_0 : decode cX10_firstError 0 = .ok (.aload_n 0, 1) := by decide +kernel
theorem dX10_firstError_1 : decode cX10_firstError 1 = .ok (.iconst 0, 1) := by decide +kernel
theorem dX10_firstError_2 : decode cX10_firstError 2 = .ok (.putfield 31, 3) := by decide +kernel
theorem dX10_firstError_5 : decode cX10_firstError 5 = .ok (.aload_n 0, 1) := by decide +kernel
theorem dX10_firstError_6 : decode cX10_firstError 6 = .ok (.invokevirtual 150, 3) := by decide +kernel
theorem dX10_firstError_9 : decode cX10_firstError 9 = .ok (.ireturn, 1) := by decide +kernel
theorem dX10_areKinds_0 : decode cX10_areKinds 0 = .ok (.iconst 1, 1) := by decide +kernel
theorem dX10_areKinds_1 : decode cX10_areKinds 1 = .ok (.istore_n 1, 1) := by decide +kernel
theorem dX10_areKinds_2 : decode cX10_areKinds 2 = .ok (.iconst 0, 1) := by decide +kernel
theorem dX10_areKinds_3 : decode cX10_areKinds 3 = .ok (.istore_n 2, 1) := by decide +kernel
theorem dX10_areKinds_4 : decode cX10_areKinds 4 = .ok (.iload_n 2, 1) := by decide +kernel
theorem dX10_areKinds_5 : decode cX10_areKinds 5 = .ok (.aload_n 0, 1) := by decide +kernel
theorem dX10_areKinds_6 : decode cX10_areKinds 6 = .ok (.getfield 132, 3) := by decide +kernel
theorem dX10_areKinds_9 : decode cX10_areKinds 9 = .ok (.if_icmp .gt 90, 3) := by decide +kernel
theorem dX10_areKinds_12 : decode cX10_areKinds 12 = .ok (.iconst 0, 1) := by decide +kernel
theorem dX10_areKinds_13 : decode cX10_areKinds 13 = .ok (.istore_n 3, 1) := by decide +kernel
theorem dX10_areKinds_14 : decode cX10_areKinds 14 = .ok (.iload_n 3, 1) := by decide +kernel
theorem dX10_areKinds_15 : decode cX10_areKinds 15 = .ok (.aload_n 0, 1) := by decide +kernel
theorem dX10_areKinds_16 : decode cX10_areKinds 16 = .ok (.getfield 28, 3) := by decide +kernel
theorem dX10_areKinds_19 : decode cX10_areKinds 19 = .ok (.iload_n 2, 1) := by decide +kernel
theorem dX10_areKinds_20 : decode cX10_areKinds 20 = .ok (.iaload, 1) := by decide +kernel
theorem dX10_areKinds_21 : decode cX10_areKinds 21 = .ok (.if_icmp .ge 72, 3) := by decide +kernel
theorem dX10_areKinds_24 : decode cX10_areKinds 24 = .ok (.bipush 12, 2) := by decide +kernel
theorem dX10_areKinds_26 : decode cX10_areKinds 26 = .ok (.iload_n 2, 1) := by decide +kernel
theorem dX10_areKinds_27 : decode cX10_areKinds 27 = .ok (.imul, 1) := by decide +kernel
theorem dX10_areKinds_28 : decode cX10_areKinds 28 = .ok (.iconst 3, 1) := by decide +kernel
theorem dX10_areKinds_29 : decode cX10_areKinds 29 = .ok (.iload_n 3, 1) := by decide +kernel
theorem dX10_areKinds_30 : decode cX10_areKinds 30 = .ok (.imul, 1) := by decide +kernel
theorem dX10_areKinds_31 : decode cX10_areKinds 31 = .ok (.iadd, 1) := by decide +kernel
theorem dX10_areKinds_32 : decode cX10_areKinds 32 = .ok (.istore 4, 2) := by decide +kernel
theorem dX10_areKinds_34 : decode cX10_areKinds 34 = .ok (.iload_n 1, 1) := by decide +kernel
theorem dX10_areKinds_35 : decode cX10_areKinds 35 = .ok (.ifCond .eq 50, 3) := by decide +kernel
theorem dX10_areKinds_38 : decode cX10_areKinds 38 = .ok (.aload_n 0, 1) := by decide +kernel
theorem dX10_areKinds_39 : decode cX10_areKinds 39 = .ok (.aload_n 0, 1) := by decide +kernel
theorem dX10_areKinds_40 : decode cX10_areKinds 40 = .ok (.getfield 25, 3) := by decide +kernel
theorem dX10_areKinds_43 : decode cX10_areKinds 43 = .ok (.iload 4, 2) := by decide +kernel
theorem dX10_areKinds_45 : decode cX10_areKinds 45 = .ok (.iaload, 1) := by decide +kernel
theorem dX10_areKinds_46 : decode cX10_areKinds 46 = .ok (.invokevirtual 72, 3) := by decide +kernel
theorem dX10_areKinds_49 : decode cX10_areKinds 49 = .ok (.ifCond .eq 36, 3) := by decide +kernel
theorem dX10_areKinds_52 : decode cX10_areKinds 52 = .ok (.aload_n 0, 1) := by decide +kernel
theorem dX10_areKinds_53 : decode cX10_areKinds 53 = .ok (.getfield 25, 3) := by decide +kernel
theorem dX10_areKinds_56 : decode cX10_areKinds 56 = .ok (.iload 4, 2) := by decide +kernel
theorem dX10_areKinds_58 : decode cX10_areKinds 58 = .ok (.iconst 2, 1) := by decide +kernel
theorem dX10_areKinds_59 : decode cX10_areKinds 59 = .ok (.iadd, 1) := by decide +kernel
theorem dX10_areKinds_60 : decode cX10_areKinds 60 = .ok (.iaload, 1) := by decide +kernel
theorem dX10_areKinds_61 : decode cX10_areKinds 61 = .ok (.iconst (-1), 1) := by decide +kernel
theorem dX10_areKinds_62 : decode cX10_areKinds 62 = .ok (.if_icmp .eq 19, 3) := by decide +kernel
theorem dX10_areKinds_65 : decode cX10_areKinds 65 = .ok (.aload_n 0, 1) := by decide +kernel
theorem dX10_areKinds_66 : decode cX10_areKinds 66 = .ok (.aload_n 0, 1) := by decide +kernel
theorem dX10_areKinds_67 : decode cX10_areKinds 67 = .ok (.getfield 25, 3) := by decide +kernel
theorem dX10_areKinds_70 : decode cX10_areKinds 70 = .ok (.iload 4, 2) := by decide +kernel
theorem dX10_areKinds_72 : decode cX10_areKinds 72 = .ok (.iconst 2, 1) := by decide +kernel
theorem dX10_areKinds_73 : decode cX10_areKinds 73 = .ok (.iadd, 1) := by decide +kernel
theorem dX10_areKinds_74 : decode cX10_areKinds 74 = .ok (.iaload, 1) := by decide +kernel
theorem dX10_areKinds_75 : decode cX10_areKinds 75 = .ok (.invokevirtual 72, 3) := by decide +kernel
theorem dX10_areKinds_78 : decode cX10_areKinds 78 = .ok (.ifCond .eq 7, 3) := by decide +kernel
theorem dX10_areKinds_81 : decode cX10_areKinds 81 = .ok (.iconst 1, 1) := by decide +kernel
theorem dX10_areKinds_82 : decode cX10_areKinds 82 = .ok (.goto 4, 3) := by decide +kernel
theorem dX10_areKinds_85 : decode cX10_areKinds 85 = .ok (.iconst 0, 1) := by decide +kernel
theorem dX10_areKinds_86 : decode cX10_areKinds 86 = .ok (.istore_n 1, 1) := by decide +kernel
theorem dX10_areKinds_87 : decode cX10_areKinds 87 = .ok (.iinc 3 1, 3) := by decide +kernel
theorem dX10_areKinds_90 : decode cX10_areKinds 90 = .ok (.goto (-76), 3) := by decide +kernel
theorem dX10_areKinds_93 : decode cX10_areKinds 93 = .ok (.iinc 2 1, 3) := by decide +kernel
theorem dX10_areKinds_96 : decode cX10_areKinds 96 = .ok (.goto (-92), 3) := by decide +kernel
theorem dX10_areKinds_99 : decode cX10_areKinds 99 = .ok (.iload_n 1, 1) := by decide +kernel
theorem dX10_areKinds_100 : decode cX10_areKinds 100 = .ok (.ireturn, 1) := by decide +kernel
theorem dX10_load_0 : decode cX10_load 0 = .ok (.aload_n 0, 1) := by decide +kernel
theorem dX10_load_1 : decode cX10_load 1 = .ok (.invokevirtual 150, 3) := by decide +kernel
theorem dX10_load_4 : decode cX10_load 4 = .ok (.aload_n 0, 1) := by decide +kernel
theorem dX10_load_5 : decode cX10_load 5 = .ok (.getfield 144, 3) := by decide +kernel
theorem dX10_load_8 : decode cX10_load 8 = .ok (.if_icmp .ne 32, 3) := by decide +kernel
theorem dX10_load_11 : decode cX10_load 11 = .ok (.aload_n 0, 1) := by decide +kernel
theorem dX10_load_12 : decode cX10_load 12 = .ok (.getfield 135, 3) := by decide +kernel
theorem dX10_load_15 : decode cX10_load 15 = .ok (.iconst 3, 1) := by decide +kernel
theorem dX10_load_16 : decode cX10_load 16 = .ok (.if_icmp .eq 20, 3) := by decide +kernel
theorem dX10_load_19 : decode cX10_load 19 = .ok (.aload_n 0, 1) := by decide +kernel
theorem dX10_load_20 : decode cX10_load 20 = .ok (.getfield 135, 3) := by decide +kernel
theorem dX10_load_23 : decode cX10_load 23 = .ok (.iconst 5, 1) := by decide +kernel
theorem dX10_load_24 : decode cX10_load 24 = .ok (.if_icmp .eq 12, 3) := by decide +kernel
theorem dX10_load_27 : decode cX10_load 27 = .ok (.aload_n 0, 1) := by decide +kernel
theorem dX10_load_28 : decode cX10_load 28 = .ok (.getfield 135, 3) := by decide +kernel
theorem dX10_load_31 : decode cX10_load 31 = .ok (.bipush 6, 2) := by decide +kernel
theorem dX10_load_33 : decode cX10_load 33 = .ok (.if_icmp .ne 7, 3) := by decide +kernel
theorem dX10_load_36 : decode cX10_load 36 = .ok (.iconst 1, 1) := by decide +kernel
theorem dX10_load_37 : decode cX10_load 37 = .ok (.goto 4, 3) := by decide +kernel
theorem dX10_load_40 : decode cX10_load 40 = .ok (.iconst 0, 1) := by decide +kernel
theorem dX10_load_41 : decode cX10_load 41 = .ok (.istore_n 1, 1) := by decide +kernel
theorem dX10_load_42 : decode cX10_load 42 = .ok (.aload_n 0, 1) := by decide +kernel
theorem dX10_load_43 : decode cX10_load 43 = .ok (.iload_n 1, 1) := by decide +kernel
theorem dX10_load_44 : decode cX10_load 44 = .ok (.ifCond .ne 7, 3) := by decide +kernel
theorem dX10_load_47 : decode cX10_load 47 = .ok (.iconst 1, 1) := by decide +kernel
theorem dX10_load_48 : decode cX10_load 48 = .ok (.goto 15, 3) := by decide +kernel
theorem dX10_load_51 : decode cX10_load 51 = .ok (.aload_n 0, 1) := by decide +kernel
theorem dX10_load_52 : decode cX10_load 52 = .ok (.invokevirtual 153, 3) := by decide +kernel
theorem dX10_load_55 : decode cX10_load 55 = .ok (.ifCond .eq 7, 3) := by decide +kernel
theorem dX10_load_58 : decode cX10_load 58 = .ok (.iconst 0, 1) := by decide +kernel
theorem dX10_load_59 : decode cX10_load 59 = .ok (.goto 4, 3) := by decide +kernel
theorem dX10_load_62 : decode cX10_load 62 = .ok (.iconst 2, 1) := by decide +kernel
theorem dX10_load_63 : decode cX10_load 63 = .ok (.putfield 31, 3) := by decide +kernel
theorem dX10_load_66 : decode cX10_load 66 = .ok (.aload_n 0, 1) := by decide +kernel
theorem dX10_load_67 : decode cX10_load 67 = .ok (.getfield 31, 3) := by decide +kernel
theorem dX10_load_70 : decode cX10_load 70 = .ok (.ifCond .le 5, 3) := by decide +kernel
theorem dX10_load_73 : decode cX10_load 73 = .ok (.iconst 0, 1) := by decide +kernel
theorem dX10_load_74 : decode cX10_load 74 = .ok (.ireturn, 1) := by decide +kernel
theorem dX10_load_75 : decode cX10_load 75 = .ok (.aload_n 0, 1) := by decide +kernel
theorem dX10_load_76 : decode cX10_load 76 = .ok (.invokevirtual 50, 3) := by decide +kernel
theorem dX10_load_79 : decode cX10_load 79 = .ok (.iconst 0, 1) := by decide +kernel
theorem dX10_load_80 : decode cX10_load 80 = .ok (.istore_n 2, 1) := by decide +kernel
theorem dX10_load_81 : decode cX10_load 81 = .ok (.iload_n 2, 1) := by decide +kernel
theorem dX10_load_82 : decode cX10_load 82 = .ok (.aload_n 0, 1) := by decide +kernel
theorem dX10_load_83 : decode cX10_load 83 = .ok (.getfield 132, 3) := by decide +kernel
theorem dX10_load_86 : decode cX10_load 86 = .ok (.if_icmp .gt 71, 3) := by decide +kernel
theorem dX10_load_89 : decode cX10_load 89 = .ok (.aload_n 0, 1) := by decide +kernel
theorem dX10_load_90 : decode cX10_load 90 = .ok (.getfield 7, 3) := by decide +kernel
theorem dX10_load_93 : decode cX10_load 93 = .ok (.sipush 314, 3) := by decide +kernel
theorem dX10_load_96 : decode cX10_load 96 = .ok (.iload_n 2, 1) := by decide +kernel
theorem dX10_load_97 : decode cX10_load 97 = .ok (.iadd, 1) := by decide +kernel
theorem dX10_load_98 : decode cX10_load 98 = .ok (.aload_n 0, 1) := by decide +kernel
theorem dX10_load_99 : decode cX10_load 99 = .ok (.getfield 28, 3) := by decide +kernel
theorem dX10_load_102 : decode cX10_load 102 = .ok (.iload_n 2, 1) := by decide +kernel
theorem dX10_load_103 : decode cX10_load 103 = .ok (.iaload, 1) := by decide +kernel
theorem dX10_load_104 : decode cX10_load 104 = .ok (.iastore, 1) := by decide +kernel
theorem dX10_load_105 : decode cX10_load 105 = .ok (.iconst 0, 1) := by decide +kernel
theorem dX10_load_106 : decode cX10_load 106 = .ok (.istore_n 3, 1) := by decide +kernel
theorem dX10_load_107 : decode cX10_load 107 = .ok (.iload_n 3, 1) := by decide +kernel
theorem dX10_load_108 : decode cX10_load 108 = .ok (.iconst 3, 1) := by decide +kernel
theorem dX10_load_109 : decode cX10_load 109 = .ok (.aload_n 0, 1) := by decide +kernel
theorem dX10_load_110 : decode cX10_load 110 = .ok (.getfield 28, 3) := by decide +kernel
theorem dX10_load_113 : decode cX10_load 113 = .ok (.iload_n 2, 1) := by decide +kernel
theorem dX10_load_114 : decode cX10_load 114 = .ok (.iaload, 1) := by decide +kernel
theorem dX10_load_115 : decode cX10_load 115 = .ok (.imul, 1) := by decide +kernel
theorem dX10_load_116 : decode cX10_load 116 = .ok (.if_icmp .ge 35, 3) := by decide +kernel
theorem dX10_load_119 : decode cX10_load 119 = .ok (.aload_n 0, 1) := by decide +kernel
theorem dX10_load_120 : decode cX10_load 120 = .ok (.getfield 7, 3) := by decide +kernel
theorem dX10_load_123 : decode cX10_load 123 = .ok (.sipush 194, 3) := by decide +kernel
theorem dX10_load_126 : decode cX10_load 126 = .ok (.bipush 12, 2) := by decide +kernel
theorem dX10_load_128 : decode cX10_load 128 = .ok (.iload_n 2, 1) := by decide +kernel
theorem dX10_load_129 : decode cX10_load 129 = .ok (.imul, 1) := by decide +kernel
theorem dX10_load_130 : decode cX10_load 130 = .ok (.iadd, 1) := by decide +kernel
theorem dX10_load_131 : decode cX10_load 131 = .ok (.iload_n 3, 1) := by decide +kernel
theorem dX10_load_132 : decode cX10_load 132 = .ok (.iadd, 1) := by decide +kernel
theorem dX10_load_133 : decode cX10_load 133 = .ok (.aload_n 0, 1) := by decide +kernel
theorem dX10_load_134 : decode cX10_load 134 = .ok (.getfield 25, 3) := by decide +kernel
theorem dX10_load_137 : decode cX10_load 137 = .ok (.bipush 12, 2) := by decide +kernel
theorem dX10_load_139 : decode cX10_load 139 = .ok (.iload_n 2, 1) := by decide +kernel
theorem dX10_load_140 : decode cX10_load 140 = .ok (.imul, 1) := by decide +kernel
theorem dX10_load_141 : decode cX10_load 141 = .ok (.iload_n 3, 1) := by decide +kernel
theorem dX10_load_142 : decode cX10_load 142 = .ok (.iadd, 1) := by decide +kernel
theorem dX10_load_143 : decode cX10_load 143 = .ok (.iaload, 1) := by decide +kernel
theorem dX10_load_144 : decode cX10_load 144 = .ok (.iastore, 1) := by decide +kernel
theorem dX10_load_145 : decode cX10_load 145 = .ok (.iinc 3 1, 3) := by decide +kernel
theorem dX10_load_148 : decode cX10_load 148 = .ok (.goto (-41), 3) := by decide +kernel
theorem dX10_load_151 : decode cX10_load 151 = .ok (.iinc 2 1, 3) := by decide +kernel
theorem dX10_load_154 : decode cX10_load 154 = .ok (.goto (-73), 3) := by decide +kernel
theorem dX10_load_157 : decode cX10_load 157 = .ok (.aload_n 0, 1) := by decide +kernel
theorem dX10_load_158 : decode cX10_load 158 = .ok (.getfield 7, 3) := by decide +kernel
theorem dX10_load_161 : decode cX10_load 161 = .ok (.sipush 408, 3) := by decide +kernel
theorem dX10_load_164 : decode cX10_load 164 = .ok (.aload_n 0, 1) := by decide +kernel
theorem dX10_load_165 : decode cX10_load 165 = .ok (.getfield 132, 3) := by decide +kernel
theorem dX10_load_168 : decode cX10_load 168 = .ok (.iconst 1, 1) := by decide +kernel
theorem dX10_load_169 : decode cX10_load 169 = .ok (.iadd, 1) := by decide +kernel
theorem dX10_load_170 : decode cX10_load 170 = .ok (.iastore, 1) := by decide +kernel
theorem dX10_load_171 : decode cX10_load 171 = .ok (.aload_n 0, 1) := by decide +kernel
theorem dX10_load_172 : decode cX10_load 172 = .ok (.iconst 0, 1) := by decide +kernel
theorem dX10_load_173 : decode cX10_load 173 = .ok (.putfield 144, 3) := by decide +kernel
theorem dX10_load_176 : decode cX10_load 176 = .ok (.aload_n 0, 1) := by decide +kernel
theorem dX10_load_177 : decode cX10_load 177 = .ok (.getfield 132, 3) := by decide +kernel
theorem dX10_load_180 : decode cX10_load 180 = .ok (.iconst 1, 1) := by decide +kernel
theorem dX10_load_181 : decode cX10_load 181 = .ok (.iadd, 1) := by decide +kernel
theorem dX10_load_182 : decode cX10_load 182 = .ok (.ireturn, 1) := by decide +kernel
theorem dX10_undo_0 : decode cX10_undo 0 = .ok (.aload_n 0, 1) := by decide +kernel
theorem dX10_undo_1 : decode cX10_undo 1 = .ok (.aload_n 0, 1) := by decide +kernel
theorem dX10_undo_2 : decode cX10_undo 2 = .ok (.getfield 39, 3) := by decide +kernel
theorem dX10_undo_5 : decode cX10_undo 5 = .ok (.ifCond .ne 7, 3) := by decide +kernel
theorem dX10_undo_8 : decode cX10_undo 8 = .ok (.iconst 1, 1) := by decide +kernel
theorem dX10_undo_9 : decode cX10_undo 9 = .ok (.goto 4, 3) := by decide +kernel
theorem dX10_undo_12 : decode cX10_undo 12 = .ok (.iconst 0, 1) := by decide +kernel
theorem dX10_undo_13 : decode cX10_undo 13 = .ok (.putfield 31, 3) := by decide +kernel
theorem dX10_undo_16 : decode cX10_undo 16 = .ok (.aload_n 0, 1) := by decide +kernel
theorem dX10_undo_17 : decode cX10_undo 17 = .ok (.getfield 31, 3) := by decide +kernel
theorem dX10_undo_20 : decode cX10_undo 20 = .ok (.ifCond .le 5, 3) := by decide +kernel
theorem dX10_undo_23 : decode cX10_undo 23 = .ok (.iconst 0, 1) := by decide +kernel
theorem dX10_undo_24 : decode cX10_undo 24 = .ok (.ireturn, 1) := by decide +kernel
theorem dX10_undo_25 : decode cX10_undo 25 = .ok (.aload_n 0, 1) := by decide +kernel
theorem dX10_undo_26 : decode cX10_undo 26 = .ok (.dup, 1) := by decide +kernel
theorem dX10_undo_27 : decode cX10_undo 27 = .ok (.getfield 39, 3) := by decide +kernel
theorem dX10_undo_30 : decode cX10_undo 30 = .ok (.iconst 1, 1) := by decide +kernel
theorem dX10_undo_31 : decode cX10_undo 31 = .ok (.isub, 1) := by decide +kernel
theorem dX10_undo_32 : decode cX10_undo 32 = .ok (.putfield 39, 3) := by decide +kernel
theorem dX10_undo_35 : decode cX10_undo 35 = .ok (.aload_n 0, 1) := by decide +kernel
theorem dX10_undo_36 : decode cX10_undo 36 = .ok (.getfield 16, 3) := by decide +kernel
theorem dX10_undo_39 : decode cX10_undo 39 = .ok (.sipush 413, 3) := by decide +kernel
theorem dX10_undo_42 : decode cX10_undo 42 = .ok (.aload_n 0, 1) := by decide +kernel
theorem dX10_undo_43 : decode cX10_undo 43 = .ok (.getfield 39, 3) := by decide +kernel
theorem dX10_undo_46 : decode cX10_undo 46 = .ok (.imul, 1) := by decide +kernel
theorem dX10_undo_47 : decode cX10_undo 47 = .ok (.aload_n 0, 1) := by decide +kernel
theorem dX10_undo_48 : decode cX10_undo 48 = .ok (.getfield 7, 3) := by decide +kernel
theorem dX10_undo_51 : decode cX10_undo 51 = .ok (.iconst 0, 1) := by decide +kernel
theorem dX10_undo_52 : decode cX10_undo 52 = .ok (.invokestatic 42, 3) := by decide +kernel
theorem dX10_undo_55 : decode cX10_undo 55 = .ok (.aload_n 0, 1) := by decide +kernel
theorem dX10_undo_56 : decode cX10_undo 56 = .ok (.getfield 39, 3) := by decide +kernel
theorem dX10_undo_59 : decode cX10_undo 59 = .ok (.ireturn, 1) := by decide +kernel
theorem dX10_placeOf_0 : decode cX10_placeOf 0 = .ok (.iconst 0, 1) := by decide +kernel
theorem dX10_placeOf_1 : decode cX10_placeOf 1 = .ok (.istore_n 2, 1) := by decide +kernel
theorem dX10_placeOf_2 : decode cX10_placeOf 2 = .ok (.aload_n 0, 1) := by decide +kernel
theorem dX10_placeOf_3 : decode cX10_placeOf 3 = .ok (.iload_n 1, 1) := by decide +kernel
theorem dX10_placeOf_4 : decode cX10_placeOf 4 = .ok (.invokevirtual 109, 3) := by decide +kernel
theorem dX10_placeOf_7 : decode cX10_placeOf 7 = .ok (.istore_n 3, 1) := by decide +kernel
theorem dX10_placeOf_8 : decode cX10_placeOf 8 = .ok (.iconst 0, 1) := by decide +kernel
theorem dX10_placeOf_9 : decode cX10_placeOf 9 = .ok (.istore 4, 2) := by decide +kernel
theorem dX10_placeOf_11 : decode cX10_placeOf 11 = .ok (.iload 4, 2) := by decide +kernel
theorem dX10_placeOf_13 : decode cX10_placeOf 13 = .ok (.aload_n 0, 1) := by decide +kernel
theorem dX10_placeOf_14 : decode cX10_placeOf 14 = .ok (.getfield 7, 3) := by decide +kernel
theorem dX10_placeOf_17 : decode cX10_placeOf 17 = .ok (.sipush 406, 3) := by decide +kernel
theorem dX10_placeOf_20 : decode cX10_placeOf 20 = .ok (.iaload, 1) := by decide +kernel
theorem dX10_placeOf_21 : decode cX10_placeOf 21 = .ok (.if_icmp .ge 59, 3) := by decide +kernel
theorem dX10_placeOf_24 : decode cX10_placeOf 24 = .ok (.aload_n 0, 1) := by decide +kernel
theorem dX10_placeOf_25 : decode cX10_placeOf 25 = .ok (.iload 4, 2) := by decide +kernel
theorem dX10_placeOf_27 : decode cX10_placeOf 27 = .ok (.iconst 0, 1) := by decide +kernel
theorem dX10_placeOf_28 : decode cX10_placeOf 28 = .ok (.invokevirtual 53, 3) := by decide +kernel
theorem dX10_placeOf_31 : decode cX10_placeOf 31 = .ok (.aload_n 0, 1) := by decide +kernel
theorem dX10_placeOf_32 : decode cX10_placeOf 32 = .ok (.iload_n 1, 1) := by decide +kernel
theorem dX10_placeOf_33 : decode cX10_placeOf 33 = .ok (.iconst 0, 1) := by decide +kernel
theorem dX10_placeOf_34 : decode cX10_placeOf 34 = .ok (.invokevirtual 53, 3) := by decide +kernel
theorem dX10_placeOf_37 : decode cX10_placeOf 37 = .ok (.if_icmp .ne 37, 3) := by decide +kernel
theorem dX10_placeOf_40 : decode cX10_placeOf 40 = .ok (.aload_n 0, 1) := by decide +kernel
theorem dX10_placeOf_41 : decode cX10_placeOf 41 = .ok (.iload 4, 2) := by decide +kernel
theorem dX10_placeOf_43 : decode cX10_placeOf 43 = .ok (.invokevirtual 109, 3) := by decide +kernel
theorem dX10_placeOf_46 : decode cX10_placeOf 46 = .ok (.istore 5, 2) := by decide +kernel
theorem dX10_placeOf_48 : decode cX10_placeOf 48 = .ok (.iload_n 2, 1) := by decide +kernel
theorem dX10_placeOf_49 : decode cX10_placeOf 49 = .ok (.iload 5, 2) := by decide +kernel
theorem dX10_placeOf_51 : decode cX10_placeOf 51 = .ok (.iload_n 3, 1) := by decide +kernel
theorem dX10_placeOf_52 : decode cX10_placeOf 52 = .ok (.if_icmp .lt 15, 3) := by decide +kernel
theorem dX10_placeOf_55 : decode cX10_placeOf 55 = .ok (.iload 5, 2) := by decide +kernel
theorem dX10_placeOf_57 : decode cX10_placeOf 57 = .ok (.iload_n 3, 1) := by decide +kernel
theorem dX10_placeOf_58 : decode cX10_placeOf 58 = .ok (.if_icmp .ne 13, 3) := by decide +kernel
theorem dX10_placeOf_61 : decode cX10_placeOf 61 = .ok (.iload 4, 2) := by decide +kernel
theorem dX10_placeOf_63 : decode cX10_placeOf 63 = .ok (.iload_n 1, 1) := by decide +kernel
theorem dX10_placeOf_64 : decode cX10_placeOf 64 = .ok (.if_icmp .ge 7, 3) := by decide +kernel
theorem dX10_placeOf_67 : decode cX10_placeOf 67 = .ok (.iconst 1, 1) := by decide +kernel
theorem dX10_placeOf_68 : decode cX10_placeOf 68 = .ok (.goto 4, 3) := by decide +kernel
theorem dX10_placeOf_71 : decode cX10_placeOf 71 = .ok (.iconst 0, 1) := by decide +kernel
theorem dX10_placeOf_72 : decode cX10_placeOf 72 = .ok (.iadd, 1) := by decide +kernel
theorem dX10_placeOf_73 : decode cX10_placeOf 73 = .ok (.istore_n 2, 1) := by decide +kernel
theorem dX10_placeOf_74 : decode cX10_placeOf 74 = .ok (.iinc 4 1, 3) := by decide +kernel
theorem dX10_placeOf_77 : decode cX10_placeOf 77 = .ok (.goto (-66), 3) := by decide +kernel
theorem dX10_placeOf_80 : decode cX10_placeOf 80 = .ok (.iload_n 2, 1) := by decide +kernel
theorem dX10_placeOf_81 : decode cX10_placeOf 81 = .ok (.ireturn, 1) := by decide +kernel
theorem dX10_lotNow_0 : decode cX10_lotNow 0 = .ok (.iload_n 2, 1) := by decide +kernel
theorem dX10_lotNow_1 : decode cX10_lotNow 1 = .ok (.iconst 4, 1) := by decide +kernel
theorem dX10_lotNow_2 : decode cX10_lotNow 2 = .ok (.if_icmp .ge 12, 3) := by decide +kernel
theorem dX10_lotNow_5 : decode cX10_lotNow 5 = .ok (.aload_n 0, 1) := by decide +kernel
theorem dX10_lotNow_6 : decode cX10_lotNow 6 = .ok (.iload_n 1, 1) := by decide +kernel
theorem dX10_lotNow_7 : decode cX10_lotNow 7 = .ok (.iload_n 2, 1) := by decide +kernel
theorem dX10_lotNow_8 : decode cX10_lotNow 8 = .ok (.invokevirtual 53, 3) := by decide +kernel
theorem dX10_lotNow_11 : decode cX10_lotNow 11 = .ok (.goto 21, 3) := by decide +kernel
theorem dX10_lotNow_14 : decode cX10_lotNow 14 = .ok (.iload_n 2, 1) := by decide +kernel
theorem dX10_lotNow_15 : decode cX10_lotNow 15 = .ok (.iconst 4, 1) := by decide +kernel
theorem dX10_lotNow_16 : decode cX10_lotNow 16 = .ok (.if_icmp .ne 11, 3) := by decide +kernel
theorem dX10_lotNow_19 : decode cX10_lotNow 19 = .ok (.aload_n 0, 1) := by decide +kernel
theorem dX10_lotNow_20 : decode cX10_lotNow 20 = .ok (.iload_n 1, 1) := by decide +kernel
theorem dX10_lotNow_21 : decode cX10_lotNow 21 = .ok (.invokevirtual 109, 3) := by decide +kernel
theorem dX10_lotNow_24 : decode cX10_lotNow 24 = .ok (.goto 8, 3) := by decide +kernel
theorem dX10_lotNow_27 : decode cX10_lotNow 27 = .ok (.aload_n 0, 1) := by decide +kernel
theorem dX10_lotNow_28 : decode cX10_lotNow 28 = .ok (.iload_n 1, 1) := by decide +kernel
theorem dX10_lotNow_29 : decode cX10_lotNow 29 = .ok (.invokevirtual 156, 3) := by decide +kernel
theorem dX10_lotNow_32 : decode cX10_lotNow 32 = .ok (.ireturn, 1) := by decide +kernel
theorem dX10_lot_0 : decode cX10_lot 0 = .ok (.aload_n 0, 1) := by decide +kernel
theorem dX10_lot_1 : decode cX10_lot 1 = .ok (.aload_n 0, 1) := by decide +kernel
theorem dX10_lot_2 : decode cX10_lot 2 = .ok (.iload_n 1, 1) := by decide +kernel
theorem dX10_lot_3 : decode cX10_lot 3 = .ok (.invokevirtual 96, 3) := by decide +kernel
theorem dX10_lot_6 : decode cX10_lot 6 = .ok (.ifCond .ne 7, 3) := by decide +kernel
theorem dX10_lot_9 : decode cX10_lot 9 = .ok (.iconst 1, 1) := by decide +kernel
theorem dX10_lot_10 : decode cX10_lot 10 = .ok (.goto 17, 3) := by decide +kernel
theorem dX10_lot_13 : decode cX10_lot 13 = .ok (.iload_n 2, 1) := by decide +kernel
theorem dX10_lot_14 : decode cX10_lot 14 = .ok (.iconst 0, 1) := by decide +kernel
theorem dX10_lot_15 : decode cX10_lot 15 = .ok (.iconst 5, 1) := by decide +kernel
theorem dX10_lot_16 : decode cX10_lot 16 = .ok (.invokestatic 35, 3) := by decide +kernel
theorem dX10_lot_19 : decode cX10_lot 19 = .ok (.ifCond .eq 7, 3) := by decide +kernel
theorem dX10_lot_22 : decode cX10_lot 22 = .ok (.iconst 0, 1) := by decide +kernel
theorem dX10_lot_23 : decode cX10_lot 23 = .ok (.goto 4, 3) := by decide +kernel
theorem dX10_lot_26 : decode cX10_lot 26 = .ok (.iconst 2, 1) := by decide +kernel
theorem dX10_lot_27 : decode cX10_lot 27 = .ok (.putfield 31, 3) := by decide +kernel
theorem dX10_lot_30 : decode cX10_lot 30 = .ok (.aload_n 0, 1) := by decide +kernel
theorem dX10_lot_31 : decode cX10_lot 31 = .ok (.getfield 31, 3) := by decide +kernel
theorem dX10_lot_34 : decode cX10_lot 34 = .ok (.ifCond .le 7, 3) := by decide +kernel
theorem dX10_lot_37 : decode cX10_lot 37 = .ok (.iconst 0, 1) := by decide +kernel
theorem dX10_lot_38 : decode cX10_lot 38 = .ok (.goto 9, 3) := by decide +kernel
theorem dX10_lot_41 : decode cX10_lot 41 = .ok (.aload_n 0, 1) := by decide +kernel
theorem dX10_lot_42 : decode cX10_lot 42 = .ok (.iload_n 1, 1) := by decide +kernel
theorem dX10_lot_43 : decode cX10_lot 43 = .ok (.iload_n 2, 1) := by decide +kernel
theorem dX10_lot_44 : decode cX10_lot 44 = .ok (.invokevirtual 159, 3) := by decide +kernel
theorem dX10_lot_47 : decode cX10_lot 47 = .ok (.ireturn, 1) := by decide +kernel
theorem dX10_lotsWith_0 : decode cX10_lotsWith 0 = .ok (.iconst 0, 1) := by decide +kernel
theorem dX10_lotsWith_1 : decode cX10_lotsWith 1 = .ok (.istore_n 3, 1) := by decide +kernel
theorem dX10_lotsWith_2 : decode cX10_lotsWith 2 = .ok (.iconst 0, 1) := by decide +kernel
theorem dX10_lotsWith_3 : decode cX10_lotsWith 3 = .ok (.istore 4, 2) := by decide +kernel
theorem dX10_lotsWith_5 : decode cX10_lotsWith 5 = .ok (.iload 4, 2) := by decide +kernel
theorem dX10_lotsWith_7 : decode cX10_lotsWith 7 = .ok (.aload_n 0, 1) := by decide +kernel
theorem dX10_lotsWith_8 : decode cX10_lotsWith 8 = .ok (.getfield 7, 3) := by decide +kernel
theorem dX10_lotsWith_11 : decode cX10_lotsWith 11 = .ok (.sipush 406, 3) := by decide +kernel
theorem dX10_lotsWith_14 : decode cX10_lotsWith 14 = .ok (.iaload, 1) := by decide +kernel
theorem dX10_lotsWith_15 : decode cX10_lotsWith 15 = .ok (.if_icmp .ge 28, 3) := by decide +kernel
theorem dX10_lotsWith_18 : decode cX10_lotsWith 18 = .ok (.iload_n 3, 1) := by decide +kernel
theorem dX10_lotsWith_19 : decode cX10_lotsWith 19 = .ok (.aload_n 0, 1) := by decide +kernel
theorem dX10_lotsWith_20 : decode cX10_lotsWith 20 = .ok (.iload 4, 2) := by decide +kernel
theorem dX10_lotsWith_22 : decode cX10_lotsWith 22 = .ok (.iload_n 1, 1) := by decide +kernel
theorem dX10_lotsWith_23 : decode cX10_lotsWith 23 = .ok (.invokevirtual 53, 3) := by decide +kernel
theorem dX10_lotsWith_26 : decode cX10_lotsWith 26 = .ok (.iload_n 2, 1) := by decide +kernel
theorem dX10_lotsWith_27 : decode cX10_lotsWith 27 = .ok (.if_icmp .ne 7, 3) := by decide +kernel
theorem dX10_lotsWith_30 : decode cX10_lotsWith 30 = .ok (.iconst 1, 1) := by decide +kernel
theorem dX10_lotsWith_31 : decode cX10_lotsWith 31 = .ok (.goto 4, 3) := by decide +kernel
theorem dX10_lotsWith_34 : decode cX10_lotsWith 34 = .ok (.iconst 0, 1) := by decide +kernel
theorem dX10_lotsWith_35 : decode cX10_lotsWith 35 = .ok (.iadd, 1) := by decide +kernel
theorem dX10_lotsWith_36 : decode cX10_lotsWith 36 = .ok (.istore_n 3, 1) := by decide +kernel
theorem dX10_lotsWith_37 : decode cX10_lotsWith 37 = .ok (.iinc 4 1, 3) := by decide +kernel
theorem dX10_lotsWith_40 : decode cX10_lotsWith 40 = .ok (.goto (-35), 3) := by decide +kernel
theorem dX10_lotsWith_43 : decode cX10_lotsWith 43 = .ok (.iload_n 3, 1) := by decide +kernel
theorem dX10_lotsWith_44 : decode cX10_lotsWith 44 = .ok (.ireturn, 1) := by decide +kernel
theorem dX10_storeNow_0 : decode cX10_storeNow 0 = .ok (.iload_n 2, 1) := by decide +kernel
theorem dX10_storeNow_1 : decode cX10_storeNow 1 = .ok (.tableswitch 50 0 2 #[27, 37, 43], 27) := by decide +kernel
theorem dX10_storeNow_28 : decode cX10_storeNow 28 = .ok (.aload_n 0, 1) := by decide +kernel
theorem dX10_storeNow_29 : decode cX10_storeNow 29 = .ok (.getfield 7, 3) := by decide +kernel
theorem dX10_storeNow_32 : decode cX10_storeNow 32 = .ok (.bipush 64, 2) := by decide +kernel
theorem dX10_storeNow_34 : decode cX10_storeNow 34 = .ok (.iload_n 1, 1) := by decide +kernel
theorem dX10_storeNow_35 : decode cX10_storeNow 35 = .ok (.iadd, 1) := by decide +kernel
theorem dX10_storeNow_36 : decode cX10_storeNow 36 = .ok (.iaload, 1) := by decide +kernel
theorem dX10_storeNow_37 : decode cX10_storeNow 37 = .ok (.ireturn, 1) := by decide +kernel
theorem dX10_storeNow_38 : decode cX10_storeNow 38 = .ok (.aload_n 0, 1) := by decide +kernel
theorem dX10_storeNow_39 : decode cX10_storeNow 39 = .ok (.iload_n 1, 1) := by decide +kernel
theorem dX10_storeNow_40 : decode cX10_storeNow 40 = .ok (.invokevirtual 60, 3) := by decide +kernel
theorem dX10_storeNow_43 : decode cX10_storeNow 43 = .ok (.ireturn, 1) := by decide +kernel
theorem dX10_storeNow_44 : decode cX10_storeNow 44 = .ok (.aload_n 0, 1) := by decide +kernel
theorem dX10_storeNow_45 : decode cX10_storeNow 45 = .ok (.iconst 1, 1) := by decide +kernel
theorem dX10_storeNow_46 : decode cX10_storeNow 46 = .ok (.iload_n 1, 1) := by decide +kernel
theorem dX10_storeNow_47 : decode cX10_storeNow 47 = .ok (.invokevirtual 162, 3) := by decide +kernel
theorem dX10_storeNow_50 : decode cX10_storeNow 50 = .ok (.ireturn, 1) := by decide +kernel
theorem dX10_storeNow_51 : decode cX10_storeNow 51 = .ok (.aload_n 0, 1) := by decide +kernel
theorem dX10_storeNow_52 : decode cX10_storeNow 52 = .ok (.getfield 7, 3) := by decide +kernel
theorem dX10_storeNow_55 : decode cX10_storeNow 55 = .ok (.bipush 67, 2) := by decide +kernel
theorem dX10_storeNow_57 : decode cX10_storeNow 57 = .ok (.iload_n 1, 1) := by decide +kernel
theorem dX10_storeNow_58 : decode cX10_storeNow 58 = .ok (.iadd, 1) := by decide +kernel
theorem dX10_storeNow_59 : decode cX10_storeNow 59 = .ok (.iaload, 1) := by decide +kernel
theorem dX10_storeNow_60 : decode cX10_storeNow 60 = .ok (.ireturn, 1) := by decide +kernel
theorem dX10_store_0 : decode cX10_store 0 = .ok (.aload_n 0, 1) := by decide +kernel
theorem dX10_store_1 : decode cX10_store 1 = .ok (.iload_n 1, 1) := by decide +kernel
theorem dX10_store_2 : decode cX10_store 2 = .ok (.invokestatic 57, 3) := by decide +kernel
theorem dX10_store_5 : decode cX10_store 5 = .ok (.ifCond .ne 7, 3) := by decide +kernel
theorem dX10_store_8 : decode cX10_store 8 = .ok (.iconst 1, 1) := by decide +kernel
theorem dX10_store_9 : decode cX10_store 9 = .ok (.goto 17, 3) := by decide +kernel
theorem dX10_store_12 : decode cX10_store 12 = .ok (.iload_n 2, 1) := by decide +kernel
theorem dX10_store_13 : decode cX10_store 13 = .ok (.iconst 0, 1) := by decide +kernel
theorem dX10_store_14 : decode cX10_store 14 = .ok (.iconst 3, 1) := by decide +kernel
theorem dX10_store_15 : decode cX10_store 15 = .ok (.invokestatic 35, 3) := by decide +kernel
theorem dX10_store_18 : decode cX10_store 18 = .ok (.ifCond .eq 7, 3) := by decide +kernel
theorem dX10_store_21 : decode cX10_store 21 = .ok (.iconst 0, 1) := by decide +kernel
theorem dX10_store_22 : decode cX10_store 22 = .ok (.goto 4, 3) := by decide +kernel
theorem dX10_store_25 : decode cX10_store 25 = .ok (.iconst 2, 1) := by decide +kernel
theorem dX10_store_26 : decode cX10_store 26 = .ok (.putfield 31, 3) := by decide +kernel
theorem dX10_store_29 : decode cX10_store 29 = .ok (.aload_n 0, 1) := by decide +kernel
theorem dX10_store_30 : decode cX10_store 30 = .ok (.getfield 31, 3) := by decide +kernel
theorem dX10_store_33 : decode cX10_store 33 = .ok (.ifCond .le 7, 3) := by decide +kernel
theorem dX10_store_36 : decode cX10_store 36 = .ok (.iconst 0, 1) := by decide +kernel
theorem dX10_store_37 : decode cX10_store 37 = .ok (.goto 9, 3) := by decide +kernel
theorem dX10_store_40 : decode cX10_store 40 = .ok (.aload_n 0, 1) := by decide +kernel
theorem dX10_store_41 : decode cX10_store 41 = .ok (.iload_n 1, 1) := by decide +kernel
theorem dX10_store_42 : decode cX10_store 42 = .ok (.iload_n 2, 1) := by decide +kernel
theorem dX10_store_43 : decode cX10_store 43 = .ok (.invokevirtual 165, 3) := by decide +kernel
theorem dX10_store_46 : decode cX10_store 46 = .ok (.ireturn, 1) := by decide +kernel
theorem dX10_inLots_0 : decode cX10_inLots 0 = .ok (.iconst 0, 1) := by decide +kernel
theorem dX10_inLots_1 : decode cX10_inLots 1 = .ok (.istore_n 2, 1) := by decide +kernel
theorem dX10_inLots_2 : decode cX10_inLots 2 = .ok (.iconst 0, 1) := by decide +kernel
theorem dX10_inLots_3 : decode cX10_inLots 3 = .ok (.istore_n 3, 1) := by decide +kernel
theorem dX10_inLots_4 : decode cX10_inLots 4 = .ok (.iload_n 3, 1) := by decide +kernel
theorem dX10_inLots_5 : decode cX10_inLots 5 = .ok (.aload_n 0, 1) := by decide +kernel
theorem dX10_inLots_6 : decode cX10_inLots 6 = .ok (.getfield 7, 3) := by decide +kernel
theorem dX10_inLots_9 : decode cX10_inLots 9 = .ok (.sipush 406, 3) := by decide +kernel
theorem dX10_inLots_12 : decode cX10_inLots 12 = .ok (.iaload, 1) := by decide +kernel
theorem dX10_inLots_13 : decode cX10_inLots 13 = .ok (.if_icmp .ge 32, 3) := by decide +kernel
theorem dX10_inLots_16 : decode cX10_inLots 16 = .ok (.iload_n 2, 1) := by decide +kernel
theorem dX10_inLots_17 : decode cX10_inLots 17 = .ok (.aload_n 0, 1) := by decide +kernel
theorem dX10_inLots_18 : decode cX10_inLots 18 = .ok (.iload_n 3, 1) := by decide +kernel
theorem dX10_inLots_19 : decode cX10_inLots 19 = .ok (.iconst 0, 1) := by decide +kernel
theorem dX10_inLots_20 : decode cX10_inLots 20 = .ok (.invokevirtual 53, 3) := by decide +kernel
theorem dX10_inLots_23 : decode cX10_inLots 23 = .ok (.iload_n 1, 1) := by decide +kernel
theorem dX10_inLots_24 : decode cX10_inLots 24 = .ok (.if_icmp .ne 12, 3) := by decide +kernel
theorem dX10_inLots_27 : decode cX10_inLots 27 = .ok (.aload_n 0, 1) := by decide +kernel
theorem dX10_inLots_28 : decode cX10_inLots 28 = .ok (.iload_n 3, 1) := by decide +kernel
theorem dX10_inLots_29 : decode cX10_inLots 29 = .ok (.iconst 2, 1) := by decide +kernel
theorem dX10_inLots_30 : decode cX10_inLots 30 = .ok (.invokevirtual 53, 3) := by decide +kernel
theorem dX10_inLots_33 : decode cX10_inLots 33 = .ok (.goto 4, 3) := by decide +kernel
theorem dX10_inLots_36 : decode cX10_inLots 36 = .ok (.iconst 0, 1) := by decide +kernel
theorem dX10_inLots_37 : decode cX10_inLots 37 = .ok (.iadd, 1) := by decide +kernel
theorem dX10_inLots_38 : decode cX10_inLots 38 = .ok (.istore_n 2, 1) := by decide +kernel
theorem dX10_inLots_39 : decode cX10_inLots 39 = .ok (.iinc 3 1, 3) := by decide +kernel
theorem dX10_inLots_42 : decode cX10_inLots 42 = .ok (.goto (-38), 3) := by decide +kernel
theorem dX10_inLots_45 : decode cX10_inLots 45 = .ok (.iload_n 2, 1) := by decide +kernel
theorem dX10_inLots_46 : decode cX10_inLots 46 = .ok (.ireturn, 1) := by decide +kernel
theorem dX10_kindNow_0 : decode cX10_kindNow 0 = .ok (.iload_n 2, 1) := by decide +kernel
theorem dX10_kindNow_1 : decode cX10_kindNow 1 = .ok (.tableswitch 93 0 9 #[55, 55, 55, 93, 93, 93, 93, 66, 72, 86], 55) := by decide +kernel
theorem dX10_kindNow_56 : decode cX10_kindNow 56 = .ok (.aload_n 0, 1) := by decide +kernel
theorem dX10_kindNow_57 : decode cX10_kindNow 57 = .ok (.getfield 7, 3) := by decide +kernel
theorem dX10_kindNow_60 : decode cX10_kindNow 60 = .ok (.iconst 3, 1) := by decide +kernel
theorem dX10_kindNow_61 : decode cX10_kindNow 61 = .ok (.iload_n 1, 1) := by decide +kernel
theorem dX10_kindNow_62 : decode cX10_kindNow 62 = .ok (.imul, 1) := by decide +kernel
theorem dX10_kindNow_63 : decode cX10_kindNow 63 = .ok (.iload_n 2, 1) := by decide +kernel
theorem dX10_kindNow_64 : decode cX10_kindNow 64 = .ok (.iadd, 1) := by decide +kernel
theorem dX10_kindNow_65 : decode cX10_kindNow 65 = .ok (.iaload, 1) := by decide +kernel
theorem dX10_kindNow_66 : decode cX10_kindNow 66 = .ok (.ireturn, 1) := by decide +kernel
theorem dX10_kindNow_67 : decode cX10_kindNow 67 = .ok (.aload_n 0, 1) := by decide +kernel
theorem dX10_kindNow_68 : decode cX10_kindNow 68 = .ok (.iload_n 1, 1) := by decide +kernel
theorem dX10_kindNow_69 : decode cX10_kindNow 69 = .ok (.invokevirtual 168, 3) := by decide +kernel
theorem dX10_kindNow_72 : decode cX10_kindNow 72 = .ok (.ireturn, 1) := by decide +kernel
theorem dX10_kindNow_73 : decode cX10_kindNow 73 = .ok (.aload_n 0, 1) := by decide +kernel
theorem dX10_kindNow_74 : decode cX10_kindNow 74 = .ok (.getfield 7, 3) := by decide +kernel
theorem dX10_kindNow_77 : decode cX10_kindNow 77 = .ok (.bipush 24, 2) := by decide +kernel
theorem dX10_kindNow_79 : decode cX10_kindNow 79 = .ok (.iconst 5, 1) := by decide +kernel
theorem dX10_kindNow_80 : decode cX10_kindNow 80 = .ok (.iload_n 1, 1) := by decide +kernel
theorem dX10_kindNow_81 : decode cX10_kindNow 81 = .ok (.imul, 1) := by decide +kernel
theorem dX10_kindNow_82 : decode cX10_kindNow 82 = .ok (.iadd, 1) := by decide +kernel
theorem dX10_kindNow_83 : decode cX10_kindNow 83 = .ok (.iconst 4, 1) := by decide +kernel
theorem dX10_kindNow_84 : decode cX10_kindNow 84 = .ok (.iadd, 1) := by decide +kernel
theorem dX10_kindNow_85 : decode cX10_kindNow 85 = .ok (.iaload, 1) := by decide +kernel
theorem dX10_kindNow_86 : decode cX10_kindNow 86 = .ok (.ireturn, 1) := by decide +kernel
theorem dX10_kindNow_87 : decode cX10_kindNow 87 = .ok (.aload_n 0, 1) := by decide +kernel
theorem dX10_kindNow_88 : decode cX10_kindNow 88 = .ok (.iconst 0, 1) := by decide +kernel
theorem dX10_kindNow_89 : decode cX10_kindNow 89 = .ok (.iload_n 1, 1) := by decide +kernel
theorem dX10_kindNow_90 : decode cX10_kindNow 90 = .ok (.invokevirtual 162, 3) := by decide +kernel
theorem dX10_kindNow_93 : decode cX10_kindNow 93 = .ok (.ireturn, 1) := by decide +kernel
theorem dX10_kindNow_94 : decode cX10_kindNow 94 = .ok (.aload_n 0, 1) := by decide +kernel
theorem dX10_kindNow_95 : decode cX10_kindNow 95 = .ok (.getfield 7, 3) := by decide +kernel
theorem dX10_kindNow_98 : decode cX10_kindNow 98 = .ok (.bipush 24, 2) := by decide +kernel
theorem dX10_kindNow_100 : decode cX10_kindNow 100 = .ok (.iconst 5, 1) := by decide +kernel
theorem dX10_kindNow_101 : decode cX10_kindNow 101 = .ok (.iload_n 1, 1) := by decide +kernel
theorem dX10_kindNow_102 : decode cX10_kindNow 102 = .ok (.imul, 1) := by decide +kernel
theorem dX10_kindNow_103 : decode cX10_kindNow 103 = .ok (.iadd, 1) := by decide +kernel
theorem dX10_kindNow_104 : decode cX10_kindNow 104 = .ok (.iload_n 2, 1) := by decide +kernel
theorem dX10_kindNow_105 : decode cX10_kindNow 105 = .ok (.iadd, 1) := by decide +kernel
theorem dX10_kindNow_106 : decode cX10_kindNow 106 = .ok (.iconst 3, 1) := by decide +kernel
theorem dX10_kindNow_107 : decode cX10_kindNow 107 = .ok (.isub, 1) := by decide +kernel
theorem dX10_kindNow_108 : decode cX10_kindNow 108 = .ok (.iaload, 1) := by decide +kernel
theorem dX10_kindNow_109 : decode cX10_kindNow 109 = .ok (.ireturn, 1) := by decide +kernel
theorem dX10_kind_0 : decode cX10_kind 0 = .ok (.aload_n 0, 1) := by decide +kernel
theorem dX10_kind_1 : decode cX10_kind 1 = .ok (.aload_n 0, 1) := by decide +kernel
theorem dX10_kind_2 : decode cX10_kind 2 = .ok (.iload_n 1, 1) := by decide +kernel
theorem dX10_kind_3 : decode cX10_kind 3 = .ok (.invokevirtual 72, 3) := by decide +kernel
theorem dX10_kind_6 : decode cX10_kind 6 = .ok (.ifCond .ne 7, 3) := by decide +kernel
theorem dX10_kind_9 : decode cX10_kind 9 = .ok (.iconst 1, 1) := by decide +kernel
theorem dX10_kind_10 : decode cX10_kind 10 = .ok (.goto 18, 3) := by decide +kernel
theorem dX10_kind_13 : decode cX10_kind 13 = .ok (.iload_n 2, 1) := by decide +kernel
theorem dX10_kind_14 : decode cX10_kind 14 = .ok (.iconst 0, 1) := by decide +kernel
theorem dX10_kind_15 : decode cX10_kind 15 = .ok (.bipush 9, 2) := by decide +kernel
theorem dX10_kind_17 : decode cX10_kind 17 = .ok (.invokestatic 35, 3) := by decide +kernel
theorem dX10_kind_20 : decode cX10_kind 20 = .ok (.ifCond .eq 7, 3) := by decide +kernel
theorem dX10_kind_23 : decode cX10_kind 23 = .ok (.iconst 0, 1) := by decide +kernel
theorem dX10_kind_24 : decode cX10_kind 24 = .ok (.goto 4, 3) := by decide +kernel
theorem dX10_kind_27 : decode cX10_kind 27 = .ok (.iconst 2, 1) := by decide +kernel
theorem dX10_kind_28 : decode cX10_kind 28 = .ok (.putfield 31, 3) := by decide +kernel
theorem dX10_kind_31 : decode cX10_kind 31 = .ok (.aload_n 0, 1) := by decide +kernel
theorem dX10_kind_32 : decode cX10_kind 32 = .ok (.getfield 31, 3) := by decide +kernel
theorem dX10_kind_35 : decode cX10_kind 35 = .ok (.ifCond .le 7, 3) := by decide +kernel
theorem dX10_kind_38 : decode cX10_kind 38 = .ok (.iconst 0, 1) := by decide +kernel
theorem dX10_kind_39 : decode cX10_kind 39 = .ok (.goto 9, 3) := by decide +kernel
theorem dX10_kind_42 : decode cX10_kind 42 = .ok (.aload_n 0, 1) := by decide +kernel
theorem dX10_kind_43 : decode cX10_kind 43 = .ok (.iload_n 1, 1) := by decide +kernel
theorem dX10_kind_44 : decode cX10_kind 44 = .ok (.iload_n 2, 1) := by decide +kernel
theorem dX10_kind_45 : decode cX10_kind 45 = .ok (.invokevirtual 171, 3) := by decide +kernel
theorem dX10_kind_48 : decode cX10_kind 48 = .ok (.ireturn, 1) := by decide +kernel
theorem dX10_port_0 : decode cX10_port 0 = .ok (.aload_n 0, 1) := by decide +kernel
theorem dX10_port_1 : decode cX10_port 1 = .ok (.aload_n 0, 1) := by decide +kernel
theorem dX10_port_2 : decode cX10_port 2 = .ok (.iload_n 1, 1) := by decide +kernel
theorem dX10_port_3 : decode cX10_port 3 = .ok (.invokevirtual 69, 3) := by decide +kernel
theorem dX10_port_6 : decode cX10_port 6 = .ok (.ifCond .ne 7, 3) := by decide +kernel
theorem dX10_port_9 : decode cX10_port 9 = .ok (.iconst 1, 1) := by decide +kernel
theorem dX10_port_10 : decode cX10_port 10 = .ok (.goto 37, 3) := by decide +kernel
theorem dX10_port_13 : decode cX10_port 13 = .ok (.iload_n 2, 1) := by decide +kernel
theorem dX10_port_14 : decode cX10_port 14 = .ok (.iconst 0, 1) := by decide +kernel
theorem dX10_port_15 : decode cX10_port 15 = .ok (.iconst 1, 1) := by decide +kernel
theorem dX10_port_16 : decode cX10_port 16 = .ok (.invokestatic 35, 3) := by decide +kernel
theorem dX10_port_19 : decode cX10_port 19 = .ok (.ifCond .ne 23, 3) := by decide +kernel
theorem dX10_port_22 : decode cX10_port 22 = .ok (.iload_n 2, 1) := by decide +kernel
theorem dX10_port_23 : decode cX10_port 23 = .ok (.bipush 10, 2) := by decide +kernel
theorem dX10_port_25 : decode cX10_port 25 = .ok (.bipush 9, 2) := by decide +kernel
theorem dX10_port_27 : decode cX10_port 27 = .ok (.aload_n 0, 1) := by decide +kernel
theorem dX10_port_28 : decode cX10_port 28 = .ok (.getfield 7, 3) := by decide +kernel
theorem dX10_port_31 : decode cX10_port 31 = .ok (.sipush 405, 3) := by decide +kernel
theorem dX10_port_34 : decode cX10_port 34 = .ok (.iaload, 1) := by decide +kernel
theorem dX10_port_35 : decode cX10_port 35 = .ok (.iadd, 1) := by decide +kernel
theorem dX10_port_36 : decode cX10_port 36 = .ok (.invokestatic 35, 3) := by decide +kernel
theorem dX10_port_39 : decode cX10_port 39 = .ok (.ifCond .eq 7, 3) := by decide +kernel
theorem dX10_port_42 : decode cX10_port 42 = .ok (.iconst 0, 1) := by decide +kernel
theorem dX10_port_43 : decode cX10_port 43 = .ok (.goto 4, 3) := by decide +kernel
theorem dX10_port_46 : decode cX10_port 46 = .ok (.iconst 2, 1) := by decide +kernel
theorem dX10_port_47 : decode cX10_port 47 = .ok (.putfield 31, 3) := by decide +kernel
theorem dX10_port_50 : decode cX10_port 50 = .ok (.aload_n 0, 1) := by decide +kernel
theorem dX10_port_51 : decode cX10_port 51 = .ok (.getfield 31, 3) := by decide +kernel
theorem dX10_port_54 : decode cX10_port 54 = .ok (.ifCond .le 7, 3) := by decide +kernel
theorem dX10_port_57 : decode cX10_port 57 = .ok (.iconst 0, 1) := by decide +kernel
theorem dX10_port_58 : decode cX10_port 58 = .ok (.goto 30, 3) := by decide +kernel
theorem dX10_port_61 : decode cX10_port 61 = .ok (.aload_n 0, 1) := by decide +kernel
theorem dX10_port_62 : decode cX10_port 62 = .ok (.getfield 7, 3) := by decide +kernel
theorem dX10_port_65 : decode cX10_port 65 = .ok (.sipush 324, 3) := by decide +kernel
theorem dX10_port_68 : decode cX10_port 68 = .ok (.bipush 10, 2) := by decide +kernel
theorem dX10_port_70 : decode cX10_port 70 = .ok (.iload_n 1, 1) := by decide +kernel
theorem dX10_port_71 : decode cX10_port 71 = .ok (.imul, 1) := by decide +kernel
theorem dX10_port_72 : decode cX10_port 72 = .ok (.iadd, 1) := by decide +kernel
theorem dX10_port_73 : decode cX10_port 73 = .ok (.iload_n 2, 1) := by decide +kernel
theorem dX10_port_74 : decode cX10_port 74 = .ok (.iconst 2, 1) := by decide +kernel
theorem dX10_port_75 : decode cX10_port 75 = .ok (.if_icmp .ge 7, 3) := by decide +kernel
theorem dX10_port_78 : decode cX10_port 78 = .ok (.iload_n 2, 1) := by decide +kernel
theorem dX10_port_79 : decode cX10_port 79 = .ok (.goto 7, 3) := by decide +kernel
theorem dX10_port_82 : decode cX10_port 82 = .ok (.iload_n 2, 1) := by decide +kernel
theorem dX10_port_83 : decode cX10_port 83 = .ok (.bipush 8, 2) := by decide +kernel
theorem dX10_port_85 : decode cX10_port 85 = .ok (.isub, 1) := by decide +kernel
theorem dX10_port_86 : decode cX10_port 86 = .ok (.iadd, 1) := by decide +kernel
theorem dX10_port_87 : decode cX10_port 87 = .ok (.iaload, 1) := by decide +kernel
theorem dX10_port_88 : decode cX10_port 88 = .ok (.ireturn, 1) := by decide +kernel
theorem dX10_menuNow_0 : decode cX10_menuNow 0 = .ok (.iload_n 2, 1) := by decide +kernel
theorem dX10_menuNow_1 : decode cX10_menuNow 1 = .ok (.aload_n 0, 1) := by decide +kernel
theorem dX10_menuNow_2 : decode cX10_menuNow 2 = .ok (.getfield 7, 3) := by decide +kernel
theorem dX10_menuNow_5 : decode cX10_menuNow 5 = .ok (.sipush 314, 3) := by decide +kernel
theorem dX10_menuNow_8 : decode cX10_menuNow 8 = .ok (.iload_n 1, 1) := by decide +kernel
theorem dX10_menuNow_9 : decode cX10_menuNow 9 = .ok (.iadd, 1) := by decide +kernel
theorem dX10_menuNow_10 : decode cX10_menuNow 10 = .ok (.iaload, 1) := by decide +kernel
theorem dX10_menuNow_11 : decode cX10_menuNow 11 = .ok (.if_icmp .ge 25, 3) := by decide +kernel
theorem dX10_menuNow_14 : decode cX10_menuNow 14 = .ok (.aload_n 0, 1) := by decide +kernel
theorem dX10_menuNow_15 : decode cX10_menuNow 15 = .ok (.getfield 7, 3) := by decide +kernel
theorem dX10_menuNow_18 : decode cX10_menuNow 18 = .ok (.sipush 194, 3) := by decide +kernel
theorem dX10_menuNow_21 : decode cX10_menuNow 21 = .ok (.bipush 12, 2) := by decide +kernel
theorem dX10_menuNow_23 : decode cX10_menuNow 23 = .ok (.iload_n 1, 1) := by decide +kernel
theorem dX10_menuNow_24 : decode cX10_menuNow 24 = .ok (.imul, 1) := by decide +kernel
theorem dX10_menuNow_25 : decode cX10_menuNow 25 = .ok (.iadd, 1) := by decide +kernel
theorem dX10_menuNow_26 : decode cX10_menuNow 26 = .ok (.iconst 3, 1) := by decide +kernel
theorem dX10_menuNow_27 : decode cX10_menuNow 27 = .ok (.iload_n 2, 1) := by decide +kernel
theorem dX10_menuNow_28 : decode cX10_menuNow 28 = .ok (.imul, 1) := by decide +kernel
theorem dX10_menuNow_29 : decode cX10_menuNow 29 = .ok (.iadd, 1) := by decide +kernel
theorem dX10_menuNow_30 : decode cX10_menuNow 30 = .ok (.iload_n 3, 1) := by decide +kernel
theorem dX10_menuNow_31 : decode cX10_menuNow 31 = .ok (.iadd, 1) := by decide +kernel
theorem dX10_menuNow_32 : decode cX10_menuNow 32 = .ok (.iaload, 1) := by decide +kernel
theorem dX10_menuNow_33 : decode cX10_menuNow 33 = .ok (.goto 4, 3) := by decide +kernel
theorem dX10_menuNow_36 : decode cX10_menuNow 36 = .ok (.iconst (-1), 1) := by decide +kernel
theorem dX10_menuNow_37 : decode cX10_menuNow 37 = .ok (.ireturn, 1) := by decide +kernel
theorem dX10_menu_0 : decode cX10_menu 0 = .ok (.aload_n 0, 1) := by decide +kernel
theorem dX10_menu_1 : decode cX10_menu 1 = .ok (.iload_n 1, 1) := by decide +kernel
theorem dX10_menu_2 : decode cX10_menu 2 = .ok (.iconst 0, 1) := by decide +kernel
theorem dX10_menu_3 : decode cX10_menu 3 = .ok (.aload_n 0, 1) := by decide +kernel
theorem dX10_menu_4 : decode cX10_menu 4 = .ok (.getfield 7, 3) := by decide +kernel
theorem dX10_menu_7 : decode cX10_menu 7 = .ok (.sipush 408, 3) := by decide +kernel
theorem dX10_menu_10 : decode cX10_menu 10 = .ok (.iaload, 1) := by decide +kernel
theorem dX10_menu_11 : decode cX10_menu 11 = .ok (.iconst 1, 1) := by decide +kernel
theorem dX10_menu_12 : decode cX10_menu 12 = .ok (.isub, 1) := by decide +kernel
theorem dX10_menu_13 : decode cX10_menu 13 = .ok (.invokestatic 35, 3) := by decide +kernel
theorem dX10_menu_16 : decode cX10_menu 16 = .ok (.ifCond .eq 12, 3) := by decide +kernel
theorem dX10_menu_19 : decode cX10_menu 19 = .ok (.iload_n 2, 1) := by decide +kernel
theorem dX10_menu_20 : decode cX10_menu 20 = .ok (.iconst 0, 1) := by decide +kernel
theorem dX10_menu_21 : decode cX10_menu 21 = .ok (.iconst 3, 1) := by decide +kernel
theorem dX10_menu_22 : decode cX10_menu 22 = .ok (.invokestatic 35, 3) := by decide +kernel
theorem dX10_menu_25 : decode cX10_menu 25 = .ok (.ifCond .ne 7, 3) := by decide +kernel
theorem dX10_menu_28 : decode cX10_menu 28 = .ok (.iconst 1, 1) := by decide +kernel
theorem dX10_menu_29 : decode cX10_menu 29 = .ok (.goto 17, 3) := by decide +kernel
theorem dX10_menu_32 : decode cX10_menu 32 = .ok (.iload_n 3, 1) := by decide +kernel
theorem dX10_menu_33 : decode cX10_menu 33 = .ok (.iconst 0, 1) := by decide +kernel
theorem dX10_menu_34 : decode cX10_menu 34 = .ok (.iconst 2, 1) := by decide +kernel
theorem dX10_menu_35 : decode cX10_menu 35 = .ok (.invokestatic 35, 3) := by decide +kernel
theorem dX10_menu_38 : decode cX10_menu 38 = .ok (.ifCond .eq 7, 3) := by decide +kernel
theorem dX10_menu_41 : decode cX10_menu 41 = .ok (.iconst 0, 1) := by decide +kernel
theorem dX10_menu_42 : decode cX10_menu 42 = .ok (.goto 4, 3) := by decide +kernel
theorem dX10_menu_45 : decode cX10_menu 45 = .ok (.iconst 2, 1) := by decide +kernel
theorem dX10_menu_46 : decode cX10_menu 46 = .ok (.putfield 31, 3) := by decide +kernel
theorem dX10_menu_49 : decode cX10_menu 49 = .ok (.aload_n 0, 1) := by decide +kernel
theorem dX10_menu_50 : decode cX10_menu 50 = .ok (.getfield 31, 3) := by decide +kernel
theorem dX10_menu_53 : decode cX10_menu 53 = .ok (.ifCond .le 7, 3) := by decide +kernel
theorem dX10_menu_56 : decode cX10_menu 56 = .ok (.iconst 0, 1) := by decide +kernel
theorem dX10_menu_57 : decode cX10_menu 57 = .ok (.goto 10, 3) := by decide +kernel
theorem dX10_menu_60 : decode cX10_menu 60 = .ok (.aload_n 0, 1) := by decide +kernel
theorem dX10_menu_61 : decode cX10_menu 61 = .ok (.iload_n 1, 1) := by decide +kernel
theorem dX10_menu_62 : decode cX10_menu 62 = .ok (.iload_n 2, 1) := by decide +kernel
theorem dX10_menu_63 : decode cX10_menu 63 = .ok (.iload_n 3, 1) := by decide +kernel
theorem dX10_menu_64 : decode cX10_menu 64 = .ok (.invokevirtual 174, 3) := by decide +kernel
theorem dX10_menu_67 : decode cX10_menu 67 = .ok (.ireturn, 1) := by decide +kernel
theorem dX10_nextPort_0 : decode cX10_nextPort 0 = .ok (.iconst 0, 1) := by decide +kernel
theorem dX10_nextPort_1 : decode cX10_nextPort 1 = .ok (.istore_n 1, 1) := by decide +kernel
theorem dX10_nextPort_2 : decode cX10_nextPort 2 = .ok (.iload_n 1, 1) := by decide +kernel
theorem dX10_nextPort_3 : decode cX10_nextPort 3 = .ok (.aload_n 0, 1) := by decide +kernel
theorem dX10_nextPort_4 : decode cX10_nextPort 4 = .ok (.getfield 7, 3) := by decide +kernel
theorem dX10_nextPort_7 : decode cX10_nextPort 7 = .ok (.sipush 407, 3) := by decide +kernel
theorem dX10_nextPort_10 : decode cX10_nextPort 10 = .ok (.iaload, 1) := by decide +kernel
theorem dX10_nextPort_11 : decode cX10_nextPort 11 = .ok (.if_icmp .ge 33, 3) := by decide +kernel
theorem dX10_nextPort_14 : decode cX10_nextPort 14 = .ok (.aload_n 0, 1) := by decide +kernel
theorem dX10_nextPort_15 : decode cX10_nextPort 15 = .ok (.getfield 7, 3) := by decide +kernel
theorem dX10_nextPort_18 : decode cX10_nextPort 18 = .ok (.sipush 324, 3) := by decide +kernel
theorem dX10_nextPort_21 : decode cX10_nextPort 21 = .ok (.bipush 10, 2) := by decide +kernel
theorem dX10_nextPort_23 : decode cX10_nextPort 23 = .ok (.iload_n 1, 1) := by decide +kernel
theorem dX10_nextPort_24 : decode cX10_nextPort 24 = .ok (.imul, 1) := by decide +kernel
theorem dX10_nextPort_25 : decode cX10_nextPort 25 = .ok (.iadd, 1) := by decide +kernel
theorem dX10_nextPort_26 : decode cX10_nextPort 26 = .ok (.iaload, 1) := by decide +kernel
theorem dX10_nextPort_27 : decode cX10_nextPort 27 = .ok (.aload_n 0, 1) := by decide +kernel
theorem dX10_nextPort_28 : decode cX10_nextPort 28 = .ok (.getfield 7, 3) := by decide +kernel
theorem dX10_nextPort_31 : decode cX10_nextPort 31 = .ok (.sipush 404, 3) := by decide +kernel
theorem dX10_nextPort_34 : decode cX10_nextPort 34 = .ok (.iaload, 1) := by decide +kernel
theorem dX10_nextPort_35 : decode cX10_nextPort 35 = .ok (.if_icmp .gt 9, 3) := by decide +kernel
theorem dX10_nextPort_38 : decode cX10_nextPort 38 = .ok (.iinc 1 1, 3) := by decide +kernel
theorem dX10_nextPort_41 : decode cX10_nextPort 41 = .ok (.goto (-39), 3) := by decide +kernel
theorem dX10_nextPort_44 : decode cX10_nextPort 44 = .ok (.iload_n 1, 1) := by decide +kernel
theorem dX10_nextPort_45 : decode cX10_nextPort 45 = .ok (.aload_n 0, 1) := by decide +kernel
theorem dX10_nextPort_46 : decode cX10_nextPort 46 = .ok (.getfield 7, 3) := by decide +kernel
theorem dX10_nextPort_49 : decode cX10_nextPort 49 = .ok (.sipush 407, 3) := by decide +kernel
theorem dX10_nextPort_52 : decode cX10_nextPort 52 = .ok (.iaload, 1) := by decide +kernel
theorem dX10_nextPort_53 : decode cX10_nextPort 53 = .ok (.if_icmp .ne 7, 3) := by decide +kernel
theorem dX10_nextPort_56 : decode cX10_nextPort 56 = .ok (.iconst (-1), 1) := by decide +kernel
theorem dX10_nextPort_57 : decode cX10_nextPort 57 = .ok (.goto 4, 3) := by decide +kernel
theorem dX10_nextPort_60 : decode cX10_nextPort 60 = .ok (.iload_n 1, 1) := by decide +kernel
theorem dX10_nextPort_61 : decode cX10_nextPort 61 = .ok (.ireturn, 1) := by decide +kernel
theorem dX10_counted_0 : decode cX10_counted 0 = .ok (.iload_n 1, 1) := by decide +kernel
theorem dX10_counted_1 : decode cX10_counted 1 = .ok (.tableswitch 121 0 11 #[63, 72, 72, 72, 72, 85, 85, 85, 85, 98, 103, 116], 63) := by decide +kernel
theorem dX10_counted_64 : decode cX10_counted 64 = .ok (.aload_n 0, 1) := by decide +kernel
theorem dX10_counted_65 : decode cX10_counted 65 = .ok (.getfield 7, 3) := by decide +kernel
theorem dX10_counted_68 : decode cX10_counted 68 = .ok (.sipush 404, 3) := by decide +kernel
theorem dX10_counted_71 : decode cX10_counted 71 = .ok (.iaload, 1) := by decide +kernel
theorem dX10_counted_72 : decode cX10_counted 72 = .ok (.ireturn, 1) := by decide +kernel
theorem dX10_counted_73 : decode cX10_counted 73 = .ok (.aload_n 0, 1) := by decide +kernel
theorem dX10_counted_74 : decode cX10_counted 74 = .ok (.getfield 7, 3) := by decide +kernel
theorem dX10_counted_77 : decode cX10_counted 77 = .ok (.sipush 405, 3) := by decide +kernel
theorem dX10_counted_80 : decode cX10_counted 80 = .ok (.iload_n 1, 1) := by decide +kernel
theorem dX10_counted_81 : decode cX10_counted 81 = .ok (.iadd, 1) := by decide +kernel
theorem dX10_counted_82 : decode cX10_counted 82 = .ok (.iconst 1, 1) := by decide +kernel
theorem dX10_counted_83 : decode cX10_counted 83 = .ok (.isub, 1) := by decide +kernel
theorem dX10_counted_84 : decode cX10_counted 84 = .ok (.iaload, 1) := by decide +kernel
theorem dX10_counted_85 : decode cX10_counted 85 = .ok (.ireturn, 1) := by decide +kernel
theorem dX10_counted_86 : decode cX10_counted 86 = .ok (.aload_n 0, 1) := by decide +kernel
theorem dX10_counted_87 : decode cX10_counted 87 = .ok (.getfield 7, 3) := by decide +kernel
theorem dX10_counted_90 : decode cX10_counted 90 = .ok (.sipush 409, 3) := by decide +kernel
theorem dX10_counted_93 : decode cX10_counted 93 = .ok (.iload_n 1, 1) := by decide +kernel
theorem dX10_counted_94 : decode cX10_counted 94 = .ok (.iadd, 1) := by decide +kernel
theorem dX10_counted_95 : decode cX10_counted 95 = .ok (.iconst 5, 1) := by decide +kernel
theorem dX10_counted_96 : decode cX10_counted 96 = .ok (.isub, 1) := by decide +kernel
theorem dX10_counted_97 : decode cX10_counted 97 = .ok (.iaload, 1) := by decide +kernel
theorem dX10_counted_98 : decode cX10_counted 98 = .ok (.ireturn, 1) := by decide +kernel
theorem dX10_counted_99 : decode cX10_counted 99 = .ok (.aload_n 0, 1) := by decide +kernel
theorem dX10_counted_100 : decode cX10_counted 100 = .ok (.getfield 39, 3) := by decide +kernel
theorem dX10_counted_103 : decode cX10_counted 103 = .ok (.ireturn, 1) := by decide +kernel
theorem dX10_counted_104 : decode cX10_counted 104 = .ok (.aload_n 0, 1) := by decide +kernel
theorem dX10_counted_105 : decode cX10_counted 105 = .ok (.aload_n 0, 1) := by decide +kernel
theorem dX10_counted_106 : decode cX10_counted 106 = .ok (.getfield 7, 3) := by decide +kernel
theorem dX10_counted_109 : decode cX10_counted 109 = .ok (.sipush 404, 3) := by decide +kernel
theorem dX10_counted_112 : decode cX10_counted 112 = .ok (.iaload, 1) := by decide +kernel
theorem dX10_counted_113 : decode cX10_counted 113 = .ok (.invokevirtual 66, 3) := by decide +kernel
theorem dX10_counted_116 : decode cX10_counted 116 = .ok (.ireturn, 1) := by decide +kernel
theorem dX10_counted_117 : decode cX10_counted 117 = .ok (.aload_n 0, 1) := by decide +kernel
theorem dX10_counted_118 : decode cX10_counted 118 = .ok (.invokevirtual 177, 3) := by decide +kernel
theorem dX10_counted_121 : decode cX10_counted 121 = .ok (.ireturn, 1) := by decide +kernel
theorem dX10_counted_122 : decode cX10_counted 122 = .ok (.aload_n 0, 1) := by decide +kernel
theorem dX10_counted_123 : decode cX10_counted 123 = .ok (.invokevirtual 102, 3) := by decide +kernel
theorem dX10_counted_126 : decode cX10_counted 126 = .ok (.ireturn, 1) := by decide +kernel
theorem dX10_count_0 : decode cX10_count 0 = .ok (.aload_n 0, 1) := by decide +kernel
theorem dX10_count_1 : decode cX10_count 1 = .ok (.iload_n 1, 1) := by decide +kernel
theorem dX10_count_2 : decode cX10_count 2 = .ok (.iconst 0, 1) := by decide +kernel
theorem dX10_count_3 : decode cX10_count 3 = .ok (.bipush 12, 2) := by decide +kernel
theorem dX10_count_5 : decode cX10_count 5 = .ok (.invokestatic 35, 3) := by decide +kernel
theorem dX10_count_8 : decode cX10_count 8 = .ok (.ifCond .eq 7, 3) := by decide +kernel
theorem dX10_count_11 : decode cX10_count 11 = .ok (.iconst 0, 1) := by decide +kernel
theorem dX10_count_12 : decode cX10_count 12 = .ok (.goto 4, 3) := by decide +kernel
theorem dX10_count_15 : decode cX10_count 15 = .ok (.iconst 1, 1) := by decide +kernel
theorem dX10_count_16 : decode cX10_count 16 = .ok (.putfield 31, 3) := by decide +kernel
theorem dX10_count_19 : decode cX10_count 19 = .ok (.aload_n 0, 1) := by decide +kernel
theorem dX10_count_20 : decode cX10_count 20 = .ok (.getfield 31, 3) := by decide +kernel
theorem dX10_count_23 : decode cX10_count 23 = .ok (.ifCond .le 7, 3) := by decide +kernel
theorem dX10_count_26 : decode cX10_count 26 = .ok (.iconst 0, 1) := by decide +kernel
theorem dX10_count_27 : decode cX10_count 27 = .ok (.goto 8, 3) := by decide +kernel
theorem dX10_count_30 : decode cX10_count 30 = .ok (.aload_n 0, 1) := by decide +kernel
theorem dX10_count_31 : decode cX10_count 31 = .ok (.iload_n 1, 1) := by decide +kernel
theorem dX10_count_32 : decode cX10_count 32 = .ok (.invokevirtual 180, 3) := by decide +kernel
theorem dX10_count_35 : decode cX10_count 35 = .ok (.ireturn, 1) := by decide +kernel
theorem dX10_why_0 : decode cX10_why 0 = .ok (.aload_n 0, 1) := by decide +kernel
theorem dX10_why_1 : decode cX10_why 1 = .ok (.aload_n 0, 1) := by decide +kernel
theorem dX10_why_2 : decode cX10_why 2 = .ok (.iload_n 1, 1) := by decide +kernel
theorem dX10_why_3 : decode cX10_why 3 = .ok (.invokevirtual 72, 3) := by decide +kernel
theorem dX10_why_6 : decode cX10_why 6 = .ok (.ifCond .eq 10, 3) := by decide +kernel
theorem dX10_why_9 : decode cX10_why 9 = .ok (.iload_n 3, 1) := by decide +kernel
theorem dX10_why_10 : decode cX10_why 10 = .ok (.invokestatic 57, 3) := by decide +kernel
theorem dX10_why_13 : decode cX10_why 13 = .ok (.ifCond .ne 7, 3) := by decide +kernel
theorem dX10_why_16 : decode cX10_why 16 = .ok (.iconst 1, 1) := by decide +kernel
theorem dX10_why_17 : decode cX10_why 17 = .ok (.goto 15, 3) := by decide +kernel
theorem dX10_why_20 : decode cX10_why 20 = .ok (.iload_n 2, 1) := by decide +kernel
theorem dX10_why_21 : decode cX10_why 21 = .ok (.invokestatic 82, 3) := by decide +kernel
theorem dX10_why_24 : decode cX10_why 24 = .ok (.ifCond .eq 7, 3) := by decide +kernel
theorem dX10_why_27 : decode cX10_why 27 = .ok (.iconst 0, 1) := by decide +kernel
theorem dX10_why_28 : decode cX10_why 28 = .ok (.goto 4, 3) := by decide +kernel
theorem dX10_why_31 : decode cX10_why 31 = .ok (.iconst 2, 1) := by decide +kernel
theorem dX10_why_32 : decode cX10_why 32 = .ok (.putfield 31, 3) := by decide +kernel
theorem dX10_why_35 : decode cX10_why 35 = .ok (.aload_n 0, 1) := by decide +kernel
theorem dX10_why_36 : decode cX10_why 36 = .ok (.getfield 31, 3) := by decide +kernel
theorem dX10_why_39 : decode cX10_why 39 = .ok (.ifCond .le 7, 3) := by decide +kernel
theorem dX10_why_42 : decode cX10_why 42 = .ok (.iconst 0, 1) := by decide +kernel
theorem dX10_why_43 : decode cX10_why 43 = .ok (.goto 10, 3) := by decide +kernel
theorem dX10_why_46 : decode cX10_why 46 = .ok (.aload_n 0, 1) := by decide +kernel
theorem dX10_why_47 : decode cX10_why 47 = .ok (.iload_n 1, 1) := by decide +kernel
theorem dX10_why_48 : decode cX10_why 48 = .ok (.iload_n 2, 1) := by decide +kernel
theorem dX10_why_49 : decode cX10_why 49 = .ok (.iload_n 3, 1) := by decide +kernel
theorem dX10_why_50 : decode cX10_why 50 = .ok (.invokevirtual 85, 3) := by decide +kernel
theorem dX10_why_53 : decode cX10_why 53 = .ok (.ireturn, 1) := by decide +kernel
theorem dX10_ahead_0 : decode cX10_ahead 0 = .ok (.aload_n 0, 1) := by decide +kernel
theorem dX10_ahead_1 : decode cX10_ahead 1 = .ok (.getfield 7, 3) := by decide +kernel
theorem dX10_ahead_4 : decode cX10_ahead 4 = .ok (.iconst 0, 1) := by decide +kernel
theorem dX10_ahead_5 : decode cX10_ahead 5 = .ok (.aload_n 0, 1) := by decide +kernel
theorem dX10_ahead_6 : decode cX10_ahead 6 = .ok (.getfield 13, 3) := by decide +kernel
theorem dX10_ahead_9 : decode cX10_ahead 9 = .ok (.iconst 0, 1) := by decide +kernel
theorem dX10_ahead_10 : decode cX10_ahead 10 = .ok (.invokestatic 42, 3) := by decide +kernel
theorem dX10_ahead_13 : decode cX10_ahead 13 = .ok (.aload_n 0, 1) := by decide +kernel
theorem dX10_ahead_14 : decode cX10_ahead 14 = .ok (.iconst 1, 1) := by decide +kernel
theorem dX10_ahead_15 : decode cX10_ahead 15 = .ok (.invokevirtual 125, 3) := by decide +kernel
theorem dX10_ahead_18 : decode cX10_ahead 18 = .ok (.istore_n 3, 1) := by decide +kernel
theorem dX10_ahead_19 : decode cX10_ahead 19 = .ok (.aload_n 0, 1) := by decide +kernel
theorem dX10_ahead_20 : decode cX10_ahead 20 = .ok (.iconst 2, 1) := by decide +kernel
theorem dX10_ahead_21 : decode cX10_ahead 21 = .ok (.invokevirtual 125, 3) := by decide +kernel
theorem dX10_ahead_24 : decode cX10_ahead 24 = .ok (.istore 4, 2) := by decide +kernel
theorem dX10_ahead_26 : decode cX10_ahead 26 = .ok (.aload_n 0, 1) := by decide +kernel
theorem dX10_ahead_27 : decode cX10_ahead 27 = .ok (.iconst 4, 1) := by decide +kernel
theorem dX10_ahead_28 : decode cX10_ahead 28 = .ok (.invokevirtual 125, 3) := by decide +kernel
theorem dX10_ahead_31 : decode cX10_ahead 31 = .ok (.istore 5, 2) := by decide +kernel
theorem dX10_ahead_33 : decode cX10_ahead 33 = .ok (.aload_n 0, 1) := by decide +kernel
theorem dX10_ahead_34 : decode cX10_ahead 34 = .ok (.getfield 7, 3) := by decide +kernel
theorem dX10_ahead_37 : decode cX10_ahead 37 = .ok (.sipush 412, 3) := by decide +kernel
theorem dX10_ahead_40 : decode cX10_ahead 40 = .ok (.iaload, 1) := by decide +kernel
theorem dX10_ahead_41 : decode cX10_ahead 41 = .ok (.istore 6, 2) := by decide +kernel
theorem dX10_ahead_43 : decode cX10_ahead 43 = .ok (.aload_n 0, 1) := by decide +kernel
theorem dX10_ahead_44 : decode cX10_ahead 44 = .ok (.iload_n 1, 1) := by decide +kernel
theorem dX10_ahead_45 : decode cX10_ahead 45 = .ok (.invokevirtual 128, 3) := by decide +kernel
theorem dX10_ahead_48 : decode cX10_ahead 48 = .ok (.iload_n 2, 1) := by decide +kernel
theorem dX10_ahead_49 : decode cX10_ahead 49 = .ok (.ifCond .ne 13, 3) := by decide +kernel
theorem dX10_ahead_52 : decode cX10_ahead 52 = .ok (.aload_n 0, 1) := by decide +kernel
theorem dX10_ahead_53 : decode cX10_ahead 53 = .ok (.iconst 1, 1) := by decide +kernel
theorem dX10_ahead_54 : decode cX10_ahead 54 = .ok (.invokevirtual 125, 3) := by decide +kernel
theorem dX10_ahead_57 : decode cX10_ahead 57 = .ok (.iload_n 3, 1) := by decide +kernel
theorem dX10_ahead_58 : decode cX10_ahead 58 = .ok (.isub, 1) := by decide +kernel
theorem dX10_ahead_59 : decode cX10_ahead 59 = .ok (.goto 58, 3) := by decide +kernel
theorem dX10_ahead_62 : decode cX10_ahead 62 = .ok (.iload_n 2, 1) := by decide +kernel
theorem dX10_ahead_63 : decode cX10_ahead 63 = .ok (.iconst 1, 1) := by decide +kernel
theorem dX10_ahead_64 : decode cX10_ahead 64 = .ok (.if_icmp .ne 14, 3) := by decide +kernel
theorem dX10_ahead_67 : decode cX10_ahead 67 = .ok (.aload_n 0, 1) := by decide +kernel
theorem dX10_ahead_68 : decode cX10_ahead 68 = .ok (.iconst 2, 1) := by decide +kernel
theorem dX10_ahead_69 : decode cX10_ahead 69 = .ok (.invokevirtual 125, 3) := by decide +kernel
theorem dX10_ahead_72 : decode cX10_ahead 72 = .ok (.iload 4, 2) := by decide +kernel
theorem dX10_ahead_74 : decode cX10_ahead 74 = .ok (.isub, 1) := by decide +kernel
theorem dX10_ahead_75 : decode cX10_ahead 75 = .ok (.goto 42, 3) := by decide +kernel
theorem dX10_ahead_78 : decode cX10_ahead 78 = .ok (.iload_n 2, 1) := by decide +kernel
theorem dX10_ahead_79 : decode cX10_ahead 79 = .ok (.iconst 2, 1) := by decide +kernel
theorem dX10_ahead_80 : decode cX10_ahead 80 = .ok (.if_icmp .ne 14, 3) := by decide +kernel
theorem dX10_ahead_83 : decode cX10_ahead 83 = .ok (.aload_n 0, 1) := by decide +kernel
theorem dX10_ahead_84 : decode cX10_ahead 84 = .ok (.iconst 4, 1) := by decide +kernel
theorem dX10_ahead_85 : decode cX10_ahead 85 = .ok (.invokevirtual 125, 3) := by decide +kernel
theorem dX10_ahead_88 : decode cX10_ahead 88 = .ok (.iload 5, 2) := by decide +kernel
theorem dX10_ahead_90 : decode cX10_ahead 90 = .ok (.isub, 1) := by decide +kernel
theorem dX10_ahead_91 : decode cX10_ahead 91 = .ok (.goto 26, 3) := by decide +kernel
theorem dX10_ahead_94 : decode cX10_ahead 94 = .ok (.iload_n 2, 1) := by decide +kernel
theorem dX10_ahead_95 : decode cX10_ahead 95 = .ok (.iconst 3, 1) := by decide +kernel
theorem dX10_ahead_96 : decode cX10_ahead 96 = .ok (.if_icmp .ne 17, 3) := by decide +kernel
theorem dX10_ahead_99 : decode cX10_ahead 99 = .ok (.aload_n 0, 1) := by decide +kernel
theorem dX10_ahead_100 : decode cX10_ahead 100 = .ok (.getfield 7, 3) := by decide +kernel
theorem dX10_ahead_103 : decode cX10_ahead 103 = .ok (.sipush 412, 3) := by decide +kernel
theorem dX10_ahead_106 : decode cX10_ahead 106 = .ok (.iaload, 1) := by decide +kernel
theorem dX10_ahead_107 : decode cX10_ahead 107 = .ok (.iload 6, 2) := by decide +kernel
theorem dX10_ahead_109 : decode cX10_ahead 109 = .ok (.isub, 1) := by decide +kernel
theorem dX10_ahead_110 : decode cX10_ahead 110 = .ok (.goto 7, 3) := by decide +kernel
theorem dX10_ahead_113 : decode cX10_ahead 113 = .ok (.aload_n 0, 1) := by decide +kernel
theorem dX10_ahead_114 : decode cX10_ahead 114 = .ok (.invokevirtual 102, 3) := by decide +kernel
theorem dX10_ahead_117 : decode cX10_ahead 117 = .ok (.istore 7, 2) := by decide +kernel
theorem dX10_ahead_119 : decode cX10_ahead 119 = .ok (.aload_n 0, 1) := by decide +kernel
theorem dX10_ahead_120 : decode cX10_ahead 120 = .ok (.getfield 13, 3) := by decide +kernel
theorem dX10_ahead_123 : decode cX10_ahead 123 = .ok (.iconst 0, 1) := by decide +kernel
theorem dX10_ahead_124 : decode cX10_ahead 124 = .ok (.aload_n 0, 1) := by decide +kernel
theorem dX10_ahead_125 : decode cX10_ahead 125 = .ok (.getfield 7, 3) := by decide +kernel
theorem dX10_ahead_128 : decode cX10_ahead 128 = .ok (.iconst 0, 1) := by decide +kernel
theorem dX10_ahead_129 : decode cX10_ahead 129 = .ok (.invokestatic 42, 3) := by decide +kernel
theorem dX10_ahead_132 : decode cX10_ahead 132 = .ok (.iload 7, 2) := by decide +kernel
theorem dX10_ahead_134 : decode cX10_ahead 134 = .ok (.ireturn, 1) := by decide +kernel
theorem dX10_isDays_0 : decode cX10_isDays 0 = .ok (.iload_n 0, 1) := by decide +kernel
theorem dX10_isDays_1 : decode cX10_isDays 1 = .ok (.iconst 1, 1) := by decide +kernel
theorem dX10_isDays_2 : decode cX10_isDays 2 = .ok (.bipush 60, 2) := by decide +kernel
theorem dX10_isDays_4 : decode cX10_isDays 4 = .ok (.invokestatic 35, 3) := by decide +kernel
theorem dX10_isDays_7 : decode cX10_isDays 7 = .ok (.ireturn, 1) := by decide +kernel
theorem dX10_ifPass_0 : decode cX10_ifPass 0 = .ok (.aload_n 0, 1) := by decide +kernel
theorem dX10_ifPass_1 : decode cX10_ifPass 1 = .ok (.iload_n 1, 1) := by decide +kernel
theorem dX10_ifPass_2 : decode cX10_ifPass 2 = .ok (.invokestatic 183, 3) := by decide +kernel
theorem dX10_ifPass_5 : decode cX10_ifPass 5 = .ok (.ifCond .eq 16, 3) := by decide +kernel
theorem dX10_ifPass_8 : decode cX10_ifPass 8 = .ok (.iload_n 2, 1) := by decide +kernel
theorem dX10_ifPass_9 : decode cX10_ifPass 9 = .ok (.iconst 0, 1) := by decide +kernel
theorem dX10_ifPass_10 : decode cX10_ifPass 10 = .ok (.iconst 4, 1) := by decide +kernel
theorem dX10_ifPass_11 : decode cX10_ifPass 11 = .ok (.invokestatic 35, 3) := by decide +kernel
theorem dX10_ifPass_14 : decode cX10_ifPass 14 = .ok (.ifCond .eq 7, 3) := by decide +kernel
theorem dX10_ifPass_17 : decode cX10_ifPass 17 = .ok (.iconst 0, 1) := by decide +kernel
theorem dX10_ifPass_18 : decode cX10_ifPass 18 = .ok (.goto 4, 3) := by decide +kernel
theorem dX10_ifPass_21 : decode cX10_ifPass 21 = .ok (.iconst 1, 1) := by decide +kernel
theorem dX10_ifPass_22 : decode cX10_ifPass 22 = .ok (.putfield 31, 3) := by decide +kernel
theorem dX10_ifPass_25 : decode cX10_ifPass 25 = .ok (.aload_n 0, 1) := by decide +kernel
theorem dX10_ifPass_26 : decode cX10_ifPass 26 = .ok (.getfield 31, 3) := by decide +kernel
theorem dX10_ifPass_29 : decode cX10_ifPass 29 = .ok (.ifCond .le 7, 3) := by decide +kernel
theorem dX10_ifPass_32 : decode cX10_ifPass 32 = .ok (.iconst 0, 1) := by decide +kernel
theorem dX10_ifPass_33 : decode cX10_ifPass 33 = .ok (.goto 9, 3) := by decide +kernel
theorem dX10_ifPass_36 : decode cX10_ifPass 36 = .ok (.aload_n 0, 1) := by decide +kernel
theorem dX10_ifPass_37 : decode cX10_ifPass 37 = .ok (.iload_n 1, 1) := by decide +kernel
theorem dX10_ifPass_38 : decode cX10_ifPass 38 = .ok (.iload_n 2, 1) := by decide +kernel
theorem dX10_ifPass_39 : decode cX10_ifPass 39 = .ok (.invokevirtual 186, 3) := by decide +kernel
theorem dX10_ifPass_42 : decode cX10_ifPass 42 = .ok (.ireturn, 1) := by decide +kernel
theorem dX10_spoils_0 : decode cX10_spoils 0 = .ok (.aload_n 0, 1) := by decide +kernel
theorem dX10_spoils_1 : decode cX10_spoils 1 = .ok (.aload_n 0, 1) := by decide +kernel
theorem dX10_spoils_2 : decode cX10_spoils 2 = .ok (.iload_n 1, 1) := by decide +kernel
theorem dX10_spoils_3 : decode cX10_spoils 3 = .ok (.invokevirtual 72, 3) := by decide +kernel
theorem dX10_spoils_6 : decode cX10_spoils 6 = .ok (.ifCond .ne 7, 3) := by decide +kernel
theorem dX10_spoils_9 : decode cX10_spoils 9 = .ok (.iconst 1, 1) := by decide +kernel
theorem dX10_spoils_10 : decode cX10_spoils 10 = .ok (.goto 15, 3) := by decide +kernel
theorem dX10_spoils_13 : decode cX10_spoils 13 = .ok (.iload_n 2, 1) := by decide +kernel
theorem dX10_spoils_14 : decode cX10_spoils 14 = .ok (.invokestatic 183, 3) := by decide +kernel
theorem dX10_spoils_17 : decode cX10_spoils 17 = .ok (.ifCond .eq 7, 3) := by decide +kernel
theorem dX10_spoils_20 : decode cX10_spoils 20 = .ok (.iconst 0, 1) := by decide +kernel
theorem dX10_spoils_21 : decode cX10_spoils 21 = .ok (.goto 4, 3) := by decide +kernel
theorem dX10_spoils_24 : decode cX10_spoils 24 = .ok (.iconst 2, 1) := by decide +kernel
theorem dX10_spoils_25 : decode cX10_spoils 25 = .ok (.putfield 31, 3) := by decide +kernel
theorem dX10_spoils_28 : decode cX10_spoils 28 = .ok (.aload_n 0, 1) := by decide +kernel
theorem dX10_spoils_29 : decode cX10_spoils 29 = .ok (.getfield 31, 3) := by decide +kernel
theorem dX10_spoils_32 : decode cX10_spoils 32 = .ok (.ifCond .le 5, 3) := by decide +kernel
theorem dX10_spoils_35 : decode cX10_spoils 35 = .ok (.iconst 0, 1) := by decide +kernel
theorem dX10_spoils_36 : decode cX10_spoils 36 = .ok (.ireturn, 1) := by decide +kernel
theorem dX10_spoils_37 : decode cX10_spoils 37 = .ok (.aload_n 0, 1) := by decide +kernel
theorem dX10_spoils_38 : decode cX10_spoils 38 = .ok (.getfield 7, 3) := by decide +kernel
theorem dX10_spoils_41 : decode cX10_spoils 41 = .ok (.iconst 0, 1) := by decide +kernel
theorem dX10_spoils_42 : decode cX10_spoils 42 = .ok (.aload_n 0, 1) := by decide +kernel
theorem dX10_spoils_43 : decode cX10_spoils 43 = .ok (.getfield 13, 3) := by decide +kernel
theorem dX10_spoils_46 : decode cX10_spoils 46 = .ok (.iconst 0, 1) := by decide +kernel
theorem dX10_spoils_47 : decode cX10_spoils 47 = .ok (.invokestatic 42, 3) := by decide +kernel
theorem dX10_spoils_50 : decode cX10_spoils 50 = .ok (.aload_n 0, 1) := by decide +kernel
theorem dX10_spoils_51 : decode cX10_spoils 51 = .ok (.getfield 7, 3) := by decide +kernel
theorem dX10_spoils_54 : decode cX10_spoils 54 = .ok (.bipush 24, 2) := by decide +kernel
theorem dX10_spoils_56 : decode cX10_spoils 56 = .ok (.iconst 5, 1) := by decide +kernel
theorem dX10_spoils_57 : decode cX10_spoils 57 = .ok (.iload_n 1, 1) := by decide +kernel
theorem dX10_spoils_58 : decode cX10_spoils 58 = .ok (.imul, 1) := by decide +kernel
theorem dX10_spoils_59 : decode cX10_spoils 59 = .ok (.iadd, 1) := by decide +kernel
theorem dX10_spoils_60 : decode cX10_spoils 60 = .ok (.iconst 2, 1) := by decide +kernel
theorem dX10_spoils_61 : decode cX10_spoils 61 = .ok (.iadd, 1) := by decide +kernel
theorem dX10_spoils_62 : decode cX10_spoils 62 = .ok (.iaload, 1) := by decide +kernel
theorem dX10_spoils_63 : decode cX10_spoils 63 = .ok (.istore_n 3, 1) := by decide +kernel
theorem dX10_spoils_64 : decode cX10_spoils 64 = .ok (.aload_n 0, 1) := by decide +kernel
theorem dX10_spoils_65 : decode cX10_spoils 65 = .ok (.iload_n 2, 1) := by decide +kernel
theorem dX10_spoils_66 : decode cX10_spoils 66 = .ok (.invokevirtual 128, 3) := by decide +kernel
theorem dX10_spoils_69 : decode cX10_spoils 69 = .ok (.aload_n 0, 1) := by decide +kernel
theorem dX10_spoils_70 : decode cX10_spoils 70 = .ok (.getfield 7, 3) := by decide +kernel
theorem dX10_spoils_73 : decode cX10_spoils 73 = .ok (.bipush 24, 2) := by decide +kernel
theorem dX10_spoils_75 : decode cX10_spoils 75 = .ok (.iconst 5, 1) := by decide +kernel
theorem dX10_spoils_76 : decode cX10_spoils 76 = .ok (.iload_n 1, 1) := by decide +kernel
theorem dX10_spoils_77 : decode cX10_spoils 77 = .ok (.imul, 1) := by decide +kernel
theorem dX10_spoils_78 : decode cX10_spoils 78 = .ok (.iadd, 1) := by decide +kernel
theorem dX10_spoils_79 : decode cX10_spoils 79 = .ok (.iconst 2, 1) := by decide +kernel
theorem dX10_spoils_80 : decode cX10_spoils 80 = .ok (.iadd, 1) := by decide +kernel
theorem dX10_spoils_81 : decode cX10_spoils 81 = .ok (.iaload, 1) := by decide +kernel
theorem dX10_spoils_82 : decode cX10_spoils 82 = .ok (.iload_n 3, 1) := by decide +kernel
theorem dX10_spoils_83 : decode cX10_spoils 83 = .ok (.isub, 1) := by decide +kernel
theorem dX10_spoils_84 : decode cX10_spoils 84 = .ok (.istore 4, 2) := by decide +kernel
theorem dX10_spoils_86 : decode cX10_spoils 86 = .ok (.aload_n 0, 1) := by decide +kernel
theorem dX10_spoils_87 : decode cX10_spoils 87 = .ok (.getfield 13, 3) := by decide +kernel
theorem dX10_spoils_90 : decode cX10_spoils 90 = .ok (.iconst 0, 1) := by decide +kernel
theorem dX10_spoils_91 : decode cX10_spoils 91 = .ok (.aload_n 0, 1) := by decide +kernel
theorem dX10_spoils_92 : decode cX10_spoils 92 = .ok (.getfield 7, 3) := by decide +kernel
theorem dX10_spoils_95 : decode cX10_spoils 95 = .ok (.iconst 0, 1) := by decide +kernel
theorem dX10_spoils_96 : decode cX10_spoils 96 = .ok (.invokestatic 42, 3) := by decide +kernel
theorem dX10_spoils_99 : decode cX10_spoils 99 = .ok (.iload 4, 2) := by decide +kernel
theorem dX10_spoils_101 : decode cX10_spoils 101 = .ok (.ireturn, 1) := by decide +kernel
theorem dX10_firstShort_0 : decode cX10_firstShort 0 = .ok (.aload_n 0, 1) := by decide +kernel
theorem dX10_firstShort_1 : decode cX10_firstShort 1 = .ok (.getfield 7, 3) := by decide +kernel
theorem dX10_firstShort_4 : decode cX10_firstShort 4 = .ok (.bipush 24, 2) := by decide +kernel
theorem dX10_firstShort_6 : decode cX10_firstShort 6 = .ok (.iconst 5, 1) := by decide +kernel
theorem dX10_firstShort_7 : decode cX10_firstShort 7 = .ok (.iload_n 1, 1) := by decide +kernel
theorem dX10_firstShort_8 : decode cX10_firstShort 8 = .ok (.imul, 1) := by decide +kernel
theorem dX10_firstShort_9 : decode cX10_firstShort 9 = .ok (.iadd, 1) := by decide +kernel
theorem dX10_firstShort_10 : decode cX10_firstShort 10 = .ok (.iconst 4, 1) := by decide +kernel
theorem dX10_firstShort_11 : decode cX10_firstShort 11 = .ok (.iadd, 1) := by decide +kernel
theorem dX10_firstShort_12 : decode cX10_firstShort 12 = .ok (.iaload, 1) := by decide +kernel
theorem dX10_firstShort_13 : decode cX10_firstShort 13 = .ok (.istore_n 3, 1) := by decide +kernel
theorem dX10_firstShort_14 : decode cX10_firstShort 14 = .ok (.iconst (-1), 1) := by decide +kernel
theorem dX10_firstShort_15 : decode cX10_firstShort 15 = .ok (.istore 4, 2) := by decide +kernel
theorem dX10_firstShort_17 : decode cX10_firstShort 17 = .ok (.iconst 0, 1) := by decide +kernel
theorem dX10_firstShort_18 : decode cX10_firstShort 18 = .ok (.istore 5, 2) := by decide +kernel
theorem dX10_firstShort_20 : decode cX10_firstShort 20 = .ok (.iload 5, 2) := by decide +kernel
theorem dX10_firstShort_22 : decode cX10_firstShort 22 = .ok (.iload_n 2, 1) := by decide +kernel
theorem dX10_firstShort_23 : decode cX10_firstShort 23 = .ok (.if_icmp .ge 44, 3) := by decide +kernel
theorem dX10_firstShort_26 : decode cX10_firstShort 26 = .ok (.iload 4, 2) := by decide +kernel
theorem dX10_firstShort_28 : decode cX10_firstShort 28 = .ok (.iconst (-1), 1) := by decide +kernel
theorem dX10_firstShort_29 : decode cX10_firstShort 29 = .ok (.if_icmp .ne 38, 3) := by decide +kernel
theorem dX10_firstShort_32 : decode cX10_firstShort 32 = .ok (.aload_n 0, 1) := by decide +kernel
theorem dX10_firstShort_33 : decode cX10_firstShort 33 = .ok (.invokevirtual 122, 3) := by decide +kernel
theorem dX10_firstShort_36 : decode cX10_firstShort 36 = .ok (.aload_n 0, 1) := by decide +kernel
theorem dX10_firstShort_37 : decode cX10_firstShort 37 = .ok (.getfield 7, 3) := by decide +kernel
theorem dX10_firstShort_40 : decode cX10_firstShort 40 = .ok (.bipush 24, 2) := by decide +kernel
theorem dX10_firstShort_42 : decode cX10_firstShort 42 = .ok (.iconst 5, 1) := by decide +kernel
theorem dX10_firstShort_43 : decode cX10_firstShort 43 = .ok (.iload_n 1, 1) := by decide +kernel
theorem dX10_firstShort_44 : decode cX10_firstShort 44 = .ok (.imul, 1) := by decide +kernel
theorem dX10_firstShort_45 : decode cX10_firstShort 45 = .ok (.iadd, 1) := by decide +kernel
theorem dX10_firstShort_46 : decode cX10_firstShort 46 = .ok (.iconst 4, 1) := by decide +kernel
theorem dX10_firstShort_47 : decode cX10_firstShort 47 = .ok (.iadd, 1) := by decide +kernel
theorem dX10_firstShort_48 : decode cX10_firstShort 48 = .ok (.iaload, 1) := by decide +kernel
theorem dX10_firstShort_49 : decode cX10_firstShort 49 = .ok (.iload_n 3, 1) := by decide +kernel
theorem dX10_firstShort_50 : decode cX10_firstShort 50 = .ok (.if_icmp .le 8, 3) := by decide +kernel
theorem dX10_firstShort_53 : decode cX10_firstShort 53 = .ok (.iload 5, 2) := by decide +kernel
theorem dX10_firstShort_55 : decode cX10_firstShort 55 = .ok (.goto 4, 3) := by decide +kernel
theorem dX10_firstShort_58 : decode cX10_firstShort 58 = .ok (.iconst (-1), 1) := by decide +kernel
theorem dX10_firstShort_59 : decode cX10_firstShort 59 = .ok (.istore 4, 2) := by decide +kernel
theorem dX10_firstShort_61 : decode cX10_firstShort 61 = .ok (.iinc 5 1, 3) := by decide +kernel
theorem dX10_firstShort_64 : decode cX10_firstShort 64 = .ok (.goto (-44), 3) := by decide +kernel
theorem dX10_firstShort_67 : decode cX10_firstShort 67 = .ok (.aload_n 0, 1) := by decide +kernel
theorem dX10_firstShort_68 : decode cX10_firstShort 68 = .ok (.getfield 13, 3) := by decide +kernel
theorem dX10_firstShort_71 : decode cX10_firstShort 71 = .ok (.iconst 0, 1) := by decide +kernel
theorem dX10_firstShort_72 : decode cX10_firstShort 72 = .ok (.aload_n 0, 1) := by decide +kernel
theorem dX10_firstShort_73 : decode cX10_firstShort 73 = .ok (.getfield 7, 3) := by decide +kernel
theorem dX10_firstShort_76 : decode cX10_firstShort 76 = .ok (.iconst 0, 1) := by decide +kernel
theorem dX10_firstShort_77 : decode cX10_firstShort 77 = .ok (.invokestatic 42, 3) := by decide +kernel
theorem dX10_firstShort_80 : decode cX10_firstShort 80 = .ok (.iload 4, 2) := by decide +kernel
theorem dX10_firstShort_82 : decode cX10_firstShort 82 = .ok (.ireturn, 1) := by decide +kernel
theorem dX10_shortNow_0 : decode cX10_shortNow 0 = .ok (.aload_n 0, 1) := by decide +kernel
theorem dX10_shortNow_1 : decode cX10_shortNow 1 = .ok (.getfield 7, 3) := by decide +kernel
theorem dX10_shortNow_4 : decode cX10_shortNow 4 = .ok (.iconst 0, 1) := by decide +kernel
theorem dX10_shortNow_5 : decode cX10_shortNow 5 = .ok (.aload_n 0, 1) := by decide +kernel
theorem dX10_shortNow_6 : decode cX10_shortNow 6 = .ok (.getfield 13, 3) := by decide +kernel
theorem dX10_shortNow_9 : decode cX10_shortNow 9 = .ok (.iconst 0, 1) := by decide +kernel
theorem dX10_shortNow_10 : decode cX10_shortNow 10 = .ok (.invokestatic 42, 3) := by decide +kernel
theorem dX10_shortNow_13 : decode cX10_shortNow 13 = .ok (.aload_n 0, 1) := by decide +kernel
theorem dX10_shortNow_14 : decode cX10_shortNow 14 = .ok (.iload_n 1, 1) := by decide +kernel
theorem dX10_shortNow_15 : decode cX10_shortNow 15 = .ok (.bipush 60, 2) := by decide +kernel
theorem dX10_shortNow_17 : decode cX10_shortNow 17 = .ok (.invokevirtual 189, 3) := by decide +kernel
theorem dX10_shortNow_20 : decode cX10_shortNow 20 = .ok (.ireturn, 1) := by decide +kernel
theorem dX10_shortIn_0 : decode cX10_shortIn 0 = .ok (.aload_n 0, 1) := by decide +kernel
theorem dX10_shortIn_1 : decode cX10_shortIn 1 = .ok (.aload_n 0, 1) := by decide +kernel
theorem dX10_shortIn_2 : decode cX10_shortIn 2 = .ok (.iload_n 1, 1) := by decide +kernel
theorem dX10_shortIn_3 : decode cX10_shortIn 3 = .ok (.invokevirtual 72, 3) := by decide +kernel
theorem dX10_shortIn_6 : decode cX10_shortIn 6 = .ok (.ifCond .eq 7, 3) := by decide +kernel
theorem dX10_shortIn_9 : decode cX10_shortIn 9 = .ok (.iconst 0, 1) := by decide +kernel
theorem dX10_shortIn_10 : decode cX10_shortIn 10 = .ok (.goto 4, 3) := by decide +kernel
theorem dX10_shortIn_13 : decode cX10_shortIn 13 = .ok (.iconst 1, 1) := by decide +kernel
theorem dX10_shortIn_14 : decode cX10_shortIn 14 = .ok (.putfield 31, 3) := by decide +kernel
theorem dX10_shortIn_17 : decode cX10_shortIn 17 = .ok (.aload_n 0, 1) := by decide +kernel
theorem dX10_shortIn_18 : decode cX10_shortIn 18 = .ok (.getfield 31, 3) := by decide +kernel
theorem dX10_shortIn_21 : decode cX10_shortIn 21 = .ok (.ifCond .le 7, 3) := by decide +kernel
theorem dX10_shortIn_24 : decode cX10_shortIn 24 = .ok (.iconst 0, 1) := by decide +kernel
theorem dX10_shortIn_25 : decode cX10_shortIn 25 = .ok (.goto 8, 3) := by decide +kernel
theorem dX10_shortIn_28 : decode cX10_shortIn 28 = .ok (.aload_n 0, 1) := by decide +kernel
theorem dX10_shortIn_29 : decode cX10_shortIn 29 = .ok (.iload_n 1, 1) := by decide +kernel
theorem dX10_shortIn_30 : decode cX10_shortIn 30 = .ok (.invokevirtual 192, 3) := by decide +kernel
theorem dX10_shortIn_33 : decode cX10_shortIn 33 = .ok (.ireturn, 1) := by decide +kernel
theorem dX10_bestNow_0 : decode cX10_bestNow 0 = .ok (.iconst (-1), 1) := by decide +kernel
theorem dX10_bestNow_1 : decode cX10_bestNow 1 = .ok (.istore_n 2, 1) := by decide +kernel
theorem dX10_bestNow_2 : decode cX10_bestNow 2 = .ok (.iconst 0, 1) := by decide +kernel
theorem dX10_bestNow_3 : decode cX10_bestNow 3 = .ok (.istore_n 3, 1) := by decide +kernel
theorem dX10_bestNow_4 : decode cX10_bestNow 4 = .ok (.iconst 0, 1) := by decide +kernel
theorem dX10_bestNow_5 : decode cX10_bestNow 5 = .ok (.istore 4, 2) := by decide +kernel
theorem dX10_bestNow_7 : decode cX10_bestNow 7 = .ok (.iload 4, 2) := by decide +kernel
theorem dX10_bestNow_9 : decode cX10_bestNow 9 = .ok (.iconst 3, 1) := by decide +kernel
theorem dX10_bestNow_10 : decode cX10_bestNow 10 = .ok (.if_icmp .ge 54, 3) := by decide +kernel
theorem dX10_bestNow_13 : decode cX10_bestNow 13 = .ok (.aload_n 0, 1) := by decide +kernel
theorem dX10_bestNow_14 : decode cX10_bestNow 14 = .ok (.iload_n 1, 1) := by decide +kernel
theorem dX10_bestNow_15 : decode cX10_bestNow 15 = .ok (.iload 4, 2) := by decide +kernel
theorem dX10_bestNow_17 : decode cX10_bestNow 17 = .ok (.aload_n 0, 1) := by decide +kernel
theorem dX10_bestNow_18 : decode cX10_bestNow 18 = .ok (.getfield 7, 3) := by decide +kernel
theorem dX10_bestNow_21 : decode cX10_bestNow 21 = .ok (.bipush 67, 2) := by decide +kernel
theorem dX10_bestNow_23 : decode cX10_bestNow 23 = .ok (.iload 4, 2) := by decide +kernel
theorem dX10_bestNow_25 : decode cX10_bestNow 25 = .ok (.iadd, 1) := by decide +kernel
theorem dX10_bestNow_26 : decode cX10_bestNow 26 = .ok (.iaload, 1) := by decide +kernel
theorem dX10_bestNow_27 : decode cX10_bestNow 27 = .ok (.invokevirtual 75, 3) := by decide +kernel
theorem dX10_bestNow_30 : decode cX10_bestNow 30 = .ok (.istore 5, 2) := by decide +kernel
theorem dX10_bestNow_32 : decode cX10_bestNow 32 = .ok (.iload 5, 2) := by decide +kernel
theorem dX10_bestNow_34 : decode cX10_bestNow 34 = .ok (.iload_n 3, 1) := by decide +kernel
theorem dX10_bestNow_35 : decode cX10_bestNow 35 = .ok (.if_icmp .le 8, 3) := by decide +kernel
theorem dX10_bestNow_38 : decode cX10_bestNow 38 = .ok (.iload 4, 2) := by decide +kernel
theorem dX10_bestNow_40 : decode cX10_bestNow 40 = .ok (.goto 4, 3) := by decide +kernel
theorem dX10_bestNow_43 : decode cX10_bestNow 43 = .ok (.iload_n 2, 1) := by decide +kernel
theorem dX10_bestNow_44 : decode cX10_bestNow 44 = .ok (.istore_n 2, 1) := by decide +kernel
theorem dX10_bestNow_45 : decode cX10_bestNow 45 = .ok (.iload 5, 2) := by decide +kernel
theorem dX10_bestNow_47 : decode cX10_bestNow 47 = .ok (.iload_n 3, 1) := by decide +kernel
theorem dX10_bestNow_48 : decode cX10_bestNow 48 = .ok (.if_icmp .le 8, 3) := by decide +kernel
theorem dX10_bestNow_51 : decode cX10_bestNow 51 = .ok (.iload 5, 2) := by decide +kernel
theorem dX10_bestNow_53 : decode cX10_bestNow 53 = .ok (.goto 4, 3) := by decide +kernel
theorem dX10_bestNow_56 : decode cX10_bestNow 56 = .ok (.iload_n 3, 1) := by decide +kernel
theorem dX10_bestNow_57 : decode cX10_bestNow 57 = .ok (.istore_n 3, 1) := by decide +kernel
theorem dX10_bestNow_58 : decode cX10_bestNow 58 = .ok (.iinc 4 1, 3) := by decide +kernel
theorem dX10_bestNow_61 : decode cX10_bestNow 61 = .ok (.goto (-54), 3) := by decide +kernel
theorem dX10_bestNow_64 : decode cX10_bestNow 64 = .ok (.iload_n 2, 1) := by decide +kernel
theorem dX10_bestNow_65 : decode cX10_bestNow 65 = .ok (.ireturn, 1) := by decide +kernel
theorem dX10_bestStore_0 : decode cX10_bestStore 0 = .ok (.aload_n 0, 1) := by decide +kernel
theorem dX10_bestStore_1 : decode cX10_bestStore 1 = .ok (.aload_n 0, 1) := by decide +kernel
theorem dX10_bestStore_2 : decode cX10_bestStore 2 = .ok (.iload_n 1, 1) := by decide +kernel
theorem dX10_bestStore_3 : decode cX10_bestStore 3 = .ok (.invokevirtual 72, 3) := by decide +kernel
theorem dX10_bestStore_6 : decode cX10_bestStore 6 = .ok (.ifCond .eq 7, 3) := by decide +kernel
theorem dX10_bestStore_9 : decode cX10_bestStore 9 = .ok (.iconst 0, 1) := by decide +kernel
theorem dX10_bestStore_10 : decode cX10_bestStore 10 = .ok (.goto 4, 3) := by decide +kernel
theorem dX10_bestStore_13 : decode cX10_bestStore 13 = .ok (.iconst 1, 1) := by decide +kernel
theorem dX10_bestStore_14 : decode cX10_bestStore 14 = .ok (.putfield 31, 3) := by decide +kernel
theorem dX10_bestStore_17 : decode cX10_bestStore 17 = .ok (.aload_n 0, 1) := by decide +kernel
theorem dX10_bestStore_18 : decode cX10_bestStore 18 = .ok (.getfield 31, 3) := by decide +kernel
theorem dX10_bestStore_21 : decode cX10_bestStore 21 = .ok (.ifCond .le 7, 3) := by decide +kernel
theorem dX10_bestStore_24 : decode cX10_bestStore 24 = .ok (.iconst 0, 1) := by decide +kernel
theorem dX10_bestStore_25 : decode cX10_bestStore 25 = .ok (.goto 8, 3) := by decide +kernel
theorem dX10_bestStore_28 : decode cX10_bestStore 28 = .ok (.aload_n 0, 1) := by decide +kernel
theorem dX10_bestStore_29 : decode cX10_bestStore 29 = .ok (.iload_n 1, 1) := by decide +kernel
theorem dX10_bestStore_30 : decode cX10_bestStore 30 = .ok (.invokevirtual 195, 3) := by decide +kernel
theorem dX10_bestStore_33 : decode cX10_bestStore 33 = .ok (.ireturn, 1) := by decide +kernel
theorem dX10_leastPurchase_0 : decode cX10_leastPurchase 0 = .ok (.aload_n 0, 1) := by decide +kernel
theorem dX10_leastPurchase_1 : decode cX10_leastPurchase 1 = .ok (.aload_n 0, 1) := by decide +kernel
theorem dX10_leastPurchase_2 : decode cX10_leastPurchase 2 = .ok (.iload_n 1, 1) := by decide +kernel
theorem dX10_leastPurchase_3 : decode cX10_leastPurchase 3 = .ok (.invokevirtual 72, 3) := by decide +kernel
theorem dX10_leastPurchase_6 : decode cX10_leastPurchase 6 = .ok (.ifCond .eq 14, 3) := by decide +kernel
theorem dX10_leastPurchase_9 : decode cX10_leastPurchase 9 = .ok (.iload_n 2, 1) := by decide +kernel
theorem dX10_leastPurchase_10 : decode cX10_leastPurchase 10 = .ok (.invokestatic 57, 3) := by decide +kernel
theorem dX10_leastPurchase_13 : decode cX10_leastPurchase 13 = .ok (.ifCond .eq 7, 3) := by decide +kernel
theorem dX10_leastPurchase_16 : decode cX10_leastPurchase 16 = .ok (.iconst 0, 1) := by decide +kernel
theorem dX10_leastPurchase_17 : decode cX10_leastPurchase 17 = .ok (.goto 4, 3) := by decide +kernel
theorem dX10_leastPurchase_20 : decode cX10_leastPurchase 20 = .ok (.iconst 1, 1) := by decide +kernel
theorem dX10_leastPurchase_21 : decode cX10_leastPurchase 21 = .ok (.putfield 31, 3) := by decide +kernel
theorem dX10_leastPurchase_24 : decode cX10_leastPurchase 24 = .ok (.aload_n 0, 1) := by decide +kernel
theorem dX10_leastPurchase_25 : decode cX10_leastPurchase 25 = .ok (.getfield 31, 3) := by decide +kernel
theorem dX10_leastPurchase_28 : decode cX10_leastPurchase 28 = .ok (.ifCond .le 5, 3) := by decide +kernel
theorem dX10_leastPurchase_31 : decode cX10_leastPurchase 31 = .ok (.iconst 0, 1) := by decide +kernel
theorem dX10_leastPurchase_32 : decode cX10_leastPurchase 32 = .ok (.ireturn, 1) := by decide +kernel
theorem dX10_leastPurchase_33 : decode cX10_leastPurchase 33 = .ok (.aload_n 0, 1) := by decide +kernel
theorem dX10_leastPurchase_34 : decode cX10_leastPurchase 34 = .ok (.invokevirtual 177, 3) := by decide +kernel
theorem dX10_leastPurchase_37 : decode cX10_leastPurchase 37 = .ok (.istore_n 3, 1) := by decide +kernel
theorem dX10_leastPurchase_38 : decode cX10_leastPurchase 38 = .ok (.iload_n 3, 1) := by decide +kernel
theorem dX10_leastPurchase_39 : decode cX10_leastPurchase 39 = .ok (.iconst (-1), 1) := by decide +kernel
theorem dX10_leastPurchase_40 : decode cX10_leastPurchase 40 = .ok (.if_icmp .eq 30, 3) := by decide +kernel
theorem dX10_leastPurchase_43 : decode cX10_leastPurchase 43 = .ok (.aload_n 0, 1) := by decide +kernel
theorem dX10_leastPurchase_44 : decode cX10_leastPurchase 44 = .ok (.getfield 7, 3) := by decide +kernel
theorem dX10_leastPurchase_47 : decode cX10_leastPurchase 47 = .ok (.sipush 324, 3) := by decide +kernel
theorem dX10_leastPurchase_50 : decode cX10_leastPurchase 50 = .ok (.bipush 10, 2) := by decide +kernel
theorem dX10_leastPurchase_52 : decode cX10_leastPurchase 52 = .ok (.iload_n 3, 1) := by decide +kernel
theorem dX10_leastPurchase_53 : decode cX10_leastPurchase 53 = .ok (.imul, 1) := by decide +kernel
theorem dX10_leastPurchase_54 : decode cX10_leastPurchase 54 = .ok (.iadd, 1) := by decide +kernel
theorem dX10_leastPurchase_55 : decode cX10_leastPurchase 55 = .ok (.iaload, 1) := by decide +kernel
theorem dX10_leastPurchase_56 : decode cX10_leastPurchase 56 = .ok (.aload_n 0, 1) := by decide +kernel
theorem dX10_leastPurchase_57 : decode cX10_leastPurchase 57 = .ok (.getfield 7, 3) := by decide +kernel
theorem dX10_leastPurchase_60 : decode cX10_leastPurchase 60 = .ok (.sipush 404, 3) := by decide +kernel
theorem dX10_leastPurchase_63 : decode cX10_leastPurchase 63 = .ok (.iaload, 1) := by decide +kernel
theorem dX10_leastPurchase_64 : decode cX10_leastPurchase 64 = .ok (.isub, 1) := by decide +kernel
theorem dX10_leastPurchase_65 : decode cX10_leastPurchase 65 = .ok (.bipush 60, 2) := by decide +kernel
theorem dX10_leastPurchase_67 : decode cX10_leastPurchase 67 = .ok (.if_icmp .le 8, 3) := by decide +kernel
theorem dX10_leastPurchase_70 : decode cX10_leastPurchase 70 = .ok (.bipush 60, 2) := by decide +kernel
theorem dX10_leastPurchase_72 : decode cX10_leastPurchase 72 = .ok (.goto 25, 3) := by decide +kernel
theorem dX10_leastPurchase_75 : decode cX10_leastPurchase 75 = .ok (.aload_n 0, 1) := by decide +kernel
theorem dX10_leastPurchase_76 : decode cX10_leastPurchase 76 = .ok (.getfield 7, 3) := by decide +kernel
theorem dX10_leastPurchase_79 : decode cX10_leastPurchase 79 = .ok (.sipush 324, 3) := by decide +kernel
theorem dX10_leastPurchase_82 : decode cX10_leastPurchase 82 = .ok (.bipush 10, 2) := by decide +kernel
theorem dX10_leastPurchase_84 : decode cX10_leastPurchase 84 = .ok (.iload_n 3, 1) := by decide +kernel
theorem dX10_leastPurchase_85 : decode cX10_leastPurchase 85 = .ok (.imul, 1) := by decide +kernel
theorem dX10_leastPurchase_86 : decode cX10_leastPurchase 86 = .ok (.iadd, 1) := by decide +kernel
theorem dX10_leastPurchase_87 : decode cX10_leastPurchase 87 = .ok (.iaload, 1) := by decide +kernel
theorem dX10_leastPurchase_88 : decode cX10_leastPurchase 88 = .ok (.aload_n 0, 1) := by decide +kernel
theorem dX10_leastPurchase_89 : decode cX10_leastPurchase 89 = .ok (.getfield 7, 3) := by decide +kernel
theorem dX10_leastPurchase_92 : decode cX10_leastPurchase 92 = .ok (.sipush 404, 3) := by decide +kernel
theorem dX10_leastPurchase_95 : decode cX10_leastPurchase 95 = .ok (.iaload, 1) := by decide +kernel
theorem dX10_leastPurchase_96 : decode cX10_leastPurchase 96 = .ok (.isub, 1) := by decide +kernel
theorem dX10_leastPurchase_97 : decode cX10_leastPurchase 97 = .ok (.istore 4, 2) := by decide +kernel
theorem dX10_leastPurchase_99 : decode cX10_leastPurchase 99 = .ok (.aload_n 0, 1) := by decide +kernel
theorem dX10_leastPurchase_100 : decode cX10_leastPurchase 100 = .ok (.getfield 7, 3) := by decide +kernel
theorem dX10_leastPurchase_103 : decode cX10_leastPurchase 103 = .ok (.iconst 0, 1) := by decide +kernel
theorem dX10_leastPurchase_104 : decode cX10_leastPurchase 104 = .ok (.aload_n 0, 1) := by decide +kernel
theorem dX10_leastPurchase_105 : decode cX10_leastPurchase 105 = .ok (.getfield 13, 3) := by decide +kernel
theorem dX10_leastPurchase_108 : decode cX10_leastPurchase 108 = .ok (.iconst 0, 1) := by decide +kernel
theorem dX10_leastPurchase_109 : decode cX10_leastPurchase 109 = .ok (.invokestatic 42, 3) := by decide +kernel
theorem dX10_leastPurchase_112 : decode cX10_leastPurchase 112 = .ok (.iconst 0, 1) := by decide +kernel
theorem dX10_leastPurchase_113 : decode cX10_leastPurchase 113 = .ok (.istore 5, 2) := by decide +kernel
theorem dX10_leastPurchase_115 : decode cX10_leastPurchase 115 = .ok (.iload 5, 2) := by decide +kernel
theorem dX10_leastPurchase_117 : decode cX10_leastPurchase 117 = .ok (.sipush 1000, 3) := by decide +kernel
theorem dX10_leastPurchase_120 : decode cX10_leastPurchase 120 = .ok (.if_icmp .gt 37, 3) := by decide +kernel
theorem dX10_leastPurchase_123 : decode cX10_leastPurchase 123 = .ok (.iload 5, 2) := by decide +kernel
theorem dX10_leastPurchase_125 : decode cX10_leastPurchase 125 = .ok (.ifCond .le 12, 3) := by decide +kernel
theorem dX10_leastPurchase_128 : decode cX10_leastPurchase 128 = .ok (.aload_n 0, 1) := by decide +kernel
theorem dX10_leastPurchase_129 : decode cX10_leastPurchase 129 = .ok (.iload_n 1, 1) := by decide +kernel
theorem dX10_leastPurchase_130 : decode cX10_leastPurchase 130 = .ok (.iload_n 2, 1) := by decide +kernel
theorem dX10_leastPurchase_131 : decode cX10_leastPurchase 131 = .ok (.iload 5, 2) := by decide +kernel
theorem dX10_leastPurchase_133 : decode cX10_leastPurchase 133 = .ok (.iconst 0, 1) := by decide +kernel
theorem dX10_leastPurchase_134 : decode cX10_leastPurchase 134 = .ok (.invokevirtual 92, 3) := by decide +kernel
theorem dX10_leastPurchase_137 : decode cX10_leastPurchase 137 = .ok (.aload_n 0, 1) := by decide +kernel
theorem dX10_leastPurchase_138 : decode cX10_leastPurchase 138 = .ok (.iload_n 1, 1) := by decide +kernel
theorem dX10_leastPurchase_139 : decode cX10_leastPurchase 139 = .ok (.iload 4, 2) := by decide +kernel
theorem dX10_leastPurchase_141 : decode cX10_leastPurchase 141 = .ok (.invokevirtual 189, 3) := by decide +kernel
theorem dX10_leastPurchase_144 : decode cX10_leastPurchase 144 = .ok (.iconst (-1), 1) := by decide +kernel
theorem dX10_leastPurchase_145 : decode cX10_leastPurchase 145 = .ok (.if_icmp .ne 6, 3) := by decide +kernel
theorem dX10_leastPurchase_148 : decode cX10_leastPurchase 148 = .ok (.iload 5, 2) := by decide +kernel
theorem dX10_leastPurchase_150 : decode cX10_leastPurchase 150 = .ok (.ireturn, 1) := by decide +kernel
theorem dX10_leastPurchase_151 : decode cX10_leastPurchase 151 = .ok (.iinc 5 10, 3) := by decide +kernel
theorem dX10_leastPurchase_154 : decode cX10_leastPurchase 154 = .ok (.goto (-39), 3) := by decide +kernel
theorem dX10_leastPurchase_157 : decode cX10_leastPurchase 157 = .ok (.iconst (-1), 1) := by decide +kernel
theorem dX10_leastPurchase_158 : decode cX10_leastPurchase 158 = .ok (.ireturn, 1) := by decide +kernel
theorem dX10_cheapest_0 : decode cX10_cheapest 0 = .ok (.aload_n 0, 1) := by decide +kernel
theorem dX10_cheapest_1 : decode cX10_cheapest 1 = .ok (.aload_n 0, 1) := by decide +kernel
theorem dX10_cheapest_2 : decode cX10_cheapest 2 = .ok (.iload_n 1, 1) := by decide +kernel
theorem dX10_cheapest_3 : decode cX10_cheapest 3 = .ok (.invokevirtual 72, 3) := by decide +kernel
theorem dX10_cheapest_6 : decode cX10_cheapest 6 = .ok (.ifCond .eq 7, 3) := by decide +kernel
theorem dX10_cheapest_9 : decode cX10_cheapest 9 = .ok (.iconst 0, 1) := by decide +kernel
theorem dX10_cheapest_10 : decode cX10_cheapest 10 = .ok (.goto 4, 3) := by decide +kernel
theorem dX10_cheapest_13 : decode cX10_cheapest 13 = .ok (.iconst 1, 1) := by decide +kernel
theorem dX10_cheapest_14 : decode cX10_cheapest 14 = .ok (.putfield 31, 3) := by decide +kernel
theorem dX10_cheapest_17 : decode cX10_cheapest 17 = .ok (.aload_n 0, 1) := by decide +kernel
theorem dX10_cheapest_18 : decode cX10_cheapest 18 = .ok (.getfield 31, 3) := by decide +kernel
theorem dX10_cheapest_21 : decode cX10_cheapest 21 = .ok (.ifCond .le 5, 3) := by decide +kernel
theorem dX10_cheapest_24 : decode cX10_cheapest 24 = .ok (.iconst 0, 1) := by decide +kernel
theorem dX10_cheapest_25 : decode cX10_cheapest 25 = .ok (.ireturn, 1) := by decide +kernel
theorem dX10_cheapest_26 : decode cX10_cheapest 26 = .ok (.iconst (-1), 1) := by decide +kernel
theorem dX10_cheapest_27 : decode cX10_cheapest 27 = .ok (.istore_n 2, 1) := by decide +kernel
theorem dX10_cheapest_28 : decode cX10_cheapest 28 = .ok (.iconst 0, 1) := by decide +kernel
theorem dX10_cheapest_29 : decode cX10_cheapest 29 = .ok (.istore_n 3, 1) := by decide +kernel
theorem dX10_cheapest_30 : decode cX10_cheapest 30 = .ok (.iload_n 3, 1) := by decide +kernel
theorem dX10_cheapest_31 : decode cX10_cheapest 31 = .ok (.aload_n 0, 1) := by decide +kernel
theorem dX10_cheapest_32 : decode cX10_cheapest 32 = .ok (.getfield 7, 3) := by decide +kernel
theorem dX10_cheapest_35 : decode cX10_cheapest 35 = .ok (.sipush 407, 3) := by decide +kernel
theorem dX10_cheapest_38 : decode cX10_cheapest 38 = .ok (.iaload, 1) := by decide +kernel
theorem dX10_cheapest_39 : decode cX10_cheapest 39 = .ok (.if_icmp .ge 102, 3) := by decide +kernel
theorem dX10_cheapest_42 : decode cX10_cheapest 42 = .ok (.aload_n 0, 1) := by decide +kernel
theorem dX10_cheapest_43 : decode cX10_cheapest 43 = .ok (.getfield 7, 3) := by decide +kernel
theorem dX10_cheapest_46 : decode cX10_cheapest 46 = .ok (.sipush 324, 3) := by decide +kernel
theorem dX10_cheapest_49 : decode cX10_cheapest 49 = .ok (.bipush 10, 2) := by decide +kernel
theorem dX10_cheapest_51 : decode cX10_cheapest 51 = .ok (.iload_n 3, 1) := by decide +kernel
theorem dX10_cheapest_52 : decode cX10_cheapest 52 = .ok (.imul, 1) := by decide +kernel
theorem dX10_cheapest_53 : decode cX10_cheapest 53 = .ok (.iadd, 1) := by decide +kernel
theorem dX10_cheapest_54 : decode cX10_cheapest 54 = .ok (.iconst 2, 1) := by decide +kernel
theorem dX10_cheapest_55 : decode cX10_cheapest 55 = .ok (.iadd, 1) := by decide +kernel
theorem dX10_cheapest_56 : decode cX10_cheapest 56 = .ok (.iload_n 1, 1) := by decide +kernel
theorem dX10_cheapest_57 : decode cX10_cheapest 57 = .ok (.iadd, 1) := by decide +kernel
theorem dX10_cheapest_58 : decode cX10_cheapest 58 = .ok (.iaload, 1) := by decide +kernel
theorem dX10_cheapest_59 : decode cX10_cheapest 59 = .ok (.istore 4, 2) := by decide +kernel
theorem dX10_cheapest_61 : decode cX10_cheapest 61 = .ok (.iload 4, 2) := by decide +kernel
theorem dX10_cheapest_63 : decode cX10_cheapest 63 = .ok (.ifCond .le 31, 3) := by decide +kernel
theorem dX10_cheapest_66 : decode cX10_cheapest 66 = .ok (.aload_n 0, 1) := by decide +kernel
theorem dX10_cheapest_67 : decode cX10_cheapest 67 = .ok (.getfield 7, 3) := by decide +kernel
theorem dX10_cheapest_70 : decode cX10_cheapest 70 = .ok (.sipush 324, 3) := by decide +kernel
theorem dX10_cheapest_73 : decode cX10_cheapest 73 = .ok (.bipush 10, 2) := by decide +kernel
theorem dX10_cheapest_75 : decode cX10_cheapest 75 = .ok (.iload_n 3, 1) := by decide +kernel
theorem dX10_cheapest_76 : decode cX10_cheapest 76 = .ok (.imul, 1) := by decide +kernel
theorem dX10_cheapest_77 : decode cX10_cheapest 77 = .ok (.iadd, 1) := by decide +kernel
theorem dX10_cheapest_78 : decode cX10_cheapest 78 = .ok (.iaload, 1) := by decide +kernel
theorem dX10_cheapest_79 : decode cX10_cheapest 79 = .ok (.aload_n 0, 1) := by decide +kernel
theorem dX10_cheapest_80 : decode cX10_cheapest 80 = .ok (.getfield 7, 3) := by decide +kernel
theorem dX10_cheapest_83 : decode cX10_cheapest 83 = .ok (.sipush 404, 3) := by decide +kernel
theorem dX10_cheapest_86 : decode cX10_cheapest 86 = .ok (.iaload, 1) := by decide +kernel
theorem dX10_cheapest_87 : decode cX10_cheapest 87 = .ok (.if_icmp .lt 7, 3) := by decide +kernel
theorem dX10_cheapest_90 : decode cX10_cheapest 90 = .ok (.iconst 1, 1) := by decide +kernel
theorem dX10_cheapest_91 : decode cX10_cheapest 91 = .ok (.goto 4, 3) := by decide +kernel
theorem dX10_cheapest_94 : decode cX10_cheapest 94 = .ok (.iconst 0, 1) := by decide +kernel
theorem dX10_cheapest_95 : decode cX10_cheapest 95 = .ok (.istore 5, 2) := by decide +kernel
theorem dX10_cheapest_97 : decode cX10_cheapest 97 = .ok (.iload 5, 2) := by decide +kernel
theorem dX10_cheapest_99 : decode cX10_cheapest 99 = .ok (.ifCond .eq 34, 3) := by decide +kernel
theorem dX10_cheapest_102 : decode cX10_cheapest 102 = .ok (.iload_n 2, 1) := by decide +kernel
theorem dX10_cheapest_103 : decode cX10_cheapest 103 = .ok (.iconst (-1), 1) := by decide +kernel
theorem dX10_cheapest_104 : decode cX10_cheapest 104 = .ok (.if_icmp .eq 25, 3) := by decide +kernel
theorem dX10_cheapest_107 : decode cX10_cheapest 107 = .ok (.iload 4, 2) := by decide +kernel
theorem dX10_cheapest_109 : decode cX10_cheapest 109 = .ok (.aload_n 0, 1) := by decide +kernel
theorem dX10_cheapest_110 : decode cX10_cheapest 110 = .ok (.getfield 7, 3) := by decide +kernel
theorem dX10_cheapest_113 : decode cX10_cheapest 113 = .ok (.sipush 324, 3) := by decide +kernel
theorem dX10_cheapest_116 : decode cX10_cheapest 116 = .ok (.bipush 10, 2) := by decide +kernel
theorem dX10_cheapest_118 : decode cX10_cheapest 118 = .ok (.iload_n 2, 1) := by decide +kernel
theorem dX10_cheapest_119 : decode cX10_cheapest 119 = .ok (.imul, 1) := by decide +kernel
theorem dX10_cheapest_120 : decode cX10_cheapest 120 = .ok (.iadd, 1) := by decide +kernel
theorem dX10_cheapest_121 : decode cX10_cheapest 121 = .ok (.iconst 2, 1) := by decide +kernel
theorem dX10_cheapest_122 : decode cX10_cheapest 122 = .ok (.iadd, 1) := by decide +kernel
theorem dX10_cheapest_123 : decode cX10_cheapest 123 = .ok (.iload_n 1, 1) := by decide +kernel
theorem dX10_cheapest_124 : decode cX10_cheapest 124 = .ok (.iadd, 1) := by decide +kernel
theorem dX10_cheapest_125 : decode cX10_cheapest 125 = .ok (.iaload, 1) := by decide +kernel
theorem dX10_cheapest_126 : decode cX10_cheapest 126 = .ok (.if_icmp .ge 7, 3) := by decide +kernel
theorem dX10_cheapest_129 : decode cX10_cheapest 129 = .ok (.iload_n 3, 1) := by decide +kernel
theorem dX10_cheapest_130 : decode cX10_cheapest 130 = .ok (.goto 4, 3) := by decide +kernel
theorem dX10_cheapest_133 : decode cX10_cheapest 133 = .ok (.iload_n 2, 1) := by decide +kernel
theorem dX10_cheapest_134 : decode cX10_cheapest 134 = .ok (.istore_n 2, 1) := by decide +kernel
theorem dX10_cheapest_135 : decode cX10_cheapest 135 = .ok (.iinc 3 1, 3) := by decide +kernel
theorem dX10_cheapest_138 : decode cX10_cheapest 138 = .ok (.goto (-108), 3) := by decide +kernel
theorem dX10_cheapest_141 : decode cX10_cheapest 141 = .ok (.iload_n 2, 1) := by decide +kernel
theorem dX10_cheapest_142 : decode cX10_cheapest 142 = .ok (.ireturn, 1) := by decide +kernel
theorem dX10_meanNow_0 : decode cX10_meanNow 0 = .ok (.iconst 0, 1) := by decide +kernel
theorem dX10_meanNow_1 : decode cX10_meanNow 1 = .ok (.istore_n 1, 1) := by decide +kernel
theorem dX10_meanNow_2 : decode cX10_meanNow 2 = .ok (.iconst 0, 1) := by decide +kernel
theorem dX10_meanNow_3 : decode cX10_meanNow 3 = .ok (.istore_n 2, 1) := by decide +kernel
theorem dX10_meanNow_4 : decode cX10_meanNow 4 = .ok (.iload_n 2, 1) := by decide +kernel
theorem dX10_meanNow_5 : decode cX10_meanNow 5 = .ok (.aload_n 0, 1) := by decide +kernel
theorem dX10_meanNow_6 : decode cX10_meanNow 6 = .ok (.getfield 7, 3) := by decide +kernel
theorem dX10_meanNow_9 : decode cX10_meanNow 9 = .ok (.sipush 406, 3) := by decide +kernel
theorem dX10_meanNow_12 : decode cX10_meanNow 12 = .ok (.iaload, 1) := by decide +kernel
theorem dX10_meanNow_13 : decode cX10_meanNow 13 = .ok (.if_icmp .ge 25, 3) := by decide +kernel
theorem dX10_meanNow_16 : decode cX10_meanNow 16 = .ok (.iload_n 1, 1) := by decide +kernel
theorem dX10_meanNow_17 : decode cX10_meanNow 17 = .ok (.aload_n 0, 1) := by decide +kernel
theorem dX10_meanNow_18 : decode cX10_meanNow 18 = .ok (.iload_n 2, 1) := by decide +kernel
theorem dX10_meanNow_19 : decode cX10_meanNow 19 = .ok (.iconst 3, 1) := by decide +kernel
theorem dX10_meanNow_20 : decode cX10_meanNow 20 = .ok (.invokevirtual 53, 3) := by decide +kernel
theorem dX10_meanNow_23 : decode cX10_meanNow 23 = .ok (.aload_n 0, 1) := by decide +kernel
theorem dX10_meanNow_24 : decode cX10_meanNow 24 = .ok (.iload_n 2, 1) := by decide +kernel
theorem dX10_meanNow_25 : decode cX10_meanNow 25 = .ok (.iconst 2, 1) := by decide +kernel
theorem dX10_meanNow_26 : decode cX10_meanNow 26 = .ok (.invokevirtual 53, 3) := by decide +kernel
theorem dX10_meanNow_29 : decode cX10_meanNow 29 = .ok (.imul, 1) := by decide +kernel
theorem dX10_meanNow_30 : decode cX10_meanNow 30 = .ok (.iadd, 1) := by decide +kernel
theorem dX10_meanNow_31 : decode cX10_meanNow 31 = .ok (.istore_n 1, 1) := by decide +kernel
theorem dX10_meanNow_32 : decode cX10_meanNow 32 = .ok (.iinc 2 1, 3) := by decide +kernel
theorem dX10_meanNow_35 : decode cX10_meanNow 35 = .ok (.goto (-31), 3) := by decide +kernel
theorem dX10_meanNow_38 : decode cX10_meanNow 38 = .ok (.aload_n 0, 1) := by decide +kernel
theorem dX10_meanNow_39 : decode cX10_meanNow 39 = .ok (.invokevirtual 102, 3) := by decide +kernel
theorem dX10_meanNow_42 : decode cX10_meanNow 42 = .ok (.ifCond .ne 7, 3) := by decide +kernel
theorem dX10_meanNow_45 : decode cX10_meanNow 45 = .ok (.dconst 0, 1) := by decide +kernel
theorem dX10_meanNow_46 : decode cX10_meanNow 46 = .ok (.goto 11, 3) := by decide +kernel
theorem dX10_meanNow_49 : decode cX10_meanNow 49 = .ok (.iload_n 1, 1) := by decide +kernel
theorem dX10_meanNow_50 : decode cX10_meanNow 50 = .ok (.i2d, 1) := by decide +kernel
theorem dX10_meanNow_51 : decode cX10_meanNow 51 = .ok (.aload_n 0, 1) := by decide +kernel
theorem dX10_meanNow_52 : decode cX10_meanNow 52 = .ok (.invokevirtual 102, 3) := by decide +kernel
theorem dX10_meanNow_55 : decode cX10_meanNow 55 = .ok (.i2d, 1) := by decide +kernel
theorem dX10_meanNow_56 : decode cX10_meanNow 56 = .ok (.ddiv, 1) := by decide +kernel
theorem dX10_meanNow_57 : decode cX10_meanNow 57 = .ok (.dreturn, 1) := by decide +kernel
theorem dX10_meanAge_0 : decode cX10_meanAge 0 = .ok (.aload_n 0, 1) := by decide +kernel
theorem dX10_meanAge_1 : decode cX10_meanAge 1 = .ok (.iconst 0, 1) := by decide +kernel
theorem dX10_meanAge_2 : decode cX10_meanAge 2 = .ok (.putfield 31, 3) := by decide +kernel
theorem dX10_meanAge_5 : decode cX10_meanAge 5 = .ok (.aload_n 0, 1) := by decide +kernel
theorem dX10_meanAge_6 : decode cX10_meanAge 6 = .ok (.invokevirtual 198, 3) := by decide +kernel
theorem dX10_meanAge_9 : decode cX10_meanAge 9 = .ok (.dreturn, 1) := by decide +kernel
theorem dX10_mix_0 : decode cX10_mix 0 = .ok (.aload_n 0, 1) := by decide +kernel
theorem dX10_mix_1 : decode cX10_mix 1 = .ok (.ldc2_w 202, 3) := by decide +kernel
theorem dX10_mix_4 : decode cX10_mix 4 = .ok (.aload_n 0, 1) := by decide +kernel
theorem dX10_mix_5 : decode cX10_mix 5 = .ok (.getfield 204, 3) := by decide +kernel
theorem dX10_mix_8 : decode cX10_mix 8 = .ok (.lmul, 1) := by decide +kernel
theorem dX10_mix_9 : decode cX10_mix 9 = .ok (.lload_n 1, 1) := by decide +kernel
theorem dX10_mix_10 : decode cX10_mix 10 = .ok (.ladd, 1) := by decide +kernel
theorem dX10_mix_11 : decode cX10_mix 11 = .ok (.putfield 204, 3) := by decide +kernel
theorem dX10_mix_14 : decode cX10_mix 14 = .ok (.return_, 1) := by decide +kernel
theorem dX10_mixKinds_0 : decode cX10_mixKinds 0 = .ok (.iconst 0, 1) := by decide +kernel
theorem dX10_mixKinds_1 : decode cX10_mixKinds 1 = .ok (.istore_n 1, 1) := by decide +kernel
theorem dX10_mixKinds_2 : decode cX10_mixKinds 2 = .ok (.iload_n 1, 1) := by decide +kernel
theorem dX10_mixKinds_3 : decode cX10_mixKinds 3 = .ok (.aload_n 0, 1) := by decide +kernel
theorem dX10_mixKinds_4 : decode cX10_mixKinds 4 = .ok (.getfield 7, 3) := by decide +kernel
theorem dX10_mixKinds_7 : decode cX10_mixKinds 7 = .ok (.sipush 405, 3) := by decide +kernel
theorem dX10_mixKinds_10 : decode cX10_mixKinds 10 = .ok (.iaload, 1) := by decide +kernel
theorem dX10_mixKinds_11 : decode cX10_mixKinds 11 = .ok (.if_icmp .ge 54, 3) := by decide +kernel
theorem dX10_mixKinds_14 : decode cX10_mixKinds 14 = .ok (.iconst 0, 1) := by decide +kernel
theorem dX10_mixKinds_15 : decode cX10_mixKinds 15 = .ok (.istore_n 2, 1) := by decide +kernel
theorem dX10_mixKinds_16 : decode cX10_mixKinds 16 = .ok (.iload_n 2, 1) := by decide +kernel
theorem dX10_mixKinds_17 : decode cX10_mixKinds 17 = .ok (.bipush 10, 2) := by decide +kernel
theorem dX10_mixKinds_19 : decode cX10_mixKinds 19 = .ok (.if_icmp .ge 20, 3) := by decide +kernel
theorem dX10_mixKinds_22 : decode cX10_mixKinds 22 = .ok (.aload_n 0, 1) := by decide +kernel
theorem dX10_mixKinds_23 : decode cX10_mixKinds 23 = .ok (.aload_n 0, 1) := by decide +kernel
theorem dX10_mixKinds_24 : decode cX10_mixKinds 24 = .ok (.iload_n 1, 1) := by decide +kernel
theorem dX10_mixKinds_25 : decode cX10_mixKinds 25 = .ok (.iload_n 2, 1) := by decide +kernel
theorem dX10_mixKinds_26 : decode cX10_mixKinds 26 = .ok (.invokevirtual 171, 3) := by decide +kernel
theorem dX10_mixKinds_29 : decode cX10_mixKinds 29 = .ok (.i2l, 1) := by decide +kernel
theorem dX10_mixKinds_30 : decode cX10_mixKinds 30 = .ok (.invokevirtual 208, 3) := by decide +kernel
theorem dX10_mixKinds_33 : decode cX10_mixKinds 33 = .ok (.iinc 2 1, 3) := by decide +kernel
theorem dX10_mixKinds_36 : decode cX10_mixKinds 36 = .ok (.goto (-20), 3) := by decide +kernel
theorem dX10_mixKinds_39 : decode cX10_mixKinds 39 = .ok (.aload_n 0, 1) := by decide +kernel
theorem dX10_mixKinds_40 : decode cX10_mixKinds 40 = .ok (.aload_n 0, 1) := by decide +kernel
theorem dX10_mixKinds_41 : decode cX10_mixKinds 41 = .ok (.iload_n 1, 1) := by decide +kernel
theorem dX10_mixKinds_42 : decode cX10_mixKinds 42 = .ok (.invokevirtual 192, 3) := by decide +kernel
theorem dX10_mixKinds_45 : decode cX10_mixKinds 45 = .ok (.i2l, 1) := by decide +kernel
theorem dX10_mixKinds_46 : decode cX10_mixKinds 46 = .ok (.invokevirtual 208, 3) := by decide +kernel
theorem dX10_mixKinds_49 : decode cX10_mixKinds 49 = .ok (.aload_n 0, 1) := by decide +kernel
theorem dX10_mixKinds_50 : decode cX10_mixKinds 50 = .ok (.aload_n 0, 1) := by decide +kernel
theorem dX10_mixKinds_51 : decode cX10_mixKinds 51 = .ok (.iload_n 1, 1) := by decide +kernel
theorem dX10_mixKinds_52 : decode cX10_mixKinds 52 = .ok (.invokevirtual 195, 3) := by decide +kernel
theorem dX10_mixKinds_55 : decode cX10_mixKinds 55 = .ok (.i2l, 1) := by decide +kernel
theorem dX10_mixKinds_56 : decode cX10_mixKinds 56 = .ok (.invokevirtual 208, 3) := by decide +kernel
theorem dX10_mixKinds_59 : decode cX10_mixKinds 59 = .ok (.iinc 1 1, 3) := by decide +kernel
theorem dX10_mixKinds_62 : decode cX10_mixKinds 62 = .ok (.goto (-60), 3) := by decide +kernel
theorem dX10_mixKinds_65 : decode cX10_mixKinds 65 = .ok (.return_, 1) := by decide +kernel
theorem dX10_mixPorts_0 : decode cX10_mixPorts 0 = .ok (.iconst 0, 1) := by decide +kernel
theorem dX10_mixPorts_1 : decode cX10_mixPorts 1 = .ok (.istore_n 1, 1) := by decide +kernel
theorem dX10_mixPorts_2 : decode cX10_mixPorts 2 = .ok (.iload_n 1, 1) := by decide +kernel
theorem dX10_mixPorts_3 : decode cX10_mixPorts 3 = .ok (.aload_n 0, 1) := by decide +kernel
theorem dX10_mixPorts_4 : decode cX10_mixPorts 4 = .ok (.getfield 7, 3) := by decide +kernel
theorem dX10_mixPorts_7 : decode cX10_mixPorts 7 = .ok (.sipush 407, 3) := by decide +kernel
theorem dX10_mixPorts_10 : decode cX10_mixPorts 10 = .ok (.iaload, 1) := by decide +kernel
theorem dX10_mixPorts_11 : decode cX10_mixPorts 11 = .ok (.if_icmp .ge 51, 3) := by decide +kernel
theorem dX10_mixPorts_14 : decode cX10_mixPorts 14 = .ok (.iconst 0, 1) := by decide +kernel
theorem dX10_mixPorts_15 : decode cX10_mixPorts 15 = .ok (.istore_n 2, 1) := by decide +kernel
theorem dX10_mixPorts_16 : decode cX10_mixPorts 16 = .ok (.iload_n 2, 1) := by decide +kernel
theorem dX10_mixPorts_17 : decode cX10_mixPorts 17 = .ok (.iconst 2, 1) := by decide +kernel
theorem dX10_mixPorts_18 : decode cX10_mixPorts 18 = .ok (.aload_n 0, 1) := by decide +kernel
theorem dX10_mixPorts_19 : decode cX10_mixPorts 19 = .ok (.getfield 7, 3) := by decide +kernel
theorem dX10_mixPorts_22 : decode cX10_mixPorts 22 = .ok (.sipush 405, 3) := by decide +kernel
theorem dX10_mixPorts_25 : decode cX10_mixPorts 25 = .ok (.iaload, 1) := by decide +kernel
theorem dX10_mixPorts_26 : decode cX10_mixPorts 26 = .ok (.iadd, 1) := by decide +kernel
theorem dX10_mixPorts_27 : decode cX10_mixPorts 27 = .ok (.if_icmp .ge 29, 3) := by decide +kernel
theorem dX10_mixPorts_30 : decode cX10_mixPorts 30 = .ok (.aload_n 0, 1) := by decide +kernel
theorem dX10_mixPorts_31 : decode cX10_mixPorts 31 = .ok (.aload_n 0, 1) := by decide +kernel
theorem dX10_mixPorts_32 : decode cX10_mixPorts 32 = .ok (.getfield 7, 3) := by decide +kernel
theorem dX10_mixPorts_35 : decode cX10_mixPorts 35 = .ok (.sipush 324, 3) := by decide +kernel
theorem dX10_mixPorts_38 : decode cX10_mixPorts 38 = .ok (.bipush 10, 2) := by decide +kernel
theorem dX10_mixPorts_40 : decode cX10_mixPorts 40 = .ok (.iload_n 1, 1) := by decide +kernel
theorem dX10_mixPorts_41 : decode cX10_mixPorts 41 = .ok (.imul, 1) := by decide +kernel
theorem dX10_mixPorts_42 : decode cX10_mixPorts 42 = .ok (.iadd, 1) := by decide +kernel
theorem dX10_mixPorts_43 : decode cX10_mixPorts 43 = .ok (.iload_n 2, 1) := by decide +kernel
theorem dX10_mixPorts_44 : decode cX10_mixPorts 44 = .ok (.iadd, 1) := by decide +kernel
theorem dX10_mixPorts_45 : decode cX10_mixPorts 45 = .ok (.iaload, 1) := by decide +kernel
theorem dX10_mixPorts_46 : decode cX10_mixPorts 46 = .ok (.i2l, 1) := by decide +kernel
theorem dX10_mixPorts_47 : decode cX10_mixPorts 47 = .ok (.invokevirtual 208, 3) := by decide +kernel
theorem dX10_mixPorts_50 : decode cX10_mixPorts 50 = .ok (.iinc 2 1, 3) := by decide +kernel
theorem dX10_mixPorts_53 : decode cX10_mixPorts 53 = .ok (.goto (-37), 3) := by decide +kernel
theorem dX10_mixPorts_56 : decode cX10_mixPorts 56 = .ok (.iinc 1 1, 3) := by decide +kernel
theorem dX10_mixPorts_59 : decode cX10_mixPorts 59 = .ok (.goto (-57), 3) := by decide +kernel
theorem dX10_mixPorts_62 : decode cX10_mixPorts 62 = .ok (.return_, 1) := by decide +kernel
theorem dX10_digest_0 : decode cX10_digest 0 = .ok (.aload_n 0, 1) := by decide +kernel
theorem dX10_digest_1 : decode cX10_digest 1 = .ok (.iconst 0, 1) := by decide +kernel
theorem dX10_digest_2 : decode cX10_digest 2 = .ok (.putfield 31, 3) := by decide +kernel
theorem dX10_digest_5 : decode cX10_digest 5 = .ok (.aload_n 0, 1) := by decide +kernel
theorem dX10_digest_6 : decode cX10_digest 6 = .ok (.ldc2_w 212, 3) := by decide +kernel
theorem dX10_digest_9 : decode cX10_digest 9 = .ok (.putfield 204, 3) := by decide +kernel
theorem dX10_digest_12 : decode cX10_digest 12 = .ok (.iconst 0, 1) := by decide +kernel
theorem dX10_digest_13 : decode cX10_digest 13 = .ok (.istore_n 1, 1) := by decide +kernel
theorem dX10_digest_14 : decode cX10_digest 14 = .ok (.iload_n 1, 1) := by decide +kernel
theorem dX10_digest_15 : decode cX10_digest 15 = .ok (.bipush 13, 2) := by decide +kernel
theorem dX10_digest_17 : decode cX10_digest 17 = .ok (.if_icmp .ge 19, 3) := by decide +kernel
theorem dX10_digest_20 : decode cX10_digest 20 = .ok (.aload_n 0, 1) := by decide +kernel
theorem dX10_digest_21 : decode cX10_digest 21 = .ok (.aload_n 0, 1) := by decide +kernel
theorem dX10_digest_22 : decode cX10_digest 22 = .ok (.iload_n 1, 1) := by decide +kernel
theorem dX10_digest_23 : decode cX10_digest 23 = .ok (.invokevirtual 180, 3) := by decide +kernel
theorem dX10_digest_26 : decode cX10_digest 26 = .ok (.i2l, 1) := by decide +kernel
theorem dX10_digest_27 : decode cX10_digest 27 = .ok (.invokevirtual 208, 3) := by decide +kernel
theorem dX10_digest_30 : decode cX10_digest 30 = .ok (.iinc 1 1, 3) := by decide +kernel
theorem dX10_digest_33 : decode cX10_digest 33 = .ok (.goto (-19), 3) := by decide +kernel
theorem dX10_digest_36 : decode cX10_digest 36 = .ok (.iconst 0, 1) := by decide +kernel
theorem dX10_digest_37 : decode cX10_digest 37 = .ok (.istore_n 1, 1) := by decide +kernel
theorem dX10_digest_38 : decode cX10_digest 38 = .ok (.iload_n 1, 1) := by decide +kernel
theorem dX10_digest_39 : decode cX10_digest 39 = .ok (.bipush 6, 2) := by decide +kernel
theorem dX10_digest_41 : decode cX10_digest 41 = .ok (.aload_n 0, 1) := by decide +kernel
theorem dX10_digest_42 : decode cX10_digest 42 = .ok (.getfield 7, 3) := by decide +kernel
theorem dX10_digest_45 : decode cX10_digest 45 = .ok (.sipush 406, 3) := by decide +kernel
theorem dX10_digest_48 : decode cX10_digest 48 = .ok (.iaload, 1) := by decide +kernel
theorem dX10_digest_49 : decode cX10_digest 49 = .ok (.imul, 1) := by decide +kernel
theorem dX10_digest_50 : decode cX10_digest 50 = .ok (.if_icmp .ge 26, 3) := by decide +kernel
theorem dX10_digest_53 : decode cX10_digest 53 = .ok (.aload_n 0, 1) := by decide +kernel
theorem dX10_digest_54 : decode cX10_digest 54 = .ok (.aload_n 0, 1) := by decide +kernel
theorem dX10_digest_55 : decode cX10_digest 55 = .ok (.iload_n 1, 1) := by decide +kernel
theorem dX10_digest_56 : decode cX10_digest 56 = .ok (.bipush 6, 2) := by decide +kernel
theorem dX10_digest_58 : decode cX10_digest 58 = .ok (.idiv, 1) := by decide +kernel
theorem dX10_digest_59 : decode cX10_digest 59 = .ok (.iload_n 1, 1) := by decide +kernel
theorem dX10_digest_60 : decode cX10_digest 60 = .ok (.bipush 6, 2) := by decide +kernel
theorem dX10_digest_62 : decode cX10_digest 62 = .ok (.irem, 1) := by decide +kernel
theorem dX10_digest_63 : decode cX10_digest 63 = .ok (.invokevirtual 159, 3) := by decide +kernel
theorem dX10_digest_66 : decode cX10_digest 66 = .ok (.i2l, 1) := by decide +kernel
theorem dX10_digest_67 : decode cX10_digest 67 = .ok (.invokevirtual 208, 3) := by decide +kernel
theorem dX10_digest_70 : decode cX10_digest 70 = .ok (.iinc 1 1, 3) := by decide +kernel
theorem dX10_digest_73 : decode cX10_digest 73 = .ok (.goto (-35), 3) := by decide +kernel
theorem dX10_digest_76 : decode cX10_digest 76 = .ok (.iconst 0, 1) := by decide +kernel
theorem dX10_digest_77 : decode cX10_digest 77 = .ok (.istore_n 1, 1) := by decide +kernel
theorem dX10_digest_78 : decode cX10_digest 78 = .ok (.iload_n 1, 1) := by decide +kernel
theorem dX10_digest_79 : decode cX10_digest 79 = .ok (.bipush 12, 2) := by decide +kernel
theorem dX10_digest_81 : decode cX10_digest 81 = .ok (.if_icmp .ge 24, 3) := by decide +kernel
theorem dX10_digest_84 : decode cX10_digest 84 = .ok (.aload_n 0, 1) := by decide +kernel
theorem dX10_digest_85 : decode cX10_digest 85 = .ok (.aload_n 0, 1) := by decide +kernel
theorem dX10_digest_86 : decode cX10_digest 86 = .ok (.iload_n 1, 1) := by decide +kernel
theorem dX10_digest_87 : decode cX10_digest 87 = .ok (.iconst 4, 1) := by decide +kernel
theorem dX10_digest_88 : decode cX10_digest 88 = .ok (.idiv, 1) := by decide +kernel
theorem dX10_digest_89 : decode cX10_digest 89 = .ok (.iload_n 1, 1) := by decide +kernel
theorem dX10_digest_90 : decode cX10_digest 90 = .ok (.iconst 4, 1) := by decide +kernel
theorem dX10_digest_91 : decode cX10_digest 91 = .ok (.irem, 1) := by decide +kernel
theorem dX10_digest_92 : decode cX10_digest 92 = .ok (.invokevirtual 165, 3) := by decide +kernel
theorem dX10_digest_95 : decode cX10_digest 95 = .ok (.i2l, 1) := by decide +kernel
theorem dX10_digest_96 : decode cX10_digest 96 = .ok (.invokevirtual 208, 3) := by decide +kernel
theorem dX10_digest_99 : decode cX10_digest 99 = .ok (.iinc 1 1, 3) := by decide +kernel
theorem dX10_digest_102 : decode cX10_digest 102 = .ok (.goto (-24), 3) := by decide +kernel
theorem dX10_digest_105 : decode cX10_digest 105 = .ok (.aload_n 0, 1) := by decide +kernel
theorem dX10_digest_106 : decode cX10_digest 106 = .ok (.invokevirtual 214, 3) := by decide +kernel
theorem dX10_digest_109 : decode cX10_digest 109 = .ok (.aload_n 0, 1) := by decide +kernel
theorem dX10_digest_110 : decode cX10_digest 110 = .ok (.invokevirtual 217, 3) := by decide +kernel
theorem dX10_digest_113 : decode cX10_digest 113 = .ok (.iconst 0, 1) := by decide +kernel
theorem dX10_digest_114 : decode cX10_digest 114 = .ok (.istore_n 1, 1) := by decide +kernel
theorem dX10_digest_115 : decode cX10_digest 115 = .ok (.iload_n 1, 1) := by decide +kernel
theorem dX10_digest_116 : decode cX10_digest 116 = .ok (.bipush 12, 2) := by decide +kernel
theorem dX10_digest_118 : decode cX10_digest 118 = .ok (.aload_n 0, 1) := by decide +kernel
theorem dX10_digest_119 : decode cX10_digest 119 = .ok (.getfield 7, 3) := by decide +kernel
theorem dX10_digest_122 : decode cX10_digest 122 = .ok (.sipush 408, 3) := by decide +kernel
theorem dX10_digest_125 : decode cX10_digest 125 = .ok (.iaload, 1) := by decide +kernel
theorem dX10_digest_126 : decode cX10_digest 126 = .ok (.imul, 1) := by decide +kernel
theorem dX10_digest_127 : decode cX10_digest 127 = .ok (.if_icmp .ge 30, 3) := by decide +kernel
theorem dX10_digest_130 : decode cX10_digest 130 = .ok (.aload_n 0, 1) := by decide +kernel
theorem dX10_digest_131 : decode cX10_digest 131 = .ok (.aload_n 0, 1) := by decide +kernel
theorem dX10_digest_132 : decode cX10_digest 132 = .ok (.iload_n 1, 1) := by decide +kernel
theorem dX10_digest_133 : decode cX10_digest 133 = .ok (.bipush 12, 2) := by decide +kernel
theorem dX10_digest_135 : decode cX10_digest 135 = .ok (.idiv, 1) := by decide +kernel
theorem dX10_digest_136 : decode cX10_digest 136 = .ok (.iload_n 1, 1) := by decide +kernel
theorem dX10_digest_137 : decode cX10_digest 137 = .ok (.iconst 3, 1) := by decide +kernel
theorem dX10_digest_138 : decode cX10_digest 138 = .ok (.idiv, 1) := by decide +kernel
theorem dX10_digest_139 : decode cX10_digest 139 = .ok (.iconst 4, 1) := by decide +kernel
theorem dX10_digest_140 : decode cX10_digest 140 = .ok (.irem, 1) := by decide +kernel
theorem dX10_digest_141 : decode cX10_digest 141 = .ok (.iload_n 1, 1) := by decide +kernel
theorem dX10_digest_142 : decode cX10_digest 142 = .ok (.iconst 3, 1) := by decide +kernel
theorem dX10_digest_143 : decode cX10_digest 143 = .ok (.irem, 1) := by decide +kernel
theorem dX10_digest_144 : decode cX10_digest 144 = .ok (.invokevirtual 174, 3) := by decide +kernel
theorem dX10_digest_147 : decode cX10_digest 147 = .ok (.i2l, 1) := by decide +kernel
theorem dX10_digest_148 : decode cX10_digest 148 = .ok (.invokevirtual 208, 3) := by decide +kernel
theorem dX10_digest_151 : decode cX10_digest 151 = .ok (.iinc 1 1, 3) := by decide +kernel
theorem dX10_digest_154 : decode cX10_digest 154 = .ok (.goto (-39), 3) := by decide +kernel
theorem dX10_digest_157 : decode cX10_digest 157 = .ok (.iconst 0, 1) := by decide +kernel
theorem dX10_digest_158 : decode cX10_digest 158 = .ok (.istore_n 1, 1) := by decide +kernel
theorem dX10_digest_159 : decode cX10_digest 159 = .ok (.iload_n 1, 1) := by decide +kernel
theorem dX10_digest_160 : decode cX10_digest 160 = .ok (.iconst 5, 1) := by decide +kernel
theorem dX10_digest_161 : decode cX10_digest 161 = .ok (.if_icmp .ge 21, 3) := by decide +kernel
theorem dX10_digest_164 : decode cX10_digest 164 = .ok (.aload_n 0, 1) := by decide +kernel
theorem dX10_digest_165 : decode cX10_digest 165 = .ok (.aload_n 0, 1) := by decide +kernel
theorem dX10_digest_166 : decode cX10_digest 166 = .ok (.bipush 14, 2) := by decide +kernel
theorem dX10_digest_168 : decode cX10_digest 168 = .ok (.iload_n 1, 1) := by decide +kernel
theorem dX10_digest_169 : decode cX10_digest 169 = .ok (.invokevirtual 186, 3) := by decide +kernel
theorem dX10_digest_172 : decode cX10_digest 172 = .ok (.i2l, 1) := by decide +kernel
theorem dX10_digest_173 : decode cX10_digest 173 = .ok (.invokevirtual 208, 3) := by decide +kernel
theorem dX10_digest_176 : decode cX10_digest 176 = .ok (.iinc 1 1, 3) := by decide +kernel
theorem dX10_digest_179 : decode cX10_digest 179 = .ok (.goto (-20), 3) := by decide +kernel
theorem dX10_digest_182 : decode cX10_digest 182 = .ok (.aload_n 0, 1) := by decide +kernel
theorem dX10_digest_183 : decode cX10_digest 183 = .ok (.aload_n 0, 1) := by decide +kernel
theorem dX10_digest_184 : decode cX10_digest 184 = .ok (.invokevirtual 198, 3) := by decide +kernel
theorem dX10_digest_187 : decode cX10_digest 187 = .ok (.invokestatic 220, 3) := by decide +kernel
theorem dX10_digest_190 : decode cX10_digest 190 = .ok (.invokevirtual 208, 3) := by decide +kernel
theorem dX10_digest_193 : decode cX10_digest 193 = .ok (.aload_n 0, 1) := by decide +kernel
theorem dX10_digest_194 : decode cX10_digest 194 = .ok (.aload_n 0, 1) := by decide +kernel
theorem dX10_digest_195 : decode cX10_digest 195 = .ok (.getfield 144, 3) := by decide +kernel
theorem dX10_digest_198 : decode cX10_digest 198 = .ok (.i2l, 1) := by decide +kernel
theorem dX10_digest_199 : decode cX10_digest 199 = .ok (.invokevirtual 208, 3) := by decide +kernel
theorem dX10_digest_202 : decode cX10_digest 202 = .ok (.iconst 0, 1) := by decide +kernel
theorem dX10_digest_203 : decode cX10_digest 203 = .ok (.istore_n 1, 1) := by decide +kernel
theorem dX10_digest_204 : decode cX10_digest 204 = .ok (.iload_n 1, 1) := by decide +kernel
theorem dX10_digest_205 : decode cX10_digest 205 = .ok (.aload_n 0, 1) := by decide +kernel
theorem dX10_digest_206 : decode cX10_digest 206 = .ok (.getfield 144, 3) := by decide +kernel
theorem dX10_digest_209 : decode cX10_digest 209 = .ok (.if_icmp .ge 20, 3) := by decide +kernel
theorem dX10_digest_212 : decode cX10_digest 212 = .ok (.aload_n 0, 1) := by decide +kernel
theorem dX10_digest_213 : decode cX10_digest 213 = .ok (.aload_n 0, 1) := by decide +kernel
theorem dX10_digest_214 : decode cX10_digest 214 = .ok (.getfield 19, 3) := by decide +kernel
theorem dX10_digest_217 : decode cX10_digest 217 = .ok (.iload_n 1, 1) := by decide +kernel
theorem dX10_digest_218 : decode cX10_digest 218 = .ok (.iaload, 1) := by decide +kernel
theorem dX10_digest_219 : decode cX10_digest 219 = .ok (.i2l, 1) := by decide +kernel
theorem dX10_digest_220 : decode cX10_digest 220 = .ok (.invokevirtual 208, 3) := by decide +kernel
theorem dX10_digest_223 : decode cX10_digest 223 = .ok (.iinc 1 1, 3) := by decide +kernel
theorem dX10_digest_226 : decode cX10_digest 226 = .ok (.goto (-22), 3) := by decide +kernel
theorem dX10_digest_229 : decode cX10_digest 229 = .ok (.aload_n 0, 1) := by decide +kernel
theorem dX10_digest_230 : decode cX10_digest 230 = .ok (.getfield 204, 3) := by decide +kernel
theorem dX10_digest_233 : decode cX10_digest 233 = .ok (.lreturn, 1) := by decide +kernel
end
section
theorem dL_addKind_0 : decode cL_addKind 0 = .ok (.aload 4, 2) := by decide +kernel
theorem dL_addKind_2 : decode cL_addKind 2 = .ok (.iconst 0, 1) := by decide +kernel
theorem dL_addKind_3 : decode cL_addKind 3 = .ok (.aload_n 0, 1) := by decide +kernel
theorem dL_addKind_4 : decode cL_addKind 4 = .ok (.iload_n 1, 1) := by decide +kernel
theorem dL_addKind_5 : decode cL_addKind 5 = .ok (.iload_n 2, 1) := by decide +kernel
theorem dL_addKind_6 : decode cL_addKind 6 = .ok (.iload_n 3, 1) := by decide +kernel
theorem dL_addKind_7 : decode cL_addKind 7 = .ok (.invokevirtual 7, 3) := by decide +kernel
theorem dL_addKind_10 : decode cL_addKind 10 = .ok (.i2l, 1) := by decide +kernel
theorem dL_addKind_11 : decode cL_addKind 11 = .ok (.lastore, 1) := by decide +kernel
theorem dL_addKind_12 : decode cL_addKind 12 = .ok (.goto 11, 3) := by decide +kernel
theorem dL_addKind_15 : decode cL_addKind 15 = .ok (.astore 5, 2) := by decide +kernel
theorem dL_addKind_17 : decode cL_addKind 17 = .ok (.iconst 1, 1) := by decide +kernel
theorem dL_addKind_18 : decode cL_addKind 18 = .ok (.ireturn, 1) := by decide +kernel
theorem dL_addKind_19 : decode cL_addKind 19 = .ok (.astore 5, 2) := by decide +kernel
theorem dL_addKind_21 : decode cL_addKind 21 = .ok (.iconst 2, 1) := by decide +kernel
theorem dL_addKind_22 : decode cL_addKind 22 = .ok (.ireturn, 1) := by decide +kernel
theorem dL_addKind_23 : decode cL_addKind 23 = .ok (.iconst 0, 1) := by decide +kernel
theorem dL_addKind_24 : decode cL_addKind 24 = .ok (.ireturn, 1) := by decide +kernel
theorem dL_setRoom_0 : decode cL_setRoom 0 = .ok (.aload_n 3, 1) := by decide +kernel
theorem dL_setRoom_1 : decode cL_setRoom 1 = .ok (.iconst 0, 1) := by decide +kernel
theorem dL_setRoom_2 : decode cL_setRoom 2 = .ok (.aload_n 0, 1) := by decide +kernel
theorem dL_setRoom_3 : decode cL_setRoom 3 = .ok (.iload_n 1, 1) := by decide +kernel
theorem dL_setRoom_4 : decode cL_setRoom 4 = .ok (.iload_n 2, 1) := by decide +kernel
theorem dL_setRoom_5 : decode cL_setRoom 5 = .ok (.invokevirtual 17, 3) := by decide +kernel
theorem dL_setRoom_8 : decode cL_setRoom 8 = .ok (.i2l, 1) := by decide +kernel
theorem dL_setRoom_9 : decode cL_setRoom 9 = .ok (.lastore, 1) := by decide +kernel
theorem dL_setRoom_10 : decode cL_setRoom 10 = .ok (.goto 15, 3) := by decide +kernel
theorem dL_setRoom_13 : decode cL_setRoom 13 = .ok (.astore 4, 2) := by decide +kernel
theorem dL_setRoom_15 : decode cL_setRoom 15 = .ok (.iconst 1, 1) := by decide +kernel
theorem dL_setRoom_16 : decode cL_setRoom 16 = .ok (.ireturn, 1) := by decide +kernel
theorem dL_setRoom_17 : decode cL_setRoom 17 = .ok (.astore 4, 2) := by decide +kernel
theorem dL_setRoom_19 : decode cL_setRoom 19 = .ok (.iconst 2, 1) := by decide +kernel
theorem dL_setRoom_20 : decode cL_setRoom 20 = .ok (.ireturn, 1) := by decide +kernel
theorem dL_setRoom_21 : decode cL_setRoom 21 = .ok (.astore 4, 2) := by decide +kernel
theorem dL_setRoom_23 : decode cL_setRoom 23 = .ok (.iconst 3, 1) := by decide +kernel
theorem dL_setRoom_24 : decode cL_setRoom 24 = .ok (.ireturn, 1) := by decide +kernel
theorem dL_setRoom_25 : decode cL_setRoom 25 = .ok (.iconst 0, 1) := by decide +kernel
theorem dL_setRoom_26 : decode cL_setRoom 26 = .ok (.ireturn, 1) := by decide +kernel
theorem dL_warm_0 : decode cL_warm 0 = .ok (.aload_n 3, 1) := by decide +kernel
theorem dL_warm_1 : decode cL_warm 1 = .ok (.iconst 0, 1) := by decide +kernel
theorem dL_warm_2 : decode cL_warm 2 = .ok (.aload_n 0, 1) := by decide +kernel
theorem dL_warm_3 : decode cL_warm 3 = .ok (.iload_n 1, 1) := by decide +kernel
theorem dL_warm_4 : decode cL_warm 4 = .ok (.iload_n 2, 1) := by decide +kernel
theorem dL_warm_5 : decode cL_warm 5 = .ok (.invokevirtual 23, 3) := by decide +kernel
theorem dL_warm_8 : decode cL_warm 8 = .ok (.i2l, 1) := by decide +kernel
theorem dL_warm_9 : decode cL_warm 9 = .ok (.lastore, 1) := by decide +kernel
theorem dL_warm_10 : decode cL_warm 10 = .ok (.goto 11, 3) := by decide +kernel
theorem dL_warm_13 : decode cL_warm 13 = .ok (.astore 4, 2) := by decide +kernel
theorem dL_warm_15 : decode cL_warm 15 = .ok (.iconst 1, 1) := by decide +kernel
theorem dL_warm_16 : decode cL_warm 16 = .ok (.ireturn, 1) := by decide +kernel
theorem dL_warm_17 : decode cL_warm 17 = .ok (.astore 4, 2) := by decide +kernel
theorem dL_warm_19 : decode cL_warm 19 = .ok (.iconst 2, 1) := by decide +kernel
theorem dL_warm_20 : decode cL_warm 20 = .ok (.ireturn, 1) := by decide +kernel
theorem dL_warm_21 : decode cL_warm 21 = .ok (.iconst 0, 1) := by decide +kernel
theorem dL_warm_22 : decode cL_warm 22 = .ok (.ireturn, 1) := by decide +kernel
theorem dL_setCrew_0 : decode cL_setCrew 0 = .ok (.aload_n 2, 1) := by decide +kernel
theorem dL_setCrew_1 : decode cL_setCrew 1 = .ok (.iconst 0, 1) := by decide +kernel
theorem dL_setCrew_2 : decode cL_setCrew 2 = .ok (.aload_n 0, 1) := by decide +kernel
theorem dL_setCrew_3 : decode cL_setCrew 3 = .ok (.iload_n 1, 1) := by decide +kernel
theorem dL_setCrew_4 : decode cL_setCrew 4 = .ok (.invokevirtual 26, 3) := by decide +kernel
theorem dL_setCrew_7 : decode cL_setCrew 7 = .ok (.i2l, 1) := by decide +kernel
theorem dL_setCrew_8 : decode cL_setCrew 8 = .ok (.lastore, 1) := by decide +kernel
theorem dL_setCrew_9 : decode cL_setCrew 9 = .ok (.goto 6, 3) := by decide +kernel
theorem dL_setCrew_12 : decode cL_setCrew 12 = .ok (.astore_n 3, 1) := by decide +kernel
theorem dL_setCrew_13 : decode cL_setCrew 13 = .ok (.iconst 1, 1) := by decide +kernel
theorem dL_setCrew_14 : decode cL_setCrew 14 = .ok (.ireturn, 1) := by decide +kernel
theorem dL_setCrew_15 : decode cL_setCrew 15 = .ok (.iconst 0, 1) := by decide +kernel
theorem dL_setCrew_16 : decode cL_setCrew 16 = .ok (.ireturn, 1) := by decide +kernel
theorem dL_pay_0 : decode cL_pay 0 = .ok (.aload_n 2, 1) := by decide +kernel
theorem dL_pay_1 : decode cL_pay 1 = .ok (.iconst 0, 1) := by decide +kernel
theorem dL_pay_2 : decode cL_pay 2 = .ok (.aload_n 0, 1) := by decide +kernel
theorem dL_pay_3 : decode cL_pay 3 = .ok (.iload_n 1, 1) := by decide +kernel
theorem dL_pay_4 : decode cL_pay 4 = .ok (.invokevirtual 30, 3) := by decide +kernel
theorem dL_pay_7 : decode cL_pay 7 = .ok (.i2l, 1) := by decide +kernel
theorem dL_pay_8 : decode cL_pay 8 = .ok (.lastore, 1) := by decide +kernel
theorem dL_pay_9 : decode cL_pay 9 = .ok (.goto 6, 3) := by decide +kernel
theorem dL_pay_12 : decode cL_pay 12 = .ok (.astore_n 3, 1) := by decide +kernel
theorem dL_pay_13 : decode cL_pay 13 = .ok (.iconst 1, 1) := by decide +kernel
theorem dL_pay_14 : decode cL_pay 14 = .ok (.ireturn, 1) := by decide +kernel
theorem dL_pay_15 : decode cL_pay 15 = .ok (.iconst 0, 1) := by decide +kernel
theorem dL_pay_16 : decode cL_pay 16 = .ok (.ireturn, 1) := by decide +kernel
theorem dL_addPort_0 : decode cL_addPort 0 = .ok (.aload_n 3, 1) := by decide +kernel
theorem dL_addPort_1 : decode cL_addPort 1 = .ok (.iconst 0, 1) := by decide +kernel
theorem dL_addPort_2 : decode cL_addPort 2 = .ok (.aload_n 0, 1) := by decide +kernel
theorem dL_addPort_3 : decode cL_addPort 3 = .ok (.iload_n 1, 1) := by decide +kernel
theorem dL_addPort_4 : decode cL_addPort 4 = .ok (.iload_n 2, 1) := by decide +kernel
theorem dL_addPort_5 : decode cL_addPort 5 = .ok (.invokevirtual 33, 3) := by decide +kernel
theorem dL_addPort_8 : decode cL_addPort 8 = .ok (.i2l, 1) := by decide +kernel
theorem dL_addPort_9 : decode cL_addPort 9 = .ok (.lastore, 1) := by decide +kernel
theorem dL_addPort_10 : decode cL_addPort 10 = .ok (.goto 11, 3) := by decide +kernel
theorem dL_addPort_13 : decode cL_addPort 13 = .ok (.astore 4, 2) := by decide +kernel
theorem dL_addPort_15 : decode cL_addPort 15 = .ok (.iconst 1, 1) := by decide +kernel
theorem dL_addPort_16 : decode cL_addPort 16 = .ok (.ireturn, 1) := by decide +kernel
theorem dL_addPort_17 : decode cL_addPort 17 = .ok (.astore 4, 2) := by decide +kernel
theorem dL_addPort_19 : decode cL_addPort 19 = .ok (.iconst 2, 1) := by decide +kernel
theorem dL_addPort_20 : decode cL_addPort 20 = .ok (.ireturn, 1) := by decide +kernel
theorem dL_addPort_21 : decode cL_addPort 21 = .ok (.iconst 0, 1) := by decide +kernel
theorem dL_addPort_22 : decode cL_addPort 22 = .ok (.ireturn, 1) := by decide +kernel
theorem dL_removePort_0 : decode cL_removePort 0 = .ok (.aload_n 2, 1) := by decide +kernel
theorem dL_removePort_1 : decode cL_removePort 1 = .ok (.iconst 0, 1) := by decide +kernel
theorem dL_removePort_2 : decode cL_removePort 2 = .ok (.aload_n 0, 1) := by decide +kernel
theorem dL_removePort_3 : decode cL_removePort 3 = .ok (.iload_n 1, 1) := by decide +kernel
theorem dL_removePort_4 : decode cL_removePort 4 = .ok (.invokevirtual 36, 3) := by decide +kernel
theorem dL_removePort_7 : decode cL_removePort 7 = .ok (.i2l, 1) := by decide +kernel
theorem dL_removePort_8 : decode cL_removePort 8 = .ok (.lastore, 1) := by decide +kernel
theorem dL_removePort_9 : decode cL_removePort 9 = .ok (.goto 6, 3) := by decide +kernel
theorem dL_removePort_12 : decode cL_removePort 12 = .ok (.astore_n 3, 1) := by decide +kernel
theorem dL_removePort_13 : decode cL_removePort 13 = .ok (.iconst 1, 1) := by decide +kernel
theorem dL_removePort_14 : decode cL_removePort 14 = .ok (.ireturn, 1) := by decide +kernel
theorem dL_removePort_15 : decode cL_removePort 15 = .ok (.iconst 0, 1) := by decide +kernel
theorem dL_removePort_16 : decode cL_removePort 16 = .ok (.ireturn, 1) := by decide +kernel
theorem dL_setPrice_0 : decode cL_setPrice 0 = .ok (.aload 4, 2) := by decide +kernel
theorem dL_setPrice_2 : decode cL_setPrice 2 = .ok (.iconst 0, 1) := by decide +kernel
theorem dL_setPrice_3 : decode cL_setPrice 3 = .ok (.aload_n 0, 1) := by decide +kernel
theorem dL_setPrice_4 : decode cL_setPrice 4 = .ok (.iload_n 1, 1) := by decide +kernel
theorem dL_setPrice_5 : decode cL_setPrice 5 = .ok (.iload_n 2, 1) := by decide +kernel
theorem dL_setPrice_6 : decode cL_setPrice 6 = .ok (.iload_n 3, 1) := by decide +kernel
theorem dL_setPrice_7 : decode cL_setPrice 7 = .ok (.invokevirtual 39, 3) := by decide +kernel
theorem dL_setPrice_10 : decode cL_setPrice 10 = .ok (.i2l, 1) := by decide +kernel
theorem dL_setPrice_11 : decode cL_setPrice 11 = .ok (.lastore, 1) := by decide +kernel
theorem dL_setPrice_12 : decode cL_setPrice 12 = .ok (.goto 11, 3) := by decide +kernel
theorem dL_setPrice_15 : decode cL_setPrice 15 = .ok (.astore 5, 2) := by decide +kernel
theorem dL_setPrice_17 : decode cL_setPrice 17 = .ok (.iconst 1, 1) := by decide +kernel
theorem dL_setPrice_18 : decode cL_setPrice 18 = .ok (.ireturn, 1) := by decide +kernel
theorem dL_setPrice_19 : decode cL_setPrice 19 = .ok (.astore 5, 2) := by decide +kernel
theorem dL_setPrice_21 : decode cL_setPrice 21 = .ok (.iconst 2, 1) := by decide +kernel
theorem dL_setPrice_22 : decode cL_setPrice 22 = .ok (.ireturn, 1) := by decide +kernel
theorem dL_setPrice_23 : decode cL_setPrice 23 = .ok (.iconst 0, 1) := by decide +kernel
theorem dL_setPrice_24 : decode cL_setPrice 24 = .ok (.ireturn, 1) := by decide +kernel
theorem dL_buy_0 : decode cL_buy 0 = .ok (.aload 4, 2) := by decide +kernel
theorem dL_buy_2 : decode cL_buy 2 = .ok (.iconst 0, 1) := by decide +kernel
theorem dL_buy_3 : decode cL_buy 3 = .ok (.aload_n 0, 1) := by decide +kernel
theorem dL_buy_4 : decode cL_buy 4 = .ok (.iload_n 1, 1) := by decide +kernel
theorem dL_buy_5 : decode cL_buy 5 = .ok (.iload_n 2, 1) := by decide +kernel
theorem dL_buy_6 : decode cL_buy 6 = .ok (.iload_n 3, 1) := by decide +kernel
theorem dL_buy_7 : decode cL_buy 7 = .ok (.invokevirtual 42, 3) := by decide +kernel
theorem dL_buy_10 : decode cL_buy 10 = .ok (.i2l, 1) := by decide +kernel
theorem dL_buy_11 : decode cL_buy 11 = .ok (.lastore, 1) := by decide +kernel
theorem dL_buy_12 : decode cL_buy 12 = .ok (.goto 15, 3) := by decide +kernel
theorem dL_buy_15 : decode cL_buy 15 = .ok (.astore 5, 2) := by decide +kernel
theorem dL_buy_17 : decode cL_buy 17 = .ok (.iconst 1, 1) := by decide +kernel
theorem dL_buy_18 : decode cL_buy 18 = .ok (.ireturn, 1) := by decide +kernel
theorem dL_buy_19 : decode cL_buy 19 = .ok (.astore 5, 2) := by decide +kernel
theorem dL_buy_21 : decode cL_buy 21 = .ok (.iconst 2, 1) := by decide +kernel
theorem dL_buy_22 : decode cL_buy 22 = .ok (.ireturn, 1) := by decide +kernel
theorem dL_buy_23 : decode cL_buy 23 = .ok (.astore 5, 2) := by decide +kernel
theorem dL_buy_25 : decode cL_buy 25 = .ok (.iconst 3, 1) := by decide +kernel
theorem dL_buy_26 : decode cL_buy 26 = .ok (.ireturn, 1) := by decide +kernel
theorem dL_buy_27 : decode cL_buy 27 = .ok (.iconst 0, 1) := by decide +kernel
theorem dL_buy_28 : decode cL_buy 28 = .ok (.ireturn, 1) := by decide +kernel
theorem dL_move_0 : decode cL_move 0 = .ok (.aload 4, 2) := by decide +kernel
theorem dL_move_2 : decode cL_move 2 = .ok (.iconst 0, 1) := by decide +kernel
theorem dL_move_3 : decode cL_move 3 = .ok (.aload_n 0, 1) := by decide +kernel
theorem dL_move_4 : decode cL_move 4 = .ok (.iload_n 1, 1) := by decide +kernel
theorem dL_move_5 : decode cL_move 5 = .ok (.iload_n 2, 1) := by decide +kernel
theorem dL_move_6 : decode cL_move 6 = .ok (.iload_n 3, 1) := by decide +kernel
theorem dL_move_7 : decode cL_move 7 = .ok (.invokevirtual 45, 3) := by decide +kernel
theorem dL_move_10 : decode cL_move 10 = .ok (.i2l, 1) := by decide +kernel
theorem dL_move_11 : decode cL_move 11 = .ok (.lastore, 1) := by decide +kernel
theorem dL_move_12 : decode cL_move 12 = .ok (.goto 15, 3) := by decide +kernel
theorem dL_move_15 : decode cL_move 15 = .ok (.astore 5, 2) := by decide +kernel
theorem dL_move_17 : decode cL_move 17 = .ok (.iconst 1, 1) := by decide +kernel
theorem dL_move_18 : decode cL_move 18 = .ok (.ireturn, 1) := by decide +kernel
theorem dL_move_19 : decode cL_move 19 = .ok (.astore 5, 2) := by decide +kernel
theorem dL_move_21 : decode cL_move 21 = .ok (.iconst 2, 1) := by decide +kernel
theorem dL_move_22 : decode cL_move 22 = .ok (.ireturn, 1) := by decide +kernel
theorem dL_move_23 : decode cL_move 23 = .ok (.astore 5, 2) := by decide +kernel
theorem dL_move_25 : decode cL_move 25 = .ok (.iconst 3, 1) := by decide +kernel
theorem dL_move_26 : decode cL_move 26 = .ok (.ireturn, 1) := by decide +kernel
theorem dL_move_27 : decode cL_move 27 = .ok (.iconst 0, 1) := by decide +kernel
theorem dL_move_28 : decode cL_move 28 = .ok (.ireturn, 1) := by decide +kernel
theorem dL_discard_0 : decode cL_discard 0 = .ok (.aload_n 3, 1) := by decide +kernel
theorem dL_discard_1 : decode cL_discard 1 = .ok (.iconst 0, 1) := by decide +kernel
theorem dL_discard_2 : decode cL_discard 2 = .ok (.aload_n 0, 1) := by decide +kernel
theorem dL_discard_3 : decode cL_discard 3 = .ok (.iload_n 1, 1) := by decide +kernel
theorem dL_discard_4 : decode cL_discard 4 = .ok (.iload_n 2, 1) := by decide +kernel
theorem dL_discard_5 : decode cL_discard 5 = .ok (.invokevirtual 48, 3) := by decide +kernel
theorem dL_discard_8 : decode cL_discard 8 = .ok (.i2l, 1) := by decide +kernel
theorem dL_discard_9 : decode cL_discard 9 = .ok (.lastore, 1) := by decide +kernel
theorem dL_discard_10 : decode cL_discard 10 = .ok (.goto 11, 3) := by decide +kernel
theorem dL_discard_13 : decode cL_discard 13 = .ok (.astore 4, 2) := by decide +kernel
theorem dL_discard_15 : decode cL_discard 15 = .ok (.iconst 1, 1) := by decide +kernel
theorem dL_discard_16 : decode cL_discard 16 = .ok (.ireturn, 1) := by decide +kernel
theorem dL_discard_17 : decode cL_discard 17 = .ok (.astore 4, 2) := by decide +kernel
theorem dL_discard_19 : decode cL_discard 19 = .ok (.iconst 2, 1) := by decide +kernel
theorem dL_discard_20 : decode cL_discard 20 = .ok (.ireturn, 1) := by decide +kernel
theorem dL_discard_21 : decode cL_discard 21 = .ok (.iconst 0, 1) := by decide +kernel
theorem dL_discard_22 : decode cL_discard 22 = .ok (.ireturn, 1) := by decide +kernel
theorem dL_pass_0 : decode cL_pass 0 = .ok (.aload_n 2, 1) := by decide +kernel
theorem dL_pass_1 : decode cL_pass 1 = .ok (.iconst 0, 1) := by decide +kernel
theorem dL_pass_2 : decode cL_pass 2 = .ok (.aload_n 0, 1) := by decide +kernel
theorem dL_pass_3 : decode cL_pass 3 = .ok (.iload_n 1, 1) := by decide +kernel
theorem dL_pass_4 : decode cL_pass 4 = .ok (.invokevirtual 51, 3) := by decide +kernel
theorem dL_pass_7 : decode cL_pass 7 = .ok (.i2l, 1) := by decide +kernel
theorem dL_pass_8 : decode cL_pass 8 = .ok (.lastore, 1) := by decide +kernel
theorem dL_pass_9 : decode cL_pass 9 = .ok (.goto 6, 3) := by decide +kernel
theorem dL_pass_12 : decode cL_pass 12 = .ok (.astore_n 3, 1) := by decide +kernel
theorem dL_pass_13 : decode cL_pass 13 = .ok (.iconst 1, 1) := by decide +kernel
theorem dL_pass_14 : decode cL_pass 14 = .ok (.ireturn, 1) := by decide +kernel
theorem dL_pass_15 : decode cL_pass 15 = .ok (.iconst 0, 1) := by decide +kernel
theorem dL_pass_16 : decode cL_pass 16 = .ok (.ireturn, 1) := by decide +kernel
theorem dL_append_0 : decode cL_append 0 = .ok (.aload_n 2, 1) := by decide +kernel
theorem dL_append_1 : decode cL_append 1 = .ok (.iconst 0, 1) := by decide +kernel
theorem dL_append_2 : decode cL_append 2 = .ok (.aload_n 0, 1) := by decide +kernel
theorem dL_append_3 : decode cL_append 3 = .ok (.iload_n 1, 1) := by decide +kernel
theorem dL_append_4 : decode cL_append 4 = .ok (.invokevirtual 54, 3) := by decide +kernel
theorem dL_append_7 : decode cL_append 7 = .ok (.i2l, 1) := by decide +kernel
theorem dL_append_8 : decode cL_append 8 = .ok (.lastore, 1) := by decide +kernel
theorem dL_append_9 : decode cL_append 9 = .ok (.goto 9, 3) := by decide +kernel
theorem dL_append_12 : decode cL_append 12 = .ok (.astore_n 3, 1) := by decide +kernel
theorem dL_append_13 : decode cL_append 13 = .ok (.iconst 1, 1) := by decide +kernel
theorem dL_append_14 : decode cL_append 14 = .ok (.ireturn, 1) := by decide +kernel
theorem dL_append_15 : decode cL_append 15 = .ok (.astore_n 3, 1) := by decide +kernel
theorem dL_append_16 : decode cL_append 16 = .ok (.iconst 2, 1) := by decide +kernel
theorem dL_append_17 : decode cL_append 17 = .ok (.ireturn, 1) := by decide +kernel
theorem dL_append_18 : decode cL_append 18 = .ok (.iconst 0, 1) := by decide +kernel
theorem dL_append_19 : decode cL_append 19 = .ok (.ireturn, 1) := by decide +kernel
theorem dL_load_0 : decode cL_load 0 = .ok (.aload_n 1, 1) := by decide +kernel
theorem dL_load_1 : decode cL_load 1 = .ok (.iconst 0, 1) := by decide +kernel
theorem dL_load_2 : decode cL_load 2 = .ok (.aload_n 0, 1) := by decide +kernel
theorem dL_load_3 : decode cL_load 3 = .ok (.invokevirtual 57, 3) := by decide +kernel
theorem dL_load_6 : decode cL_load 6 = .ok (.i2l, 1) := by decide +kernel
theorem dL_load_7 : decode cL_load 7 = .ok (.lastore, 1) := by decide +kernel
theorem dL_load_8 : decode cL_load 8 = .ok (.goto 9, 3) := by decide +kernel
theorem dL_load_11 : decode cL_load 11 = .ok (.astore_n 2, 1) := by decide +kernel
theorem dL_load_12 : decode cL_load 12 = .ok (.iconst 1, 1) := by decide +kernel
theorem dL_load_13 : decode cL_load 13 = .ok (.ireturn, 1) := by decide +kernel
theorem dL_load_14 : decode cL_load 14 = .ok (.astore_n 2, 1) := by decide +kernel
theorem dL_load_15 : decode cL_load 15 = .ok (.iconst 2, 1) := by decide +kernel
theorem dL_load_16 : decode cL_load 16 = .ok (.ireturn, 1) := by decide +kernel
theorem dL_load_17 : decode cL_load 17 = .ok (.iconst 0, 1) := by decide +kernel
theorem dL_load_18 : decode cL_load 18 = .ok (.ireturn, 1) := by decide +kernel
theorem dL_undo_0 : decode cL_undo 0 = .ok (.aload_n 1, 1) := by decide +kernel
theorem dL_undo_1 : decode cL_undo 1 = .ok (.iconst 0, 1) := by decide +kernel
theorem dL_undo_2 : decode cL_undo 2 = .ok (.aload_n 0, 1) := by decide +kernel
theorem dL_undo_3 : decode cL_undo 3 = .ok (.invokevirtual 61, 3) := by decide +kernel
theorem dL_undo_6 : decode cL_undo 6 = .ok (.i2l, 1) := by decide +kernel
theorem dL_undo_7 : decode cL_undo 7 = .ok (.lastore, 1) := by decide +kernel
theorem dL_undo_8 : decode cL_undo 8 = .ok (.goto 6, 3) := by decide +kernel
theorem dL_undo_11 : decode cL_undo 11 = .ok (.astore_n 2, 1) := by decide +kernel
theorem dL_undo_12 : decode cL_undo 12 = .ok (.iconst 1, 1) := by decide +kernel
theorem dL_undo_13 : decode cL_undo 13 = .ok (.ireturn, 1) := by decide +kernel
theorem dL_undo_14 : decode cL_undo 14 = .ok (.iconst 0, 1) := by decide +kernel
theorem dL_undo_15 : decode cL_undo 15 = .ok (.ireturn, 1) := by decide +kernel
theorem dL_lot_0 : decode cL_lot 0 = .ok (.aload_n 3, 1) := by decide +kernel
theorem dL_lot_1 : decode cL_lot 1 = .ok (.iconst 0, 1) := by decide +kernel
theorem dL_lot_2 : decode cL_lot 2 = .ok (.aload_n 0, 1) := by decide +kernel
theorem dL_lot_3 : decode cL_lot 3 = .ok (.iload_n 1, 1) := by decide +kernel
theorem dL_lot_4 : decode cL_lot 4 = .ok (.iload_n 2, 1) := by decide +kernel
theorem dL_lot_5 : decode cL_lot 5 = .ok (.invokevirtual 64, 3) := by decide +kernel
theorem dL_lot_8 : decode cL_lot 8 = .ok (.i2l, 1) := by decide +kernel
theorem dL_lot_9 : decode cL_lot 9 = .ok (.lastore, 1) := by decide +kernel
theorem dL_lot_10 : decode cL_lot 10 = .ok (.goto 11, 3) := by decide +kernel
theorem dL_lot_13 : decode cL_lot 13 = .ok (.astore 4, 2) := by decide +kernel
theorem dL_lot_15 : decode cL_lot 15 = .ok (.iconst 1, 1) := by decide +kernel
theorem dL_lot_16 : decode cL_lot 16 = .ok (.ireturn, 1) := by decide +kernel
theorem dL_lot_17 : decode cL_lot 17 = .ok (.astore 4, 2) := by decide +kernel
theorem dL_lot_19 : decode cL_lot 19 = .ok (.iconst 2, 1) := by decide +kernel
theorem dL_lot_20 : decode cL_lot 20 = .ok (.ireturn, 1) := by decide +kernel
theorem dL_lot_21 : decode cL_lot 21 = .ok (.iconst 0, 1) := by decide +kernel
theorem dL_lot_22 : decode cL_lot 22 = .ok (.ireturn, 1) := by decide +kernel
theorem dL_store_0 : decode cL_store 0 = .ok (.aload_n 3, 1) := by decide +kernel
theorem dL_store_1 : decode cL_store 1 = .ok (.iconst 0, 1) := by decide +kernel
theorem dL_store_2 : decode cL_store 2 = .ok (.aload_n 0, 1) := by decide +kernel
theorem dL_store_3 : decode cL_store 3 = .ok (.iload_n 1, 1) := by decide +kernel
theorem dL_store_4 : decode cL_store 4 = .ok (.iload_n 2, 1) := by decide +kernel
theorem dL_store_5 : decode cL_store 5 = .ok (.invokevirtual 67, 3) := by decide +kernel
theorem dL_store_8 : decode cL_store 8 = .ok (.i2l, 1) := by decide +kernel
theorem dL_store_9 : decode cL_store 9 = .ok (.lastore, 1) := by decide +kernel
theorem dL_store_10 : decode cL_store 10 = .ok (.goto 11, 3) := by decide +kernel
theorem dL_store_13 : decode cL_store 13 = .ok (.astore 4, 2) := by decide +kernel
theorem dL_store_15 : decode cL_store 15 = .ok (.iconst 1, 1) := by decide +kernel
theorem dL_store_16 : decode cL_store 16 = .ok (.ireturn, 1) := by decide +kernel
theorem dL_store_17 : decode cL_store 17 = .ok (.astore 4, 2) := by decide +kernel
theorem dL_store_19 : decode cL_store 19 = .ok (.iconst 2, 1) := by decide +kernel
theorem dL_store_20 : decode cL_store 20 = .ok (.ireturn, 1) := by decide +kernel
theorem dL_store_21 : decode cL_store 21 = .ok (.iconst 0, 1) := by decide +kernel
theorem dL_store_22 : decode cL_store 22 = .ok (.ireturn, 1) := by decide +kernel
theorem dL_kind_0 : decode cL_kind 0 = .ok (.aload_n 3, 1) := by decide +kernel
theorem dL_kind_1 : decode cL_kind 1 = .ok (.iconst 0, 1) := by decide +kernel
theorem dL_kind_2 : decode cL_kind 2 = .ok (.aload_n 0, 1) := by decide +kernel
theorem dL_kind_3 : decode cL_kind 3 = .ok (.iload_n 1, 1) := by decide +kernel
theorem dL_kind_4 : decode cL_kind 4 = .ok (.iload_n 2, 1) := by decide +kernel
theorem dL_kind_5 : decode cL_kind 5 = .ok (.invokevirtual 70, 3) := by decide +kernel
theorem dL_kind_8 : decode cL_kind 8 = .ok (.i2l, 1) := by decide +kernel
theorem dL_kind_9 : decode cL_kind 9 = .ok (.lastore, 1) := by decide +kernel
theorem dL_kind_10 : decode cL_kind 10 = .ok (.goto 11, 3) := by decide +kernel
theorem dL_kind_13 : decode cL_kind 13 = .ok (.astore 4, 2) := by decide +kernel
theorem dL_kind_15 : decode cL_kind 15 = .ok (.iconst 1, 1) := by decide +kernel
theorem dL_kind_16 : decode cL_kind 16 = .ok (.ireturn, 1) := by decide +kernel
theorem dL_kind_17 : decode cL_kind 17 = .ok (.astore 4, 2) := by decide +kernel
theorem dL_kind_19 : decode cL_kind 19 = .ok (.iconst 2, 1) := by decide +kernel
theorem dL_kind_20 : decode cL_kind 20 = .ok (.ireturn, 1) := by decide +kernel
theorem dL_kind_21 : decode cL_kind 21 = .ok (.iconst 0, 1) := by decide +kernel
theorem dL_kind_22 : decode cL_kind 22 = .ok (.ireturn, 1) := by decide +kernel
theorem dL_port_0 : decode cL_port 0 = .ok (.aload_n 3, 1) := by decide +kernel
theorem dL_port_1 : decode cL_port 1 = .ok (.iconst 0, 1) := by decide +kernel
theorem dL_port_2 : decode cL_port 2 = .ok (.aload_n 0, 1) := by decide +kernel
theorem dL_port_3 : decode cL_port 3 = .ok (.iload_n 1, 1) := by decide +kernel
theorem dL_port_4 : decode cL_port 4 = .ok (.iload_n 2, 1) := by decide +kernel
theorem dL_port_5 : decode cL_port 5 = .ok (.invokevirtual 73, 3) := by decide +kernel
theorem dL_port_8 : decode cL_port 8 = .ok (.i2l, 1) := by decide +kernel
theorem dL_port_9 : decode cL_port 9 = .ok (.lastore, 1) := by decide +kernel
theorem dL_port_10 : decode cL_port 10 = .ok (.goto 11, 3) := by decide +kernel
theorem dL_port_13 : decode cL_port 13 = .ok (.astore 4, 2) := by decide +kernel
theorem dL_port_15 : decode cL_port 15 = .ok (.iconst 1, 1) := by decide +kernel
theorem dL_port_16 : decode cL_port 16 = .ok (.ireturn, 1) := by decide +kernel
theorem dL_port_17 : decode cL_port 17 = .ok (.astore 4, 2) := by decide +kernel
theorem dL_port_19 : decode cL_port 19 = .ok (.iconst 2, 1) := by decide +kernel
theorem dL_port_20 : decode cL_port 20 = .ok (.ireturn, 1) := by decide +kernel
theorem dL_port_21 : decode cL_port 21 = .ok (.iconst 0, 1) := by decide +kernel
theorem dL_port_22 : decode cL_port 22 = .ok (.ireturn, 1) := by decide +kernel
theorem dL_menu_0 : decode cL_menu 0 = .ok (.aload 4, 2) := by decide +kernel
theorem dL_menu_2 : decode cL_menu 2 = .ok (.iconst 0, 1) := by decide +kernel
theorem dL_menu_3 : decode cL_menu 3 = .ok (.aload_n 0, 1) := by decide +kernel
theorem dL_menu_4 : decode cL_menu 4 = .ok (.iload_n 1, 1) := by decide +kernel
theorem dL_menu_5 : decode cL_menu 5 = .ok (.iload_n 2, 1) := by decide +kernel
theorem dL_menu_6 : decode cL_menu 6 = .ok (.iload_n 3, 1) := by decide +kernel
theorem dL_menu_7 : decode cL_menu 7 = .ok (.invokevirtual 76, 3) := by decide +kernel
theorem dL_menu_10 : decode cL_menu 10 = .ok (.i2l, 1) := by decide +kernel
theorem dL_menu_11 : decode cL_menu 11 = .ok (.lastore, 1) := by decide +kernel
theorem dL_menu_12 : decode cL_menu 12 = .ok (.goto 11, 3) := by decide +kernel
theorem dL_menu_15 : decode cL_menu 15 = .ok (.astore 5, 2) := by decide +kernel
theorem dL_menu_17 : decode cL_menu 17 = .ok (.iconst 1, 1) := by decide +kernel
theorem dL_menu_18 : decode cL_menu 18 = .ok (.ireturn, 1) := by decide +kernel
theorem dL_menu_19 : decode cL_menu 19 = .ok (.astore 5, 2) := by decide +kernel
theorem dL_menu_21 : decode cL_menu 21 = .ok (.iconst 2, 1) := by decide +kernel
theorem dL_menu_22 : decode cL_menu 22 = .ok (.ireturn, 1) := by decide +kernel
theorem dL_menu_23 : decode cL_menu 23 = .ok (.iconst 0, 1) := by decide +kernel
theorem dL_menu_24 : decode cL_menu 24 = .ok (.ireturn, 1) := by decide +kernel
theorem dL_count_0 : decode cL_count 0 = .ok (.aload_n 2, 1) := by decide +kernel
theorem dL_count_1 : decode cL_count 1 = .ok (.iconst 0, 1) := by decide +kernel
theorem dL_count_2 : decode cL_count 2 = .ok (.aload_n 0, 1) := by decide +kernel
theorem dL_count_3 : decode cL_count 3 = .ok (.iload_n 1, 1) := by decide +kernel
theorem dL_count_4 : decode cL_count 4 = .ok (.invokevirtual 79, 3) := by decide +kernel
theorem dL_count_7 : decode cL_count 7 = .ok (.i2l, 1) := by decide +kernel
theorem dL_count_8 : decode cL_count 8 = .ok (.lastore, 1) := by decide +kernel
theorem dL_count_9 : decode cL_count 9 = .ok (.goto 6, 3) := by decide +kernel
theorem dL_count_12 : decode cL_count 12 = .ok (.astore_n 3, 1) := by decide +kernel
theorem dL_count_13 : decode cL_count 13 = .ok (.iconst 1, 1) := by decide +kernel
theorem dL_count_14 : decode cL_count 14 = .ok (.ireturn, 1) := by decide +kernel
theorem dL_count_15 : decode cL_count 15 = .ok (.iconst 0, 1) := by decide +kernel
theorem dL_count_16 : decode cL_count 16 = .ok (.ireturn, 1) := by decide +kernel
theorem dL_why_0 : decode cL_why 0 = .ok (.aload 4, 2) := by decide +kernel
theorem dL_why_2 : decode cL_why 2 = .ok (.iconst 0, 1) := by decide +kernel
theorem dL_why_3 : decode cL_why 3 = .ok (.aload_n 0, 1) := by decide +kernel
theorem dL_why_4 : decode cL_why 4 = .ok (.iload_n 1, 1) := by decide +kernel
theorem dL_why_5 : decode cL_why 5 = .ok (.iload_n 2, 1) := by decide +kernel
theorem dL_why_6 : decode cL_why 6 = .ok (.iload_n 3, 1) := by decide +kernel
theorem dL_why_7 : decode cL_why 7 = .ok (.invokevirtual 82, 3) := by decide +kernel
theorem dL_why_10 : decode cL_why 10 = .ok (.i2l, 1) := by decide +kernel
theorem dL_why_11 : decode cL_why 11 = .ok (.lastore, 1) := by decide +kernel
theorem dL_why_12 : decode cL_why 12 = .ok (.goto 11, 3) := by decide +kernel
theorem dL_why_15 : decode cL_why 15 = .ok (.astore 5, 2) := by decide +kernel
theorem dL_why_17 : decode cL_why 17 = .ok (.iconst 1, 1) := by decide +kernel
theorem dL_why_18 : decode cL_why 18 = .ok (.ireturn, 1) := by decide +kernel
theorem dL_why_19 : decode cL_why 19 = .ok (.astore 5, 2) := by decide +kernel
theorem dL_why_21 : decode cL_why 21 = .ok (.iconst 2, 1) := by decide +kernel
theorem dL_why_22 : decode cL_why 22 = .ok (.ireturn, 1) := by decide +kernel
theorem dL_why_23 : decode cL_why 23 = .ok (.iconst 0, 1) := by decide +kernel
theorem dL_why_24 : decode cL_why 24 = .ok (.ireturn, 1) := by decide +kernel
theorem dL_ifPass_0 : decode cL_ifPass 0 = .ok (.aload_n 3, 1) := by decide +kernel
theorem dL_ifPass_1 : decode cL_ifPass 1 = .ok (.iconst 0, 1) := by decide +kernel
theorem dL_ifPass_2 : decode cL_ifPass 2 = .ok (.aload_n 0, 1) := by decide +kernel
theorem dL_ifPass_3 : decode cL_ifPass 3 = .ok (.iload_n 1, 1) := by decide +kernel
theorem dL_ifPass_4 : decode cL_ifPass 4 = .ok (.iload_n 2, 1) := by decide +kernel
theorem dL_ifPass_5 : decode cL_ifPass 5 = .ok (.invokevirtual 85, 3) := by decide +kernel
theorem dL_ifPass_8 : decode cL_ifPass 8 = .ok (.i2l, 1) := by decide +kernel
theorem dL_ifPass_9 : decode cL_ifPass 9 = .ok (.lastore, 1) := by decide +kernel
theorem dL_ifPass_10 : decode cL_ifPass 10 = .ok (.goto 7, 3) := by decide +kernel
theorem dL_ifPass_13 : decode cL_ifPass 13 = .ok (.astore 4, 2) := by decide +kernel
theorem dL_ifPass_15 : decode cL_ifPass 15 = .ok (.iconst 1, 1) := by decide +kernel
theorem dL_ifPass_16 : decode cL_ifPass 16 = .ok (.ireturn, 1) := by decide +kernel
theorem dL_ifPass_17 : decode cL_ifPass 17 = .ok (.iconst 0, 1) := by decide +kernel
theorem dL_ifPass_18 : decode cL_ifPass 18 = .ok (.ireturn, 1) := by decide +kernel
theorem dL_spoils_0 : decode cL_spoils 0 = .ok (.aload_n 3, 1) := by decide +kernel
theorem dL_spoils_1 : decode cL_spoils 1 = .ok (.iconst 0, 1) := by decide +kernel
theorem dL_spoils_2 : decode cL_spoils 2 = .ok (.aload_n 0, 1) := by decide +kernel
theorem dL_spoils_3 : decode cL_spoils 3 = .ok (.iload_n 1, 1) := by decide +kernel
theorem dL_spoils_4 : decode cL_spoils 4 = .ok (.iload_n 2, 1) := by decide +kernel
theorem dL_spoils_5 : decode cL_spoils 5 = .ok (.invokevirtual 88, 3) := by decide +kernel
theorem dL_spoils_8 : decode cL_spoils 8 = .ok (.i2l, 1) := by decide +kernel
theorem dL_spoils_9 : decode cL_spoils 9 = .ok (.lastore, 1) := by decide +kernel
theorem dL_spoils_10 : decode cL_spoils 10 = .ok (.goto 11, 3) := by decide +kernel
theorem dL_spoils_13 : decode cL_spoils 13 = .ok (.astore 4, 2) := by decide +kernel
theorem dL_spoils_15 : decode cL_spoils 15 = .ok (.iconst 1, 1) := by decide +kernel
theorem dL_spoils_16 : decode cL_spoils 16 = .ok (.ireturn, 1) := by decide +kernel
theorem dL_spoils_17 : decode cL_spoils 17 = .ok (.astore 4, 2) := by decide +kernel
theorem dL_spoils_19 : decode cL_spoils 19 = .ok (.iconst 2, 1) := by decide +kernel
theorem dL_spoils_20 : decode cL_spoils 20 = .ok (.ireturn, 1) := by decide +kernel
theorem dL_spoils_21 : decode cL_spoils 21 = .ok (.iconst 0, 1) := by decide +kernel
theorem dL_spoils_22 : decode cL_spoils 22 = .ok (.ireturn, 1) := by decide +kernel
theorem dL_shortIn_0 : decode cL_shortIn 0 = .ok (.aload_n 2, 1) := by decide +kernel
theorem dL_shortIn_1 : decode cL_shortIn 1 = .ok (.iconst 0, 1) := by decide +kernel
theorem dL_shortIn_2 : decode cL_shortIn 2 = .ok (.aload_n 0, 1) := by decide +kernel
theorem dL_shortIn_3 : decode cL_shortIn 3 = .ok (.iload_n 1, 1) := by decide +kernel
theorem dL_shortIn_4 : decode cL_shortIn 4 = .ok (.invokevirtual 91, 3) := by decide +kernel
theorem dL_shortIn_7 : decode cL_shortIn 7 = .ok (.i2l, 1) := by decide +kernel
theorem dL_shortIn_8 : decode cL_shortIn 8 = .ok (.lastore, 1) := by decide +kernel
theorem dL_shortIn_9 : decode cL_shortIn 9 = .ok (.goto 6, 3) := by decide +kernel
theorem dL_shortIn_12 : decode cL_shortIn 12 = .ok (.astore_n 3, 1) := by decide +kernel
theorem dL_shortIn_13 : decode cL_shortIn 13 = .ok (.iconst 1, 1) := by decide +kernel
theorem dL_shortIn_14 : decode cL_shortIn 14 = .ok (.ireturn, 1) := by decide +kernel
theorem dL_shortIn_15 : decode cL_shortIn 15 = .ok (.iconst 0, 1) := by decide +kernel
theorem dL_shortIn_16 : decode cL_shortIn 16 = .ok (.ireturn, 1) := by decide +kernel
theorem dL_bestStore_0 : decode cL_bestStore 0 = .ok (.aload_n 2, 1) := by decide +kernel
theorem dL_bestStore_1 : decode cL_bestStore 1 = .ok (.iconst 0, 1) := by decide +kernel
theorem dL_bestStore_2 : decode cL_bestStore 2 = .ok (.aload_n 0, 1) := by decide +kernel
theorem dL_bestStore_3 : decode cL_bestStore 3 = .ok (.iload_n 1, 1) := by decide +kernel
theorem dL_bestStore_4 : decode cL_bestStore 4 = .ok (.invokevirtual 94, 3) := by decide +kernel
theorem dL_bestStore_7 : decode cL_bestStore 7 = .ok (.i2l, 1) := by decide +kernel
theorem dL_bestStore_8 : decode cL_bestStore 8 = .ok (.lastore, 1) := by decide +kernel
theorem dL_bestStore_9 : decode cL_bestStore 9 = .ok (.goto 6, 3) := by decide +kernel
theorem dL_bestStore_12 : decode cL_bestStore 12 = .ok (.astore_n 3, 1) := by decide +kernel
theorem dL_bestStore_13 : decode cL_bestStore 13 = .ok (.iconst 1, 1) := by decide +kernel
theorem dL_bestStore_14 : decode cL_bestStore 14 = .ok (.ireturn, 1) := by decide +kernel
theorem dL_bestStore_15 : decode cL_bestStore 15 = .ok (.iconst 0, 1) := by decide +kernel
theorem dL_bestStore_16 : decode cL_bestStore 16 = .ok (.ireturn, 1) := by decide +kernel
theorem dL_leastPurchase_0 : decode cL_leastPurchase 0 = .ok (.aload_n 3, 1) := by decide +kernel
theorem dL_leastPurchase_1 : decode cL_leastPurchase 1 = .ok (.iconst 0, 1) := by decide +kernel
theorem dL_leastPurchase_2 : decode cL_leastPurchase 2 = .ok (.aload_n 0, 1) := by decide +kernel
theorem dL_leastPurchase_3 : decode cL_leastPurchase 3 = .ok (.iload_n 1, 1) := by decide +kernel
theorem dL_leastPurchase_4 : decode cL_leastPurchase 4 = .ok (.iload_n 2, 1) := by decide +kernel
theorem dL_leastPurchase_5 : decode cL_leastPurchase 5 = .ok (.invokevirtual 97, 3) := by decide +kernel
theorem dL_leastPurchase_8 : decode cL_leastPurchase 8 = .ok (.i2l, 1) := by decide +kernel
theorem dL_leastPurchase_9 : decode cL_leastPurchase 9 = .ok (.lastore, 1) := by decide +kernel
theorem dL_leastPurchase_10 : decode cL_leastPurchase 10 = .ok (.goto 7, 3) := by decide +kernel
theorem dL_leastPurchase_13 : decode cL_leastPurchase 13 = .ok (.astore 4, 2) := by decide +kernel
theorem dL_leastPurchase_15 : decode cL_leastPurchase 15 = .ok (.iconst 1, 1) := by decide +kernel
theorem dL_leastPurchase_16 : decode cL_leastPurchase 16 = .ok (.ireturn, 1) := by decide +kernel
theorem dL_leastPurchase_17 : decode cL_leastPurchase 17 = .ok (.iconst 0, 1) := by decide +kernel
theorem dL_leastPurchase_18 : decode cL_leastPurchase 18 = .ok (.ireturn, 1) := by decide +kernel
theorem dL_cheapest_0 : decode cL_cheapest 0 = .ok (.aload_n 2, 1) := by decide +kernel
theorem dL_cheapest_1 : decode cL_cheapest 1 = .ok (.iconst 0, 1) := by decide +kernel
theorem dL_cheapest_2 : decode cL_cheapest 2 = .ok (.aload_n 0, 1) := by decide +kernel
theorem dL_cheapest_3 : decode cL_cheapest 3 = .ok (.iload_n 1, 1) := by decide +kernel
theorem dL_cheapest_4 : decode cL_cheapest 4 = .ok (.invokevirtual 100, 3) := by decide +kernel
theorem dL_cheapest_7 : decode cL_cheapest 7 = .ok (.i2l, 1) := by decide +kernel
theorem dL_cheapest_8 : decode cL_cheapest 8 = .ok (.lastore, 1) := by decide +kernel
theorem dL_cheapest_9 : decode cL_cheapest 9 = .ok (.goto 6, 3) := by decide +kernel
theorem dL_cheapest_12 : decode cL_cheapest 12 = .ok (.astore_n 3, 1) := by decide +kernel
theorem dL_cheapest_13 : decode cL_cheapest 13 = .ok (.iconst 1, 1) := by decide +kernel
theorem dL_cheapest_14 : decode cL_cheapest 14 = .ok (.ireturn, 1) := by decide +kernel
theorem dL_cheapest_15 : decode cL_cheapest 15 = .ok (.iconst 0, 1) := by decide +kernel
theorem dL_cheapest_16 : decode cL_cheapest 16 = .ok (.ireturn, 1) := by decide +kernel
theorem dL_law_0 : decode cL_law 0 = .ok (.new 8, 3) := by decide +kernel
theorem dL_law_3 : decode cL_law 3 = .ok (.dup, 1) := by decide +kernel
theorem dL_law_4 : decode cL_law 4 = .ok (.invokespecial 103, 3) := by decide +kernel
theorem dL_law_7 : decode cL_law 7 = .ok (.astore_n 1, 1) := by decide +kernel
theorem dL_law_8 : decode cL_law 8 = .ok (.new 104, 3) := by decide +kernel
theorem dL_law_11 : decode cL_law 11 = .ok (.dup, 1) := by decide +kernel
theorem dL_law_12 : decode cL_law 12 = .ok (.invokespecial 106, 3) := by decide +kernel
theorem dL_law_15 : decode cL_law 15 = .ok (.astore_n 2, 1) := by decide +kernel
theorem dL_law_16 : decode cL_law 16 = .ok (.iconst 1, 1) := by decide +kernel
theorem dL_law_17 : decode cL_law 17 = .ok (.newarray .long, 2) := by decide +kernel
theorem dL_law_19 : decode cL_law 19 = .ok (.astore_n 3, 1) := by decide +kernel
theorem dL_law_20 : decode cL_law 20 = .ok (.iconst 0, 1) := by decide +kernel
theorem dL_law_21 : decode cL_law 21 = .ok (.istore 4, 2) := by decide +kernel
theorem dL_law_23 : decode cL_law 23 = .ok (.iload 4, 2) := by decide +kernel
theorem dL_law_25 : decode cL_law 25 = .ok (.aload_n 0, 1) := by decide +kernel
theorem dL_law_26 : decode cL_law 26 = .ok (.arraylength, 1) := by decide +kernel
theorem dL_law_27 : decode cL_law 27 = .ok (.iconst 4, 1) := by decide +kernel
theorem dL_law_28 : decode cL_law 28 = .ok (.isub, 1) := by decide +kernel
theorem dL_law_29 : decode cL_law 29 = .ok (.if_icmp .gt 2058, 3) := by decide +kernel
theorem dL_law_32 : decode cL_law 32 = .ok (.aload_n 0, 1) := by decide +kernel
theorem dL_law_33 : decode cL_law 33 = .ok (.iload 4, 2) := by decide +kernel
theorem dL_law_35 : decode cL_law 35 = .ok (.iaload, 1) := by decide +kernel
theorem dL_law_36 : decode cL_law 36 = .ok (.bipush 31, 2) := by decide +kernel
theorem dL_law_38 : decode cL_law 38 = .ok (.iand, 1) := by decide +kernel
theorem dL_law_39 : decode cL_law 39 = .ok (.tableswitch 2042 0 31 #[141, 221, 289, 357, 413, 469, 537, 593, 673, 753, 833, 901, 957, 1013, 1026, 1039, 1083, 1127, 1195, 1263, 1331, 1399, 1479, 1535, 1615, 1683, 1751, 1807, 1863, 1931, 1987, 2028], 141) := by decide +kernel
theorem dL_law_180 : decode cL_law 180 = .ok (.aload_n 1, 1) := by decide +kernel
theorem dL_law_181 : decode cL_law 181 = .ok (.aload_n 0, 1) := by decide +kernel
theorem dL_law_182 : decode cL_law 182 = .ok (.iload 4, 2) := by decide +kernel
theorem dL_law_184 : decode cL_law 184 = .ok (.iconst 1, 1) := by decide +kernel
theorem dL_law_185 : decode cL_law 185 = .ok (.iadd, 1) := by decide +kernel
theorem dL_law_186 : decode cL_law 186 = .ok (.iaload, 1) := by decide +kernel
theorem dL_law_187 : decode cL_law 187 = .ok (.aload_n 0, 1) := by decide +kernel
theorem dL_law_188 : decode cL_law 188 = .ok (.iload 4, 2) := by decide +kernel
theorem dL_law_190 : decode cL_law 190 = .ok (.iconst 2, 1) := by decide +kernel
theorem dL_law_191 : decode cL_law 191 = .ok (.iadd, 1) := by decide +kernel
theorem dL_law_192 : decode cL_law 192 = .ok (.iaload, 1) := by decide +kernel
theorem dL_law_193 : decode cL_law 193 = .ok (.aload_n 0, 1) := by decide +kernel
theorem dL_law_194 : decode cL_law 194 = .ok (.iload 4, 2) := by decide +kernel
theorem dL_law_196 : decode cL_law 196 = .ok (.iconst 3, 1) := by decide +kernel
theorem dL_law_197 : decode cL_law 197 = .ok (.iadd, 1) := by decide +kernel
theorem dL_law_198 : decode cL_law 198 = .ok (.iaload, 1) := by decide +kernel
theorem dL_law_199 : decode cL_law 199 = .ok (.aload_n 3, 1) := by decide +kernel
theorem dL_law_200 : decode cL_law 200 = .ok (.invokestatic 107, 3) := by decide +kernel
theorem dL_law_203 : decode cL_law 203 = .ok (.istore 5, 2) := by decide +kernel
theorem dL_law_205 : decode cL_law 205 = .ok (.aload_n 2, 1) := by decide +kernel
theorem dL_law_206 : decode cL_law 206 = .ok (.aload_n 0, 1) := by decide +kernel
theorem dL_law_207 : decode cL_law 207 = .ok (.iload 4, 2) := by decide +kernel
theorem dL_law_209 : decode cL_law 209 = .ok (.iconst 1, 1) := by decide +kernel
theorem dL_law_210 : decode cL_law 210 = .ok (.iadd, 1) := by decide +kernel
theorem dL_law_211 : decode cL_law 211 = .ok (.iaload, 1) := by decide +kernel
theorem dL_law_212 : decode cL_law 212 = .ok (.aload_n 0, 1) := by decide +kernel
theorem dL_law_213 : decode cL_law 213 = .ok (.iload 4, 2) := by decide +kernel
theorem dL_law_215 : decode cL_law 215 = .ok (.iconst 2, 1) := by decide +kernel
theorem dL_law_216 : decode cL_law 216 = .ok (.iadd, 1) := by decide +kernel
theorem dL_law_217 : decode cL_law 217 = .ok (.iaload, 1) := by decide +kernel
theorem dL_law_218 : decode cL_law 218 = .ok (.aload_n 0, 1) := by decide +kernel
theorem dL_law_219 : decode cL_law 219 = .ok (.iload 4, 2) := by decide +kernel
theorem dL_law_221 : decode cL_law 221 = .ok (.iconst 3, 1) := by decide +kernel
theorem dL_law_222 : decode cL_law 222 = .ok (.iadd, 1) := by decide +kernel
theorem dL_law_223 : decode cL_law 223 = .ok (.iaload, 1) := by decide +kernel
theorem dL_law_224 : decode cL_law 224 = .ok (.invokevirtual 112, 3) := by decide +kernel
theorem dL_law_227 : decode cL_law 227 = .ok (.istore 6, 2) := by decide +kernel
theorem dL_law_229 : decode cL_law 229 = .ok (.aload_n 2, 1) := by decide +kernel
theorem dL_law_230 : decode cL_law 230 = .ok (.invokevirtual 113, 3) := by decide +kernel
theorem dL_law_233 : decode cL_law 233 = .ok (.iload 5, 2) := by decide +kernel
theorem dL_law_235 : decode cL_law 235 = .ok (.if_icmp .eq 5, 3) := by decide +kernel
theorem dL_law_238 : decode cL_law 238 = .ok (.iconst 0, 1) := by decide +kernel
theorem dL_law_239 : decode cL_law 239 = .ok (.ireturn, 1) := by decide +kernel
theorem dL_law_240 : decode cL_law 240 = .ok (.iload 5, 2) := by decide +kernel
theorem dL_law_242 : decode cL_law 242 = .ok (.ifCond .ne 15, 3) := by decide +kernel
theorem dL_law_245 : decode cL_law 245 = .ok (.aload_n 3, 1) := by decide +kernel
theorem dL_law_246 : decode cL_law 246 = .ok (.iconst 0, 1) := by decide +kernel
theorem dL_law_247 : decode cL_law 247 = .ok (.laload, 1) := by decide +kernel
theorem dL_law_248 : decode cL_law 248 = .ok (.iload 6, 2) := by decide +kernel
theorem dL_law_250 : decode cL_law 250 = .ok (.i2l, 1) := by decide +kernel
theorem dL_law_251 : decode cL_law 251 = .ok (.lcmp, 1) := by decide +kernel
theorem dL_law_252 : decode cL_law 252 = .ok (.ifCond .eq 5, 3) := by decide +kernel
theorem dL_law_255 : decode cL_law 255 = .ok (.iconst 0, 1) := by decide +kernel
theorem dL_law_256 : decode cL_law 256 = .ok (.ireturn, 1) := by decide +kernel
theorem dL_law_257 : decode cL_law 257 = .ok (.goto 1824, 3) := by decide +kernel
theorem dL_law_260 : decode cL_law 260 = .ok (.aload_n 1, 1) := by decide +kernel
theorem dL_law_261 : decode cL_law 261 = .ok (.aload_n 0, 1) := by decide +kernel
theorem dL_law_262 : decode cL_law 262 = .ok (.iload 4, 2) := by decide +kernel
theorem dL_law_264 : decode cL_law 264 = .ok (.iconst 1, 1) := by decide +kernel
theorem dL_law_265 : decode cL_law 265 = .ok (.iadd, 1) := by decide +kernel
theorem dL_law_266 : decode cL_law 266 = .ok (.iaload, 1) := by decide +kernel
theorem dL_law_267 : decode cL_law 267 = .ok (.aload_n 0, 1) := by decide +kernel
theorem dL_law_268 : decode cL_law 268 = .ok (.iload 4, 2) := by decide +kernel
theorem dL_law_270 : decode cL_law 270 = .ok (.iconst 2, 1) := by decide +kernel
theorem dL_law_271 : decode cL_law 271 = .ok (.iadd, 1) := by decide +kernel
theorem dL_law_272 : decode cL_law 272 = .ok (.iaload, 1) := by decide +kernel
theorem dL_law_273 : decode cL_law 273 = .ok (.aload_n 3, 1) := by decide +kernel
theorem dL_law_274 : decode cL_law 274 = .ok (.invokestatic 116, 3) := by decide +kernel
theorem dL_law_277 : decode cL_law 277 = .ok (.istore 5, 2) := by decide +kernel
theorem dL_law_279 : decode cL_law 279 = .ok (.aload_n 2, 1) := by decide +kernel
theorem dL_law_280 : decode cL_law 280 = .ok (.aload_n 0, 1) := by decide +kernel
theorem dL_law_281 : decode cL_law 281 = .ok (.iload 4, 2) := by decide +kernel
theorem dL_law_283 : decode cL_law 283 = .ok (.iconst 1, 1) := by decide +kernel
theorem dL_law_284 : decode cL_law 284 = .ok (.iadd, 1) := by decide +kernel
theorem dL_law_285 : decode cL_law 285 = .ok (.iaload, 1) := by decide +kernel
theorem dL_law_286 : decode cL_law 286 = .ok (.aload_n 0, 1) := by decide +kernel
theorem dL_law_287 : decode cL_law 287 = .ok (.iload 4, 2) := by decide +kernel
theorem dL_law_289 : decode cL_law 289 = .ok (.iconst 2, 1) := by decide +kernel
theorem dL_law_290 : decode cL_law 290 = .ok (.iadd, 1) := by decide +kernel
theorem dL_law_291 : decode cL_law 291 = .ok (.iaload, 1) := by decide +kernel
theorem dL_law_292 : decode cL_law 292 = .ok (.invokevirtual 119, 3) := by decide +kernel
theorem dL_law_295 : decode cL_law 295 = .ok (.istore 6, 2) := by decide +kernel
theorem dL_law_297 : decode cL_law 297 = .ok (.aload_n 2, 1) := by decide +kernel
theorem dL_law_298 : decode cL_law 298 = .ok (.invokevirtual 113, 3) := by decide +kernel
theorem dL_law_301 : decode cL_law 301 = .ok (.iload 5, 2) := by decide +kernel
theorem dL_law_303 : decode cL_law 303 = .ok (.if_icmp .eq 5, 3) := by decide +kernel
theorem dL_law_306 : decode cL_law 306 = .ok (.iconst 0, 1) := by decide +kernel
theorem dL_law_307 : decode cL_law 307 = .ok (.ireturn, 1) := by decide +kernel
theorem dL_law_308 : decode cL_law 308 = .ok (.iload 5, 2) := by decide +kernel
theorem dL_law_310 : decode cL_law 310 = .ok (.ifCond .ne 15, 3) := by decide +kernel
theorem dL_law_313 : decode cL_law 313 = .ok (.aload_n 3, 1) := by decide +kernel
theorem dL_law_314 : decode cL_law 314 = .ok (.iconst 0, 1) := by decide +kernel
theorem dL_law_315 : decode cL_law 315 = .ok (.laload, 1) := by decide +kernel
theorem dL_law_316 : decode cL_law 316 = .ok (.iload 6, 2) := by decide +kernel
theorem dL_law_318 : decode cL_law 318 = .ok (.i2l, 1) := by decide +kernel
theorem dL_law_319 : decode cL_law 319 = .ok (.lcmp, 1) := by decide +kernel
theorem dL_law_320 : decode cL_law 320 = .ok (.ifCond .eq 5, 3) := by decide +kernel
theorem dL_law_323 : decode cL_law 323 = .ok (.iconst 0, 1) := by decide +kernel
theorem dL_law_324 : decode cL_law 324 = .ok (.ireturn, 1) := by decide +kernel
theorem dL_law_325 : decode cL_law 325 = .ok (.goto 1756, 3) := by decide +kernel
theorem dL_law_328 : decode cL_law 328 = .ok (.aload_n 1, 1) := by decide +kernel
theorem dL_law_329 : decode cL_law 329 = .ok (.aload_n 0, 1) := by decide +kernel
theorem dL_law_330 : decode cL_law 330 = .ok (.iload 4, 2) := by decide +kernel
theorem dL_law_332 : decode cL_law 332 = .ok (.iconst 1, 1) := by decide +kernel
theorem dL_law_333 : decode cL_law 333 = .ok (.iadd, 1) := by decide +kernel
theorem dL_law_334 : decode cL_law 334 = .ok (.iaload, 1) := by decide +kernel
theorem dL_law_335 : decode cL_law 335 = .ok (.aload_n 0, 1) := by decide +kernel
theorem dL_law_336 : decode cL_law 336 = .ok (.iload 4, 2) := by decide +kernel
theorem dL_law_338 : decode cL_law 338 = .ok (.iconst 2, 1) := by decide +kernel
theorem dL_law_339 : decode cL_law 339 = .ok (.iadd, 1) := by decide +kernel
theorem dL_law_340 : decode cL_law 340 = .ok (.iaload, 1) := by decide +kernel
theorem dL_law_341 : decode cL_law 341 = .ok (.aload_n 3, 1) := by decide +kernel
theorem dL_law_342 : decode cL_law 342 = .ok (.invokestatic 120, 3) := by decide +kernel
theorem dL_law_345 : decode cL_law 345 = .ok (.istore 5, 2) := by decide +kernel
theorem dL_law_347 : decode cL_law 347 = .ok (.aload_n 2, 1) := by decide +kernel
theorem dL_law_348 : decode cL_law 348 = .ok (.aload_n 0, 1) := by decide +kernel
theorem dL_law_349 : decode cL_law 349 = .ok (.iload 4, 2) := by decide +kernel
theorem dL_law_351 : decode cL_law 351 = .ok (.iconst 1, 1) := by decide +kernel
theorem dL_law_352 : decode cL_law 352 = .ok (.iadd, 1) := by decide +kernel
theorem dL_law_353 : decode cL_law 353 = .ok (.iaload, 1) := by decide +kernel
theorem dL_law_354 : decode cL_law 354 = .ok (.aload_n 0, 1) := by decide +kernel
theorem dL_law_355 : decode cL_law 355 = .ok (.iload 4, 2) := by decide +kernel
theorem dL_law_357 : decode cL_law 357 = .ok (.iconst 2, 1) := by decide +kernel
theorem dL_law_358 : decode cL_law 358 = .ok (.iadd, 1) := by decide +kernel
theorem dL_law_359 : decode cL_law 359 = .ok (.iaload, 1) := by decide +kernel
theorem dL_law_360 : decode cL_law 360 = .ok (.invokevirtual 122, 3) := by decide +kernel
theorem dL_law_363 : decode cL_law 363 = .ok (.istore 6, 2) := by decide +kernel
theorem dL_law_365 : decode cL_law 365 = .ok (.aload_n 2, 1) := by decide +kernel
theorem dL_law_366 : decode cL_law 366 = .ok (.invokevirtual 113, 3) := by decide +kernel
theorem dL_law_369 : decode cL_law 369 = .ok (.iload 5, 2) := by decide +kernel
theorem dL_law_371 : decode cL_law 371 = .ok (.if_icmp .eq 5, 3) := by decide +kernel
theorem dL_law_374 : decode cL_law 374 = .ok (.iconst 0, 1) := by decide +kernel
theorem dL_law_375 : decode cL_law 375 = .ok (.ireturn, 1) := by decide +kernel
theorem dL_law_376 : decode cL_law 376 = .ok (.iload 5, 2) := by decide +kernel
theorem dL_law_378 : decode cL_law 378 = .ok (.ifCond .ne 15, 3) := by decide +kernel
theorem dL_law_381 : decode cL_law 381 = .ok (.aload_n 3, 1) := by decide +kernel
theorem dL_law_382 : decode cL_law 382 = .ok (.iconst 0, 1) := by decide +kernel
theorem dL_law_383 : decode cL_law 383 = .ok (.laload, 1) := by decide +kernel
theorem dL_law_384 : decode cL_law 384 = .ok (.iload 6, 2) := by decide +kernel
theorem dL_law_386 : decode cL_law 386 = .ok (.i2l, 1) := by decide +kernel
theorem dL_law_387 : decode cL_law 387 = .ok (.lcmp, 1) := by decide +kernel
theorem dL_law_388 : decode cL_law 388 = .ok (.ifCond .eq 5, 3) := by decide +kernel
theorem dL_law_391 : decode cL_law 391 = .ok (.iconst 0, 1) := by decide +kernel
theorem dL_law_392 : decode cL_law 392 = .ok (.ireturn, 1) := by decide +kernel
theorem dL_law_393 : decode cL_law 393 = .ok (.goto 1688, 3) := by decide +kernel
theorem dL_law_396 : decode cL_law 396 = .ok (.aload_n 1, 1) := by decide +kernel
theorem dL_law_397 : decode cL_law 397 = .ok (.aload_n 0, 1) := by decide +kernel
theorem dL_law_398 : decode cL_law 398 = .ok (.iload 4, 2) := by decide +kernel
theorem dL_law_400 : decode cL_law 400 = .ok (.iconst 1, 1) := by decide +kernel
theorem dL_law_401 : decode cL_law 401 = .ok (.iadd, 1) := by decide +kernel
theorem dL_law_402 : decode cL_law 402 = .ok (.iaload, 1) := by decide +kernel
theorem dL_law_403 : decode cL_law 403 = .ok (.aload_n 3, 1) := by decide +kernel
theorem dL_law_404 : decode cL_law 404 = .ok (.invokestatic 123, 3) := by decide +kernel
theorem dL_law_407 : decode cL_law 407 = .ok (.istore 5, 2) := by decide +kernel
theorem dL_law_409 : decode cL_law 409 = .ok (.aload_n 2, 1) := by decide +kernel
theorem dL_law_410 : decode cL_law 410 = .ok (.aload_n 0, 1) := by decide +kernel
theorem dL_law_411 : decode cL_law 411 = .ok (.iload 4, 2) := by decide +kernel
theorem dL_law_413 : decode cL_law 413 = .ok (.iconst 1, 1) := by decide +kernel
theorem dL_law_414 : decode cL_law 414 = .ok (.iadd, 1) := by decide +kernel
theorem dL_law_415 : decode cL_law 415 = .ok (.iaload, 1) := by decide +kernel
theorem dL_law_416 : decode cL_law 416 = .ok (.invokevirtual 126, 3) := by decide +kernel
theorem dL_law_419 : decode cL_law 419 = .ok (.istore 6, 2) := by decide +kernel
theorem dL_law_421 : decode cL_law 421 = .ok (.aload_n 2, 1) := by decide +kernel
theorem dL_law_422 : decode cL_law 422 = .ok (.invokevirtual 113, 3) := by decide +kernel
theorem dL_law_425 : decode cL_law 425 = .ok (.iload 5, 2) := by decide +kernel
theorem dL_law_427 : decode cL_law 427 = .ok (.if_icmp .eq 5, 3) := by decide +kernel
theorem dL_law_430 : decode cL_law 430 = .ok (.iconst 0, 1) := by decide +kernel
theorem dL_law_431 : decode cL_law 431 = .ok (.ireturn, 1) := by decide +kernel
theorem dL_law_432 : decode cL_law 432 = .ok (.iload 5, 2) := by decide +kernel
theorem dL_law_434 : decode cL_law 434 = .ok (.ifCond .ne 15, 3) := by decide +kernel
theorem dL_law_437 : decode cL_law 437 = .ok (.aload_n 3, 1) := by decide +kernel
theorem dL_law_438 : decode cL_law 438 = .ok (.iconst 0, 1) := by decide +kernel
theorem dL_law_439 : decode cL_law 439 = .ok (.laload, 1) := by decide +kernel
theorem dL_law_440 : decode cL_law 440 = .ok (.iload 6, 2) := by decide +kernel
theorem dL_law_442 : decode cL_law 442 = .ok (.i2l, 1) := by decide +kernel
theorem dL_law_443 : decode cL_law 443 = .ok (.lcmp, 1) := by decide +kernel
theorem dL_law_444 : decode cL_law 444 = .ok (.ifCond .eq 5, 3) := by decide +kernel
theorem dL_law_447 : decode cL_law 447 = .ok (.iconst 0, 1) := by decide +kernel
theorem dL_law_448 : decode cL_law 448 = .ok (.ireturn, 1) := by decide +kernel
theorem dL_law_449 : decode cL_law 449 = .ok (.goto 1632, 3) := by decide +kernel
theorem dL_law_452 : decode cL_law 452 = .ok (.aload_n 1, 1) := by decide +kernel
theorem dL_law_453 : decode cL_law 453 = .ok (.aload_n 0, 1) := by decide +kernel
theorem dL_law_454 : decode cL_law 454 = .ok (.iload 4, 2) := by decide +kernel
theorem dL_law_456 : decode cL_law 456 = .ok (.iconst 1, 1) := by decide +kernel
theorem dL_law_457 : decode cL_law 457 = .ok (.iadd, 1) := by decide +kernel
theorem dL_law_458 : decode cL_law 458 = .ok (.iaload, 1) := by decide +kernel
theorem dL_law_459 : decode cL_law 459 = .ok (.aload_n 3, 1) := by decide +kernel
theorem dL_law_460 : decode cL_law 460 = .ok (.invokestatic 127, 3) := by decide +kernel
theorem dL_law_463 : decode cL_law 463 = .ok (.istore 5, 2) := by decide +kernel
theorem dL_law_465 : decode cL_law 465 = .ok (.aload_n 2, 1) := by decide +kernel
theorem dL_law_466 : decode cL_law 466 = .ok (.aload_n 0, 1) := by decide +kernel
theorem dL_law_467 : decode cL_law 467 = .ok (.iload 4, 2) := by decide +kernel
theorem dL_law_469 : decode cL_law 469 = .ok (.iconst 1, 1) := by decide +kernel
theorem dL_law_470 : decode cL_law 470 = .ok (.iadd, 1) := by decide +kernel
theorem dL_law_471 : decode cL_law 471 = .ok (.iaload, 1) := by decide +kernel
theorem dL_law_472 : decode cL_law 472 = .ok (.invokevirtual 129, 3) := by decide +kernel
theorem dL_law_475 : decode cL_law 475 = .ok (.istore 6, 2) := by decide +kernel
theorem dL_law_477 : decode cL_law 477 = .ok (.aload_n 2, 1) := by decide +kernel
theorem dL_law_478 : decode cL_law 478 = .ok (.invokevirtual 113, 3) := by decide +kernel
theorem dL_law_481 : decode cL_law 481 = .ok (.iload 5, 2) := by decide +kernel
theorem dL_law_483 : decode cL_law 483 = .ok (.if_icmp .eq 5, 3) := by decide +kernel
theorem dL_law_486 : decode cL_law 486 = .ok (.iconst 0, 1) := by decide +kernel
theorem dL_law_487 : decode cL_law 487 = .ok (.ireturn, 1) := by decide +kernel
theorem dL_law_488 : decode cL_law 488 = .ok (.iload 5, 2) := by decide +kernel
theorem dL_law_490 : decode cL_law 490 = .ok (.ifCond .ne 15, 3) := by decide +kernel
theorem dL_law_493 : decode cL_law 493 = .ok (.aload_n 3, 1) := by decide +kernel
theorem dL_law_494 : decode cL_law 494 = .ok (.iconst 0, 1) := by decide +kernel
theorem dL_law_495 : decode cL_law 495 = .ok (.laload, 1) := by decide +kernel
theorem dL_law_496 : decode cL_law 496 = .ok (.iload 6, 2) := by decide +kernel
theorem dL_law_498 : decode cL_law 498 = .ok (.i2l, 1) := by decide +kernel
theorem dL_law_499 : decode cL_law 499 = .ok (.lcmp, 1) := by decide +kernel
theorem dL_law_500 : decode cL_law 500 = .ok (.ifCond .eq 5, 3) := by decide +kernel
theorem dL_law_503 : decode cL_law 503 = .ok (.iconst 0, 1) := by decide +kernel
theorem dL_law_504 : decode cL_law 504 = .ok (.ireturn, 1) := by decide +kernel
theorem dL_law_505 : decode cL_law 505 = .ok (.goto 1576, 3) := by decide +kernel
theorem dL_law_508 : decode cL_law 508 = .ok (.aload_n 1, 1) := by decide +kernel
theorem dL_law_509 : decode cL_law 509 = .ok (.aload_n 0, 1) := by decide +kernel
theorem dL_law_510 : decode cL_law 510 = .ok (.iload 4, 2) := by decide +kernel
theorem dL_law_512 : decode cL_law 512 = .ok (.iconst 1, 1) := by decide +kernel
theorem dL_law_513 : decode cL_law 513 = .ok (.iadd, 1) := by decide +kernel
theorem dL_law_514 : decode cL_law 514 = .ok (.iaload, 1) := by decide +kernel
theorem dL_law_515 : decode cL_law 515 = .ok (.aload_n 0, 1) := by decide +kernel
theorem dL_law_516 : decode cL_law 516 = .ok (.iload 4, 2) := by decide +kernel
theorem dL_law_518 : decode cL_law 518 = .ok (.iconst 2, 1) := by decide +kernel
theorem dL_law_519 : decode cL_law 519 = .ok (.iadd, 1) := by decide +kernel
theorem dL_law_520 : decode cL_law 520 = .ok (.iaload, 1) := by decide +kernel
theorem dL_law_521 : decode cL_law 521 = .ok (.aload_n 3, 1) := by decide +kernel
theorem dL_law_522 : decode cL_law 522 = .ok (.invokestatic 130, 3) := by decide +kernel
theorem dL_law_525 : decode cL_law 525 = .ok (.istore 5, 2) := by decide +kernel
theorem dL_law_527 : decode cL_law 527 = .ok (.aload_n 2, 1) := by decide +kernel
theorem dL_law_528 : decode cL_law 528 = .ok (.aload_n 0, 1) := by decide +kernel
theorem dL_law_529 : decode cL_law 529 = .ok (.iload 4, 2) := by decide +kernel
theorem dL_law_531 : decode cL_law 531 = .ok (.iconst 1, 1) := by decide +kernel
theorem dL_law_532 : decode cL_law 532 = .ok (.iadd, 1) := by decide +kernel
theorem dL_law_533 : decode cL_law 533 = .ok (.iaload, 1) := by decide +kernel
theorem dL_law_534 : decode cL_law 534 = .ok (.aload_n 0, 1) := by decide +kernel
theorem dL_law_535 : decode cL_law 535 = .ok (.iload 4, 2) := by decide +kernel
theorem dL_law_537 : decode cL_law 537 = .ok (.iconst 2, 1) := by decide +kernel
theorem dL_law_538 : decode cL_law 538 = .ok (.iadd, 1) := by decide +kernel
theorem dL_law_539 : decode cL_law 539 = .ok (.iaload, 1) := by decide +kernel
theorem dL_law_540 : decode cL_law 540 = .ok (.invokevirtual 132, 3) := by decide +kernel
theorem dL_law_543 : decode cL_law 543 = .ok (.istore 6, 2) := by decide +kernel
theorem dL_law_545 : decode cL_law 545 = .ok (.aload_n 2, 1) := by decide +kernel
theorem dL_law_546 : decode cL_law 546 = .ok (.invokevirtual 113, 3) := by decide +kernel
theorem dL_law_549 : decode cL_law 549 = .ok (.iload 5, 2) := by decide +kernel
theorem dL_law_551 : decode cL_law 551 = .ok (.if_icmp .eq 5, 3) := by decide +kernel
theorem dL_law_554 : decode cL_law 554 = .ok (.iconst 0, 1) := by decide +kernel
theorem dL_law_555 : decode cL_law 555 = .ok (.ireturn, 1) := by decide +kernel
theorem dL_law_556 : decode cL_law 556 = .ok (.iload 5, 2) := by decide +kernel
theorem dL_law_558 : decode cL_law 558 = .ok (.ifCond .ne 15, 3) := by decide +kernel
theorem dL_law_561 : decode cL_law 561 = .ok (.aload_n 3, 1) := by decide +kernel
theorem dL_law_562 : decode cL_law 562 = .ok (.iconst 0, 1) := by decide +kernel
theorem dL_law_563 : decode cL_law 563 = .ok (.laload, 1) := by decide +kernel
theorem dL_law_564 : decode cL_law 564 = .ok (.iload 6, 2) := by decide +kernel
theorem dL_law_566 : decode cL_law 566 = .ok (.i2l, 1) := by decide +kernel
theorem dL_law_567 : decode cL_law 567 = .ok (.lcmp, 1) := by decide +kernel
theorem dL_law_568 : decode cL_law 568 = .ok (.ifCond .eq 5, 3) := by decide +kernel
theorem dL_law_571 : decode cL_law 571 = .ok (.iconst 0, 1) := by decide +kernel
theorem dL_law_572 : decode cL_law 572 = .ok (.ireturn, 1) := by decide +kernel
theorem dL_law_573 : decode cL_law 573 = .ok (.goto 1508, 3) := by decide +kernel
theorem dL_law_576 : decode cL_law 576 = .ok (.aload_n 1, 1) := by decide +kernel
theorem dL_law_577 : decode cL_law 577 = .ok (.aload_n 0, 1) := by decide +kernel
theorem dL_law_578 : decode cL_law 578 = .ok (.iload 4, 2) := by decide +kernel
theorem dL_law_580 : decode cL_law 580 = .ok (.iconst 1, 1) := by decide +kernel
theorem dL_law_581 : decode cL_law 581 = .ok (.iadd, 1) := by decide +kernel
theorem dL_law_582 : decode cL_law 582 = .ok (.iaload, 1) := by decide +kernel
theorem dL_law_583 : decode cL_law 583 = .ok (.aload_n 3, 1) := by decide +kernel
theorem dL_law_584 : decode cL_law 584 = .ok (.invokestatic 133, 3) := by decide +kernel
theorem dL_law_587 : decode cL_law 587 = .ok (.istore 5, 2) := by decide +kernel
theorem dL_law_589 : decode cL_law 589 = .ok (.aload_n 2, 1) := by decide +kernel
theorem dL_law_590 : decode cL_law 590 = .ok (.aload_n 0, 1) := by decide +kernel
theorem dL_law_591 : decode cL_law 591 = .ok (.iload 4, 2) := by decide +kernel
theorem dL_law_593 : decode cL_law 593 = .ok (.iconst 1, 1) := by decide +kernel
theorem dL_law_594 : decode cL_law 594 = .ok (.iadd, 1) := by decide +kernel
theorem dL_law_595 : decode cL_law 595 = .ok (.iaload, 1) := by decide +kernel
theorem dL_law_596 : decode cL_law 596 = .ok (.invokevirtual 135, 3) := by decide +kernel
theorem dL_law_599 : decode cL_law 599 = .ok (.istore 6, 2) := by decide +kernel
theorem dL_law_601 : decode cL_law 601 = .ok (.aload_n 2, 1) := by decide +kernel
theorem dL_law_602 : decode cL_law 602 = .ok (.invokevirtual 113, 3) := by decide +kernel
theorem dL_law_605 : decode cL_law 605 = .ok (.iload 5, 2) := by decide +kernel
theorem dL_law_607 : decode cL_law 607 = .ok (.if_icmp .eq 5, 3) := by decide +kernel
theorem dL_law_610 : decode cL_law 610 = .ok (.iconst 0, 1) := by decide +kernel
theorem dL_law_611 : decode cL_law 611 = .ok (.ireturn, 1) := by decide +kernel
theorem dL_law_612 : decode cL_law 612 = .ok (.iload 5, 2) := by decide +kernel
theorem dL_law_614 : decode cL_law 614 = .ok (.ifCond .ne 15, 3) := by decide +kernel
theorem dL_law_617 : decode cL_law 617 = .ok (.aload_n 3, 1) := by decide +kernel
theorem dL_law_618 : decode cL_law 618 = .ok (.iconst 0, 1) := by decide +kernel
theorem dL_law_619 : decode cL_law 619 = .ok (.laload, 1) := by decide +kernel
theorem dL_law_620 : decode cL_law 620 = .ok (.iload 6, 2) := by decide +kernel
theorem dL_law_622 : decode cL_law 622 = .ok (.i2l, 1) := by decide +kernel
theorem dL_law_623 : decode cL_law 623 = .ok (.lcmp, 1) := by decide +kernel
theorem dL_law_624 : decode cL_law 624 = .ok (.ifCond .eq 5, 3) := by decide +kernel
theorem dL_law_627 : decode cL_law 627 = .ok (.iconst 0, 1) := by decide +kernel
theorem dL_law_628 : decode cL_law 628 = .ok (.ireturn, 1) := by decide +kernel
theorem dL_law_629 : decode cL_law 629 = .ok (.goto 1452, 3) := by decide +kernel
theorem dL_law_632 : decode cL_law 632 = .ok (.aload_n 1, 1) := by decide +kernel
theorem dL_law_633 : decode cL_law 633 = .ok (.aload_n 0, 1) := by decide +kernel
theorem dL_law_634 : decode cL_law 634 = .ok (.iload 4, 2) := by decide +kernel
theorem dL_law_636 : decode cL_law 636 = .ok (.iconst 1, 1) := by decide +kernel
theorem dL_law_637 : decode cL_law 637 = .ok (.iadd, 1) := by decide +kernel
theorem dL_law_638 : decode cL_law 638 = .ok (.iaload, 1) := by decide +kernel
theorem dL_law_639 : decode cL_law 639 = .ok (.aload_n 0, 1) := by decide +kernel
theorem dL_law_640 : decode cL_law 640 = .ok (.iload 4, 2) := by decide +kernel
theorem dL_law_642 : decode cL_law 642 = .ok (.iconst 2, 1) := by decide +kernel
theorem dL_law_643 : decode cL_law 643 = .ok (.iadd, 1) := by decide +kernel
theorem dL_law_644 : decode cL_law 644 = .ok (.iaload, 1) := by decide +kernel
theorem dL_law_645 : decode cL_law 645 = .ok (.aload_n 0, 1) := by decide +kernel
theorem dL_law_646 : decode cL_law 646 = .ok (.iload 4, 2) := by decide +kernel
theorem dL_law_648 : decode cL_law 648 = .ok (.iconst 3, 1) := by decide +kernel
theorem dL_law_649 : decode cL_law 649 = .ok (.iadd, 1) := by decide +kernel
theorem dL_law_650 : decode cL_law 650 = .ok (.iaload, 1) := by decide +kernel
theorem dL_law_651 : decode cL_law 651 = .ok (.aload_n 3, 1) := by decide +kernel
theorem dL_law_652 : decode cL_law 652 = .ok (.invokestatic 136, 3) := by decide +kernel
theorem dL_law_655 : decode cL_law 655 = .ok (.istore 5, 2) := by decide +kernel
theorem dL_law_657 : decode cL_law 657 = .ok (.aload_n 2, 1) := by decide +kernel
theorem dL_law_658 : decode cL_law 658 = .ok (.aload_n 0, 1) := by decide +kernel
theorem dL_law_659 : decode cL_law 659 = .ok (.iload 4, 2) := by decide +kernel
theorem dL_law_661 : decode cL_law 661 = .ok (.iconst 1, 1) := by decide +kernel
theorem dL_law_662 : decode cL_law 662 = .ok (.iadd, 1) := by decide +kernel
theorem dL_law_663 : decode cL_law 663 = .ok (.iaload, 1) := by decide +kernel
theorem dL_law_664 : decode cL_law 664 = .ok (.aload_n 0, 1) := by decide +kernel
theorem dL_law_665 : decode cL_law 665 = .ok (.iload 4, 2) := by decide +kernel
theorem dL_law_667 : decode cL_law 667 = .ok (.iconst 2, 1) := by decide +kernel
theorem dL_law_668 : decode cL_law 668 = .ok (.iadd, 1) := by decide +kernel
theorem dL_law_669 : decode cL_law 669 = .ok (.iaload, 1) := by decide +kernel
theorem dL_law_670 : decode cL_law 670 = .ok (.aload_n 0, 1) := by decide +kernel
theorem dL_law_671 : decode cL_law 671 = .ok (.iload 4, 2) := by decide +kernel
theorem dL_law_673 : decode cL_law 673 = .ok (.iconst 3, 1) := by decide +kernel
theorem dL_law_674 : decode cL_law 674 = .ok (.iadd, 1) := by decide +kernel
theorem dL_law_675 : decode cL_law 675 = .ok (.iaload, 1) := by decide +kernel
theorem dL_law_676 : decode cL_law 676 = .ok (.invokevirtual 138, 3) := by decide +kernel
theorem dL_law_679 : decode cL_law 679 = .ok (.istore 6, 2) := by decide +kernel
theorem dL_law_681 : decode cL_law 681 = .ok (.aload_n 2, 1) := by decide +kernel
theorem dL_law_682 : decode cL_law 682 = .ok (.invokevirtual 113, 3) := by decide +kernel
theorem dL_law_685 : decode cL_law 685 = .ok (.iload 5, 2) := by decide +kernel
theorem dL_law_687 : decode cL_law 687 = .ok (.if_icmp .eq 5, 3) := by decide +kernel
theorem dL_law_690 : decode cL_law 690 = .ok (.iconst 0, 1) := by decide +kernel
theorem dL_law_691 : decode cL_law 691 = .ok (.ireturn, 1) := by decide +kernel
theorem dL_law_692 : decode cL_law 692 = .ok (.iload 5, 2) := by decide +kernel
theorem dL_law_694 : decode cL_law 694 = .ok (.ifCond .ne 15, 3) := by decide +kernel
theorem dL_law_697 : decode cL_law 697 = .ok (.aload_n 3, 1) := by decide +kernel
theorem dL_law_698 : decode cL_law 698 = .ok (.iconst 0, 1) := by decide +kernel
theorem dL_law_699 : decode cL_law 699 = .ok (.laload, 1) := by decide +kernel
theorem dL_law_700 : decode cL_law 700 = .ok (.iload 6, 2) := by decide +kernel
theorem dL_law_702 : decode cL_law 702 = .ok (.i2l, 1) := by decide +kernel
theorem dL_law_703 : decode cL_law 703 = .ok (.lcmp, 1) := by decide +kernel
theorem dL_law_704 : decode cL_law 704 = .ok (.ifCond .eq 5, 3) := by decide +kernel
theorem dL_law_707 : decode cL_law 707 = .ok (.iconst 0, 1) := by decide +kernel
theorem dL_law_708 : decode cL_law 708 = .ok (.ireturn, 1) := by decide +kernel
theorem dL_law_709 : decode cL_law 709 = .ok (.goto 1372, 3) := by decide +kernel
theorem dL_law_712 : decode cL_law 712 = .ok (.aload_n 1, 1) := by decide +kernel
theorem dL_law_713 : decode cL_law 713 = .ok (.aload_n 0, 1) := by decide +kernel
theorem dL_law_714 : decode cL_law 714 = .ok (.iload 4, 2) := by decide +kernel
theorem dL_law_716 : decode cL_law 716 = .ok (.iconst 1, 1) := by decide +kernel
theorem dL_law_717 : decode cL_law 717 = .ok (.iadd, 1) := by decide +kernel
theorem dL_law_718 : decode cL_law 718 = .ok (.iaload, 1) := by decide +kernel
theorem dL_law_719 : decode cL_law 719 = .ok (.aload_n 0, 1) := by decide +kernel
theorem dL_law_720 : decode cL_law 720 = .ok (.iload 4, 2) := by decide +kernel
theorem dL_law_722 : decode cL_law 722 = .ok (.iconst 2, 1) := by decide +kernel
theorem dL_law_723 : decode cL_law 723 = .ok (.iadd, 1) := by decide +kernel
theorem dL_law_724 : decode cL_law 724 = .ok (.iaload, 1) := by decide +kernel
theorem dL_law_725 : decode cL_law 725 = .ok (.aload_n 0, 1) := by decide +kernel
theorem dL_law_726 : decode cL_law 726 = .ok (.iload 4, 2) := by decide +kernel
theorem dL_law_728 : decode cL_law 728 = .ok (.iconst 3, 1) := by decide +kernel
theorem dL_law_729 : decode cL_law 729 = .ok (.iadd, 1) := by decide +kernel
theorem dL_law_730 : decode cL_law 730 = .ok (.iaload, 1) := by decide +kernel
theorem dL_law_731 : decode cL_law 731 = .ok (.aload_n 3, 1) := by decide +kernel
theorem dL_law_732 : decode cL_law 732 = .ok (.invokestatic 139, 3) := by decide +kernel
theorem dL_law_735 : decode cL_law 735 = .ok (.istore 5, 2) := by decide +kernel
theorem dL_law_737 : decode cL_law 737 = .ok (.aload_n 2, 1) := by decide +kernel
theorem dL_law_738 : decode cL_law 738 = .ok (.aload_n 0, 1) := by decide +kernel
theorem dL_law_739 : decode cL_law 739 = .ok (.iload 4, 2) := by decide +kernel
theorem dL_law_741 : decode cL_law 741 = .ok (.iconst 1, 1) := by decide +kernel
theorem dL_law_742 : decode cL_law 742 = .ok (.iadd, 1) := by decide +kernel
theorem dL_law_743 : decode cL_law 743 = .ok (.iaload, 1) := by decide +kernel
theorem dL_law_744 : decode cL_law 744 = .ok (.aload_n 0, 1) := by decide +kernel
theorem dL_law_745 : decode cL_law 745 = .ok (.iload 4, 2) := by decide +kernel
theorem dL_law_747 : decode cL_law 747 = .ok (.iconst 2, 1) := by decide +kernel
theorem dL_law_748 : decode cL_law 748 = .ok (.iadd, 1) := by decide +kernel
theorem dL_law_749 : decode cL_law 749 = .ok (.iaload, 1) := by decide +kernel
theorem dL_law_750 : decode cL_law 750 = .ok (.aload_n 0, 1) := by decide +kernel
theorem dL_law_751 : decode cL_law 751 = .ok (.iload 4, 2) := by decide +kernel
theorem dL_law_753 : decode cL_law 753 = .ok (.iconst 3, 1) := by decide +kernel
theorem dL_law_754 : decode cL_law 754 = .ok (.iadd, 1) := by decide +kernel
theorem dL_law_755 : decode cL_law 755 = .ok (.iaload, 1) := by decide +kernel
theorem dL_law_756 : decode cL_law 756 = .ok (.invokevirtual 141, 3) := by decide +kernel
theorem dL_law_759 : decode cL_law 759 = .ok (.istore 6, 2) := by decide +kernel
theorem dL_law_761 : decode cL_law 761 = .ok (.aload_n 2, 1) := by decide +kernel
theorem dL_law_762 : decode cL_law 762 = .ok (.invokevirtual 113, 3) := by decide +kernel
theorem dL_law_765 : decode cL_law 765 = .ok (.iload 5, 2) := by decide +kernel
theorem dL_law_767 : decode cL_law 767 = .ok (.if_icmp .eq 5, 3) := by decide +kernel
theorem dL_law_770 : decode cL_law 770 = .ok (.iconst 0, 1) := by decide +kernel
theorem dL_law_771 : decode cL_law 771 = .ok (.ireturn, 1) := by decide +kernel
theorem dL_law_772 : decode cL_law 772 = .ok (.iload 5, 2) := by decide +kernel
theorem dL_law_774 : decode cL_law 774 = .ok (.ifCond .ne 15, 3) := by decide +kernel
theorem dL_law_777 : decode cL_law 777 = .ok (.aload_n 3, 1) := by decide +kernel
theorem dL_law_778 : decode cL_law 778 = .ok (.iconst 0, 1) := by decide +kernel
theorem dL_law_779 : decode cL_law 779 = .ok (.laload, 1) := by decide +kernel
theorem dL_law_780 : decode cL_law 780 = .ok (.iload 6, 2) := by decide +kernel
theorem dL_law_782 : decode cL_law 782 = .ok (.i2l, 1) := by decide +kernel
theorem dL_law_783 : decode cL_law 783 = .ok (.lcmp, 1) := by decide +kernel
theorem dL_law_784 : decode cL_law 784 = .ok (.ifCond .eq 5, 3) := by decide +kernel
theorem dL_law_787 : decode cL_law 787 = .ok (.iconst 0, 1) := by decide +kernel
theorem dL_law_788 : decode cL_law 788 = .ok (.ireturn, 1) := by decide +kernel
theorem dL_law_789 : decode cL_law 789 = .ok (.goto 1292, 3) := by decide +kernel
theorem dL_law_792 : decode cL_law 792 = .ok (.aload_n 1, 1) := by decide +kernel
theorem dL_law_793 : decode cL_law 793 = .ok (.aload_n 0, 1) := by decide +kernel
theorem dL_law_794 : decode cL_law 794 = .ok (.iload 4, 2) := by decide +kernel
theorem dL_law_796 : decode cL_law 796 = .ok (.iconst 1, 1) := by decide +kernel
theorem dL_law_797 : decode cL_law 797 = .ok (.iadd, 1) := by decide +kernel
theorem dL_law_798 : decode cL_law 798 = .ok (.iaload, 1) := by decide +kernel
theorem dL_law_799 : decode cL_law 799 = .ok (.aload_n 0, 1) := by decide +kernel
theorem dL_law_800 : decode cL_law 800 = .ok (.iload 4, 2) := by decide +kernel
theorem dL_law_802 : decode cL_law 802 = .ok (.iconst 2, 1) := by decide +kernel
theorem dL_law_803 : decode cL_law 803 = .ok (.iadd, 1) := by decide +kernel
theorem dL_law_804 : decode cL_law 804 = .ok (.iaload, 1) := by decide +kernel
theorem dL_law_805 : decode cL_law 805 = .ok (.aload_n 0, 1) := by decide +kernel
theorem dL_law_806 : decode cL_law 806 = .ok (.iload 4, 2) := by decide +kernel
theorem dL_law_808 : decode cL_law 808 = .ok (.iconst 3, 1) := by decide +kernel
theorem dL_law_809 : decode cL_law 809 = .ok (.iadd, 1) := by decide +kernel
theorem dL_law_810 : decode cL_law 810 = .ok (.iaload, 1) := by decide +kernel
theorem dL_law_811 : decode cL_law 811 = .ok (.aload_n 3, 1) := by decide +kernel
theorem dL_law_812 : decode cL_law 812 = .ok (.invokestatic 142, 3) := by decide +kernel
theorem dL_law_815 : decode cL_law 815 = .ok (.istore 5, 2) := by decide +kernel
theorem dL_law_817 : decode cL_law 817 = .ok (.aload_n 2, 1) := by decide +kernel
theorem dL_law_818 : decode cL_law 818 = .ok (.aload_n 0, 1) := by decide +kernel
theorem dL_law_819 : decode cL_law 819 = .ok (.iload 4, 2) := by decide +kernel
theorem dL_law_821 : decode cL_law 821 = .ok (.iconst 1, 1) := by decide +kernel
theorem dL_law_822 : decode cL_law 822 = .ok (.iadd, 1) := by decide +kernel
theorem dL_law_823 : decode cL_law 823 = .ok (.iaload, 1) := by decide +kernel
theorem dL_law_824 : decode cL_law 824 = .ok (.aload_n 0, 1) := by decide +kernel
theorem dL_law_825 : decode cL_law 825 = .ok (.iload 4, 2) := by decide +kernel
theorem dL_law_827 : decode cL_law 827 = .ok (.iconst 2, 1) := by decide +kernel
theorem dL_law_828 : decode cL_law 828 = .ok (.iadd, 1) := by decide +kernel
theorem dL_law_829 : decode cL_law 829 = .ok (.iaload, 1) := by decide +kernel
theorem dL_law_830 : decode cL_law 830 = .ok (.aload_n 0, 1) := by decide +kernel
theorem dL_law_831 : decode cL_law 831 = .ok (.iload 4, 2) := by decide +kernel
theorem dL_law_833 : decode cL_law 833 = .ok (.iconst 3, 1) := by decide +kernel
theorem dL_law_834 : decode cL_law 834 = .ok (.iadd, 1) := by decide +kernel
theorem dL_law_835 : decode cL_law 835 = .ok (.iaload, 1) := by decide +kernel
theorem dL_law_836 : decode cL_law 836 = .ok (.invokevirtual 144, 3) := by decide +kernel
theorem dL_law_839 : decode cL_law 839 = .ok (.istore 6, 2) := by decide +kernel
theorem dL_law_841 : decode cL_law 841 = .ok (.aload_n 2, 1) := by decide +kernel
theorem dL_law_842 : decode cL_law 842 = .ok (.invokevirtual 113, 3) := by decide +kernel
theorem dL_law_845 : decode cL_law 845 = .ok (.iload 5, 2) := by decide +kernel
theorem dL_law_847 : decode cL_law 847 = .ok (.if_icmp .eq 5, 3) := by decide +kernel
theorem dL_law_850 : decode cL_law 850 = .ok (.iconst 0, 1) := by decide +kernel
theorem dL_law_851 : decode cL_law 851 = .ok (.ireturn, 1) := by decide +kernel
theorem dL_law_852 : decode cL_law 852 = .ok (.iload 5, 2) := by decide +kernel
theorem dL_law_854 : decode cL_law 854 = .ok (.ifCond .ne 15, 3) := by decide +kernel
theorem dL_law_857 : decode cL_law 857 = .ok (.aload_n 3, 1) := by decide +kernel
theorem dL_law_858 : decode cL_law 858 = .ok (.iconst 0, 1) := by decide +kernel
theorem dL_law_859 : decode cL_law 859 = .ok (.laload, 1) := by decide +kernel
theorem dL_law_860 : decode cL_law 860 = .ok (.iload 6, 2) := by decide +kernel
theorem dL_law_862 : decode cL_law 862 = .ok (.i2l, 1) := by decide +kernel
theorem dL_law_863 : decode cL_law 863 = .ok (.lcmp, 1) := by decide +kernel
theorem dL_law_864 : decode cL_law 864 = .ok (.ifCond .eq 5, 3) := by decide +kernel
theorem dL_law_867 : decode cL_law 867 = .ok (.iconst 0, 1) := by decide +kernel
theorem dL_law_868 : decode cL_law 868 = .ok (.ireturn, 1) := by decide +kernel
theorem dL_law_869 : decode cL_law 869 = .ok (.goto 1212, 3) := by decide +kernel
theorem dL_law_872 : decode cL_law 872 = .ok (.aload_n 1, 1) := by decide +kernel
theorem dL_law_873 : decode cL_law 873 = .ok (.aload_n 0, 1) := by decide +kernel
theorem dL_law_874 : decode cL_law 874 = .ok (.iload 4, 2) := by decide +kernel
theorem dL_law_876 : decode cL_law 876 = .ok (.iconst 1, 1) := by decide +kernel
theorem dL_law_877 : decode cL_law 877 = .ok (.iadd, 1) := by decide +kernel
theorem dL_law_878 : decode cL_law 878 = .ok (.iaload, 1) := by decide +kernel
theorem dL_law_879 : decode cL_law 879 = .ok (.aload_n 0, 1) := by decide +kernel
theorem dL_law_880 : decode cL_law 880 = .ok (.iload 4, 2) := by decide +kernel
theorem dL_law_882 : decode cL_law 882 = .ok (.iconst 2, 1) := by decide +kernel
theorem dL_law_883 : decode cL_law 883 = .ok (.iadd, 1) := by decide +kernel
theorem dL_law_884 : decode cL_law 884 = .ok (.iaload, 1) := by decide +kernel
theorem dL_law_885 : decode cL_law 885 = .ok (.aload_n 3, 1) := by decide +kernel
theorem dL_law_886 : decode cL_law 886 = .ok (.invokestatic 145, 3) := by decide +kernel
theorem dL_law_889 : decode cL_law 889 = .ok (.istore 5, 2) := by decide +kernel
theorem dL_law_891 : decode cL_law 891 = .ok (.aload_n 2, 1) := by decide +kernel
theorem dL_law_892 : decode cL_law 892 = .ok (.aload_n 0, 1) := by decide +kernel
theorem dL_law_893 : decode cL_law 893 = .ok (.iload 4, 2) := by decide +kernel
theorem dL_law_895 : decode cL_law 895 = .ok (.iconst 1, 1) := by decide +kernel
theorem dL_law_896 : decode cL_law 896 = .ok (.iadd, 1) := by decide +kernel
theorem dL_law_897 : decode cL_law 897 = .ok (.iaload, 1) := by decide +kernel
theorem dL_law_898 : decode cL_law 898 = .ok (.aload_n 0, 1) := by decide +kernel
theorem dL_law_899 : decode cL_law 899 = .ok (.iload 4, 2) := by decide +kernel
theorem dL_law_901 : decode cL_law 901 = .ok (.iconst 2, 1) := by decide +kernel
theorem dL_law_902 : decode cL_law 902 = .ok (.iadd, 1) := by decide +kernel
theorem dL_law_903 : decode cL_law 903 = .ok (.iaload, 1) := by decide +kernel
theorem dL_law_904 : decode cL_law 904 = .ok (.invokevirtual 147, 3) := by decide +kernel
theorem dL_law_907 : decode cL_law 907 = .ok (.istore 6, 2) := by decide +kernel
theorem dL_law_909 : decode cL_law 909 = .ok (.aload_n 2, 1) := by decide +kernel
theorem dL_law_910 : decode cL_law 910 = .ok (.invokevirtual 113, 3) := by decide +kernel
theorem dL_law_913 : decode cL_law 913 = .ok (.iload 5, 2) := by decide +kernel
theorem dL_law_915 : decode cL_law 915 = .ok (.if_icmp .eq 5, 3) := by decide +kernel
theorem dL_law_918 : decode cL_law 918 = .ok (.iconst 0, 1) := by decide +kernel
theorem dL_law_919 : decode cL_law 919 = .ok (.ireturn, 1) := by decide +kernel
theorem dL_law_920 : decode cL_law 920 = .ok (.iload 5, 2) := by decide +kernel
theorem dL_law_922 : decode cL_law 922 = .ok (.ifCond .ne 15, 3) := by decide +kernel
theorem dL_law_925 : decode cL_law 925 = .ok (.aload_n 3, 1) := by decide +kernel
theorem dL_law_926 : decode cL_law 926 = .ok (.iconst 0, 1) := by decide +kernel
theorem dL_law_927 : decode cL_law 927 = .ok (.laload, 1) := by decide +kernel
theorem dL_law_928 : decode cL_law 928 = .ok (.iload 6, 2) := by decide +kernel
theorem dL_law_930 : decode cL_law 930 = .ok (.i2l, 1) := by decide +kernel
theorem dL_law_931 : decode cL_law 931 = .ok (.lcmp, 1) := by decide +kernel
theorem dL_law_932 : decode cL_law 932 = .ok (.ifCond .eq 5, 3) := by decide +kernel
theorem dL_law_935 : decode cL_law 935 = .ok (.iconst 0, 1) := by decide +kernel
theorem dL_law_936 : decode cL_law 936 = .ok (.ireturn, 1) := by decide +kernel
theorem dL_law_937 : decode cL_law 937 = .ok (.goto 1144, 3) := by decide +kernel
theorem dL_law_940 : decode cL_law 940 = .ok (.aload_n 1, 1) := by decide +kernel
theorem dL_law_941 : decode cL_law 941 = .ok (.aload_n 0, 1) := by decide +kernel
theorem dL_law_942 : decode cL_law 942 = .ok (.iload 4, 2) := by decide +kernel
theorem dL_law_944 : decode cL_law 944 = .ok (.iconst 1, 1) := by decide +kernel
theorem dL_law_945 : decode cL_law 945 = .ok (.iadd, 1) := by decide +kernel
theorem dL_law_946 : decode cL_law 946 = .ok (.iaload, 1) := by decide +kernel
theorem dL_law_947 : decode cL_law 947 = .ok (.aload_n 3, 1) := by decide +kernel
theorem dL_law_948 : decode cL_law 948 = .ok (.invokestatic 148, 3) := by decide +kernel
theorem dL_law_951 : decode cL_law 951 = .ok (.istore 5, 2) := by decide +kernel
theorem dL_law_953 : decode cL_law 953 = .ok (.aload_n 2, 1) := by decide +kernel
theorem dL_law_954 : decode cL_law 954 = .ok (.aload_n 0, 1) := by decide +kernel
theorem dL_law_955 : decode cL_law 955 = .ok (.iload 4, 2) := by decide +kernel
theorem dL_law_957 : decode cL_law 957 = .ok (.iconst 1, 1) := by decide +kernel
theorem dL_law_958 : decode cL_law 958 = .ok (.iadd, 1) := by decide +kernel
theorem dL_law_959 : decode cL_law 959 = .ok (.iaload, 1) := by decide +kernel
theorem dL_law_960 : decode cL_law 960 = .ok (.invokevirtual 150, 3) := by decide +kernel
theorem dL_law_963 : decode cL_law 963 = .ok (.istore 6, 2) := by decide +kernel
theorem dL_law_965 : decode cL_law 965 = .ok (.aload_n 2, 1) := by decide +kernel
theorem dL_law_966 : decode cL_law 966 = .ok (.invokevirtual 113, 3) := by decide +kernel
theorem dL_law_969 : decode cL_law 969 = .ok (.iload 5, 2) := by decide +kernel
theorem dL_law_971 : decode cL_law 971 = .ok (.if_icmp .eq 5, 3) := by decide +kernel
theorem dL_law_974 : decode cL_law 974 = .ok (.iconst 0, 1) := by decide +kernel
theorem dL_law_975 : decode cL_law 975 = .ok (.ireturn, 1) := by decide +kernel
theorem dL_law_976 : decode cL_law 976 = .ok (.iload 5, 2) := by decide +kernel
theorem dL_law_978 : decode cL_law 978 = .ok (.ifCond .ne 15, 3) := by decide +kernel
theorem dL_law_981 : decode cL_law 981 = .ok (.aload_n 3, 1) := by decide +kernel
theorem dL_law_982 : decode cL_law 982 = .ok (.iconst 0, 1) := by decide +kernel
theorem dL_law_983 : decode cL_law 983 = .ok (.laload, 1) := by decide +kernel
theorem dL_law_984 : decode cL_law 984 = .ok (.iload 6, 2) := by decide +kernel
theorem dL_law_986 : decode cL_law 986 = .ok (.i2l, 1) := by decide +kernel
theorem dL_law_987 : decode cL_law 987 = .ok (.lcmp, 1) := by decide +kernel
theorem dL_law_988 : decode cL_law 988 = .ok (.ifCond .eq 5, 3) := by decide +kernel
theorem dL_law_991 : decode cL_law 991 = .ok (.iconst 0, 1) := by decide +kernel
theorem dL_law_992 : decode cL_law 992 = .ok (.ireturn, 1) := by decide +kernel
theorem dL_law_993 : decode cL_law 993 = .ok (.goto 1088, 3) := by decide +kernel
theorem dL_law_996 : decode cL_law 996 = .ok (.aload_n 1, 1) := by decide +kernel
theorem dL_law_997 : decode cL_law 997 = .ok (.aload_n 0, 1) := by decide +kernel
theorem dL_law_998 : decode cL_law 998 = .ok (.iload 4, 2) := by decide +kernel
theorem dL_law_1000 : decode cL_law 1000 = .ok (.iconst 1, 1) := by decide +kernel
theorem dL_law_1001 : decode cL_law 1001 = .ok (.iadd, 1) := by decide +kernel
theorem dL_law_1002 : decode cL_law 1002 = .ok (.iaload, 1) := by decide +kernel
theorem dL_law_1003 : decode cL_law 1003 = .ok (.aload_n 3, 1) := by decide +kernel
theorem dL_law_1004 : decode cL_law 1004 = .ok (.invokestatic 151, 3) := by decide +kernel
theorem dL_law_1007 : decode cL_law 1007 = .ok (.istore 5, 2) := by decide +kernel
theorem dL_law_1009 : decode cL_law 1009 = .ok (.aload_n 2, 1) := by decide +kernel
theorem dL_law_1010 : decode cL_law 1010 = .ok (.aload_n 0, 1) := by decide +kernel
theorem dL_law_1011 : decode cL_law 1011 = .ok (.iload 4, 2) := by decide +kernel
theorem dL_law_1013 : decode cL_law 1013 = .ok (.iconst 1, 1) := by decide +kernel
theorem dL_law_1014 : decode cL_law 1014 = .ok (.iadd, 1) := by decide +kernel
theorem dL_law_1015 : decode cL_law 1015 = .ok (.iaload, 1) := by decide +kernel
theorem dL_law_1016 : decode cL_law 1016 = .ok (.invokevirtual 153, 3) := by decide +kernel
theorem dL_law_1019 : decode cL_law 1019 = .ok (.istore 6, 2) := by decide +kernel
theorem dL_law_1021 : decode cL_law 1021 = .ok (.aload_n 2, 1) := by decide +kernel
theorem dL_law_1022 : decode cL_law 1022 = .ok (.invokevirtual 113, 3) := by decide +kernel
theorem dL_law_1025 : decode cL_law 1025 = .ok (.iload 5, 2) := by decide +kernel
theorem dL_law_1027 : decode cL_law 1027 = .ok (.if_icmp .eq 5, 3) := by decide +kernel
theorem dL_law_1030 : decode cL_law 1030 = .ok (.iconst 0, 1) := by decide +kernel
theorem dL_law_1031 : decode cL_law 1031 = .ok (.ireturn, 1) := by decide +kernel
theorem dL_law_1032 : decode cL_law 1032 = .ok (.iload 5, 2) := by decide +kernel
theorem dL_law_1034 : decode cL_law 1034 = .ok (.ifCond .ne 15, 3) := by decide +kernel
theorem dL_law_1037 : decode cL_law 1037 = .ok (.aload_n 3, 1) := by decide +kernel
theorem dL_law_1038 : decode cL_law 1038 = .ok (.iconst 0, 1) := by decide +kernel
theorem dL_law_1039 : decode cL_law 1039 = .ok (.laload, 1) := by decide +kernel
theorem dL_law_1040 : decode cL_law 1040 = .ok (.iload 6, 2) := by decide +kernel
theorem dL_law_1042 : decode cL_law 1042 = .ok (.i2l, 1) := by decide +kernel
theorem dL_law_1043 : decode cL_law 1043 = .ok (.lcmp, 1) := by decide +kernel
theorem dL_law_1044 : decode cL_law 1044 = .ok (.ifCond .eq 5, 3) := by decide +kernel
theorem dL_law_1047 : decode cL_law 1047 = .ok (.iconst 0, 1) := by decide +kernel
theorem dL_law_1048 : decode cL_law 1048 = .ok (.ireturn, 1) := by decide +kernel
theorem dL_law_1049 : decode cL_law 1049 = .ok (.goto 1032, 3) := by decide +kernel
theorem dL_law_1052 : decode cL_law 1052 = .ok (.aload_n 1, 1) := by decide +kernel
theorem dL_law_1053 : decode cL_law 1053 = .ok (.invokevirtual 154, 3) := by decide +kernel
theorem dL_law_1056 : decode cL_law 1056 = .ok (.aload_n 2, 1) := by decide +kernel
theorem dL_law_1057 : decode cL_law 1057 = .ok (.invokevirtual 157, 3) := by decide +kernel
theorem dL_law_1060 : decode cL_law 1060 = .ok (.if_icmp .eq 1021, 3) := by decide +kernel
theorem dL_law_1063 : decode cL_law 1063 = .ok (.iconst 0, 1) := by decide +kernel
theorem dL_law_1064 : decode cL_law 1064 = .ok (.ireturn, 1) := by decide +kernel
theorem dL_law_1065 : decode cL_law 1065 = .ok (.aload_n 1, 1) := by decide +kernel
theorem dL_law_1066 : decode cL_law 1066 = .ok (.invokevirtual 158, 3) := by decide +kernel
theorem dL_law_1069 : decode cL_law 1069 = .ok (.aload_n 2, 1) := by decide +kernel
theorem dL_law_1070 : decode cL_law 1070 = .ok (.invokevirtual 161, 3) := by decide +kernel
theorem dL_law_1073 : decode cL_law 1073 = .ok (.if_icmp .eq 1008, 3) := by decide +kernel
theorem dL_law_1076 : decode cL_law 1076 = .ok (.iconst 0, 1) := by decide +kernel
theorem dL_law_1077 : decode cL_law 1077 = .ok (.ireturn, 1) := by decide +kernel
theorem dL_law_1078 : decode cL_law 1078 = .ok (.aload_n 1, 1) := by decide +kernel
theorem dL_law_1079 : decode cL_law 1079 = .ok (.aload_n 3, 1) := by decide +kernel
theorem dL_law_1080 : decode cL_law 1080 = .ok (.invokestatic 162, 3) := by decide +kernel
theorem dL_law_1083 : decode cL_law 1083 = .ok (.istore 5, 2) := by decide +kernel
theorem dL_law_1085 : decode cL_law 1085 = .ok (.aload_n 2, 1) := by decide +kernel
theorem dL_law_1086 : decode cL_law 1086 = .ok (.invokevirtual 165, 3) := by decide +kernel
theorem dL_law_1089 : decode cL_law 1089 = .ok (.istore 6, 2) := by decide +kernel
theorem dL_law_1091 : decode cL_law 1091 = .ok (.aload_n 2, 1) := by decide +kernel
theorem dL_law_1092 : decode cL_law 1092 = .ok (.invokevirtual 113, 3) := by decide +kernel
theorem dL_law_1095 : decode cL_law 1095 = .ok (.iload 5, 2) := by decide +kernel
theorem dL_law_1097 : decode cL_law 1097 = .ok (.if_icmp .eq 5, 3) := by decide +kernel
theorem dL_law_1100 : decode cL_law 1100 = .ok (.iconst 0, 1) := by decide +kernel
theorem dL_law_1101 : decode cL_law 1101 = .ok (.ireturn, 1) := by decide +kernel
theorem dL_law_1102 : decode cL_law 1102 = .ok (.iload 5, 2) := by decide +kernel
theorem dL_law_1104 : decode cL_law 1104 = .ok (.ifCond .ne 15, 3) := by decide +kernel
theorem dL_law_1107 : decode cL_law 1107 = .ok (.aload_n 3, 1) := by decide +kernel
theorem dL_law_1108 : decode cL_law 1108 = .ok (.iconst 0, 1) := by decide +kernel
theorem dL_law_1109 : decode cL_law 1109 = .ok (.laload, 1) := by decide +kernel
theorem dL_law_1110 : decode cL_law 1110 = .ok (.iload 6, 2) := by decide +kernel
theorem dL_law_1112 : decode cL_law 1112 = .ok (.i2l, 1) := by decide +kernel
theorem dL_law_1113 : decode cL_law 1113 = .ok (.lcmp, 1) := by decide +kernel
theorem dL_law_1114 : decode cL_law 1114 = .ok (.ifCond .eq 5, 3) := by decide +kernel
theorem dL_law_1117 : decode cL_law 1117 = .ok (.iconst 0, 1) := by decide +kernel
theorem dL_law_1118 : decode cL_law 1118 = .ok (.ireturn, 1) := by decide +kernel
theorem dL_law_1119 : decode cL_law 1119 = .ok (.goto 962, 3) := by decide +kernel
theorem dL_law_1122 : decode cL_law 1122 = .ok (.aload_n 1, 1) := by decide +kernel
theorem dL_law_1123 : decode cL_law 1123 = .ok (.aload_n 3, 1) := by decide +kernel
theorem dL_law_1124 : decode cL_law 1124 = .ok (.invokestatic 166, 3) := by decide +kernel
theorem dL_law_1127 : decode cL_law 1127 = .ok (.istore 5, 2) := by decide +kernel
theorem dL_law_1129 : decode cL_law 1129 = .ok (.aload_n 2, 1) := by decide +kernel
theorem dL_law_1130 : decode cL_law 1130 = .ok (.invokevirtual 168, 3) := by decide +kernel
theorem dL_law_1133 : decode cL_law 1133 = .ok (.istore 6, 2) := by decide +kernel
theorem dL_law_1135 : decode cL_law 1135 = .ok (.aload_n 2, 1) := by decide +kernel
theorem dL_law_1136 : decode cL_law 1136 = .ok (.invokevirtual 113, 3) := by decide +kernel
theorem dL_law_1139 : decode cL_law 1139 = .ok (.iload 5, 2) := by decide +kernel
theorem dL_law_1141 : decode cL_law 1141 = .ok (.if_icmp .eq 5, 3) := by decide +kernel
theorem dL_law_1144 : decode cL_law 1144 = .ok (.iconst 0, 1) := by decide +kernel
theorem dL_law_1145 : decode cL_law 1145 = .ok (.ireturn, 1) := by decide +kernel
theorem dL_law_1146 : decode cL_law 1146 = .ok (.iload 5, 2) := by decide +kernel
theorem dL_law_1148 : decode cL_law 1148 = .ok (.ifCond .ne 15, 3) := by decide +kernel
theorem dL_law_1151 : decode cL_law 1151 = .ok (.aload_n 3, 1) := by decide +kernel
theorem dL_law_1152 : decode cL_law 1152 = .ok (.iconst 0, 1) := by decide +kernel
theorem dL_law_1153 : decode cL_law 1153 = .ok (.laload, 1) := by decide +kernel
theorem dL_law_1154 : decode cL_law 1154 = .ok (.iload 6, 2) := by decide +kernel
theorem dL_law_1156 : decode cL_law 1156 = .ok (.i2l, 1) := by decide +kernel
theorem dL_law_1157 : decode cL_law 1157 = .ok (.lcmp, 1) := by decide +kernel
theorem dL_law_1158 : decode cL_law 1158 = .ok (.ifCond .eq 5, 3) := by decide +kernel
theorem dL_law_1161 : decode cL_law 1161 = .ok (.iconst 0, 1) := by decide +kernel
theorem dL_law_1162 : decode cL_law 1162 = .ok (.ireturn, 1) := by decide +kernel
theorem dL_law_1163 : decode cL_law 1163 = .ok (.goto 918, 3) := by decide +kernel
theorem dL_law_1166 : decode cL_law 1166 = .ok (.aload_n 1, 1) := by decide +kernel
theorem dL_law_1167 : decode cL_law 1167 = .ok (.aload_n 0, 1) := by decide +kernel
theorem dL_law_1168 : decode cL_law 1168 = .ok (.iload 4, 2) := by decide +kernel
theorem dL_law_1170 : decode cL_law 1170 = .ok (.iconst 1, 1) := by decide +kernel
theorem dL_law_1171 : decode cL_law 1171 = .ok (.iadd, 1) := by decide +kernel
theorem dL_law_1172 : decode cL_law 1172 = .ok (.iaload, 1) := by decide +kernel
theorem dL_law_1173 : decode cL_law 1173 = .ok (.aload_n 0, 1) := by decide +kernel
theorem dL_law_1174 : decode cL_law 1174 = .ok (.iload 4, 2) := by decide +kernel
theorem dL_law_1176 : decode cL_law 1176 = .ok (.iconst 2, 1) := by decide +kernel
theorem dL_law_1177 : decode cL_law 1177 = .ok (.iadd, 1) := by decide +kernel
theorem dL_law_1178 : decode cL_law 1178 = .ok (.iaload, 1) := by decide +kernel
theorem dL_law_1179 : decode cL_law 1179 = .ok (.aload_n 3, 1) := by decide +kernel
theorem dL_law_1180 : decode cL_law 1180 = .ok (.invokestatic 169, 3) := by decide +kernel
theorem dL_law_1183 : decode cL_law 1183 = .ok (.istore 5, 2) := by decide +kernel
theorem dL_law_1185 : decode cL_law 1185 = .ok (.aload_n 2, 1) := by decide +kernel
theorem dL_law_1186 : decode cL_law 1186 = .ok (.aload_n 0, 1) := by decide +kernel
theorem dL_law_1187 : decode cL_law 1187 = .ok (.iload 4, 2) := by decide +kernel
theorem dL_law_1189 : decode cL_law 1189 = .ok (.iconst 1, 1) := by decide +kernel
theorem dL_law_1190 : decode cL_law 1190 = .ok (.iadd, 1) := by decide +kernel
theorem dL_law_1191 : decode cL_law 1191 = .ok (.iaload, 1) := by decide +kernel
theorem dL_law_1192 : decode cL_law 1192 = .ok (.aload_n 0, 1) := by decide +kernel
theorem dL_law_1193 : decode cL_law 1193 = .ok (.iload 4, 2) := by decide +kernel
theorem dL_law_1195 : decode cL_law 1195 = .ok (.iconst 2, 1) := by decide +kernel
theorem dL_law_1196 : decode cL_law 1196 = .ok (.iadd, 1) := by decide +kernel
theorem dL_law_1197 : decode cL_law 1197 = .ok (.iaload, 1) := by decide +kernel
theorem dL_law_1198 : decode cL_law 1198 = .ok (.invokevirtual 171, 3) := by decide +kernel
theorem dL_law_1201 : decode cL_law 1201 = .ok (.istore 6, 2) := by decide +kernel
theorem dL_law_1203 : decode cL_law 1203 = .ok (.aload_n 2, 1) := by decide +kernel
theorem dL_law_1204 : decode cL_law 1204 = .ok (.invokevirtual 113, 3) := by decide +kernel
theorem dL_law_1207 : decode cL_law 1207 = .ok (.iload 5, 2) := by decide +kernel
theorem dL_law_1209 : decode cL_law 1209 = .ok (.if_icmp .eq 5, 3) := by decide +kernel
theorem dL_law_1212 : decode cL_law 1212 = .ok (.iconst 0, 1) := by decide +kernel
theorem dL_law_1213 : decode cL_law 1213 = .ok (.ireturn, 1) := by decide +kernel
theorem dL_law_1214 : decode cL_law 1214 = .ok (.iload 5, 2) := by decide +kernel
theorem dL_law_1216 : decode cL_law 1216 = .ok (.ifCond .ne 15, 3) := by decide +kernel
theorem dL_law_1219 : decode cL_law 1219 = .ok (.aload_n 3, 1) := by decide +kernel
theorem dL_law_1220 : decode cL_law 1220 = .ok (.iconst 0, 1) := by decide +kernel
theorem dL_law_1221 : decode cL_law 1221 = .ok (.laload, 1) := by decide +kernel
theorem dL_law_1222 : decode cL_law 1222 = .ok (.iload 6, 2) := by decide +kernel
theorem dL_law_1224 : decode cL_law 1224 = .ok (.i2l, 1) := by decide +kernel
theorem dL_law_1225 : decode cL_law 1225 = .ok (.lcmp, 1) := by decide +kernel
theorem dL_law_1226 : decode cL_law 1226 = .ok (.ifCond .eq 5, 3) := by decide +kernel
theorem dL_law_1229 : decode cL_law 1229 = .ok (.iconst 0, 1) := by decide +kernel
theorem dL_law_1230 : decode cL_law 1230 = .ok (.ireturn, 1) := by decide +kernel
theorem dL_law_1231 : decode cL_law 1231 = .ok (.goto 850, 3) := by decide +kernel
theorem dL_law_1234 : decode cL_law 1234 = .ok (.aload_n 1, 1) := by decide +kernel
theorem dL_law_1235 : decode cL_law 1235 = .ok (.aload_n 0, 1) := by decide +kernel
theorem dL_law_1236 : decode cL_law 1236 = .ok (.iload 4, 2) := by decide +kernel
theorem dL_law_1238 : decode cL_law 1238 = .ok (.iconst 1, 1) := by decide +kernel
theorem dL_law_1239 : decode cL_law 1239 = .ok (.iadd, 1) := by decide +kernel
theorem dL_law_1240 : decode cL_law 1240 = .ok (.iaload, 1) := by decide +kernel
theorem dL_law_1241 : decode cL_law 1241 = .ok (.aload_n 0, 1) := by decide +kernel
theorem dL_law_1242 : decode cL_law 1242 = .ok (.iload 4, 2) := by decide +kernel
theorem dL_law_1244 : decode cL_law 1244 = .ok (.iconst 2, 1) := by decide +kernel
theorem dL_law_1245 : decode cL_law 1245 = .ok (.iadd, 1) := by decide +kernel
theorem dL_law_1246 : decode cL_law 1246 = .ok (.iaload, 1) := by decide +kernel
theorem dL_law_1247 : decode cL_law 1247 = .ok (.aload_n 3, 1) := by decide +kernel
theorem dL_law_1248 : decode cL_law 1248 = .ok (.invokestatic 172, 3) := by decide +kernel
theorem dL_law_1251 : decode cL_law 1251 = .ok (.istore 5, 2) := by decide +kernel
theorem dL_law_1253 : decode cL_law 1253 = .ok (.aload_n 2, 1) := by decide +kernel
theorem dL_law_1254 : decode cL_law 1254 = .ok (.aload_n 0, 1) := by decide +kernel
theorem dL_law_1255 : decode cL_law 1255 = .ok (.iload 4, 2) := by decide +kernel
theorem dL_law_1257 : decode cL_law 1257 = .ok (.iconst 1, 1) := by decide +kernel
theorem dL_law_1258 : decode cL_law 1258 = .ok (.iadd, 1) := by decide +kernel
theorem dL_law_1259 : decode cL_law 1259 = .ok (.iaload, 1) := by decide +kernel
theorem dL_law_1260 : decode cL_law 1260 = .ok (.aload_n 0, 1) := by decide +kernel
theorem dL_law_1261 : decode cL_law 1261 = .ok (.iload 4, 2) := by decide +kernel
theorem dL_law_1263 : decode cL_law 1263 = .ok (.iconst 2, 1) := by decide +kernel
theorem dL_law_1264 : decode cL_law 1264 = .ok (.iadd, 1) := by decide +kernel
theorem dL_law_1265 : decode cL_law 1265 = .ok (.iaload, 1) := by decide +kernel
theorem dL_law_1266 : decode cL_law 1266 = .ok (.invokevirtual 174, 3) := by decide +kernel
theorem dL_law_1269 : decode cL_law 1269 = .ok (.istore 6, 2) := by decide +kernel
theorem dL_law_1271 : decode cL_law 1271 = .ok (.aload_n 2, 1) := by decide +kernel
theorem dL_law_1272 : decode cL_law 1272 = .ok (.invokevirtual 113, 3) := by decide +kernel
theorem dL_law_1275 : decode cL_law 1275 = .ok (.iload 5, 2) := by decide +kernel
theorem dL_law_1277 : decode cL_law 1277 = .ok (.if_icmp .eq 5, 3) := by decide +kernel
theorem dL_law_1280 : decode cL_law 1280 = .ok (.iconst 0, 1) := by decide +kernel
theorem dL_law_1281 : decode cL_law 1281 = .ok (.ireturn, 1) := by decide +kernel
theorem dL_law_1282 : decode cL_law 1282 = .ok (.iload 5, 2) := by decide +kernel
theorem dL_law_1284 : decode cL_law 1284 = .ok (.ifCond .ne 15, 3) := by decide +kernel
theorem dL_law_1287 : decode cL_law 1287 = .ok (.aload_n 3, 1) := by decide +kernel
theorem dL_law_1288 : decode cL_law 1288 = .ok (.iconst 0, 1) := by decide +kernel
theorem dL_law_1289 : decode cL_law 1289 = .ok (.laload, 1) := by decide +kernel
theorem dL_law_1290 : decode cL_law 1290 = .ok (.iload 6, 2) := by decide +kernel
theorem dL_law_1292 : decode cL_law 1292 = .ok (.i2l, 1) := by decide +kernel
theorem dL_law_1293 : decode cL_law 1293 = .ok (.lcmp, 1) := by decide +kernel
theorem dL_law_1294 : decode cL_law 1294 = .ok (.ifCond .eq 5, 3) := by decide +kernel
theorem dL_law_1297 : decode cL_law 1297 = .ok (.iconst 0, 1) := by decide +kernel
theorem dL_law_1298 : decode cL_law 1298 = .ok (.ireturn, 1) := by decide +kernel
theorem dL_law_1299 : decode cL_law 1299 = .ok (.goto 782, 3) := by decide +kernel
theorem dL_law_1302 : decode cL_law 1302 = .ok (.aload_n 1, 1) := by decide +kernel
theorem dL_law_1303 : decode cL_law 1303 = .ok (.aload_n 0, 1) := by decide +kernel
theorem dL_law_1304 : decode cL_law 1304 = .ok (.iload 4, 2) := by decide +kernel
theorem dL_law_1306 : decode cL_law 1306 = .ok (.iconst 1, 1) := by decide +kernel
theorem dL_law_1307 : decode cL_law 1307 = .ok (.iadd, 1) := by decide +kernel
theorem dL_law_1308 : decode cL_law 1308 = .ok (.iaload, 1) := by decide +kernel
theorem dL_law_1309 : decode cL_law 1309 = .ok (.aload_n 0, 1) := by decide +kernel
theorem dL_law_1310 : decode cL_law 1310 = .ok (.iload 4, 2) := by decide +kernel
theorem dL_law_1312 : decode cL_law 1312 = .ok (.iconst 2, 1) := by decide +kernel
theorem dL_law_1313 : decode cL_law 1313 = .ok (.iadd, 1) := by decide +kernel
theorem dL_law_1314 : decode cL_law 1314 = .ok (.iaload, 1) := by decide +kernel
theorem dL_law_1315 : decode cL_law 1315 = .ok (.aload_n 3, 1) := by decide +kernel
theorem dL_law_1316 : decode cL_law 1316 = .ok (.invokestatic 175, 3) := by decide +kernel
theorem dL_law_1319 : decode cL_law 1319 = .ok (.istore 5, 2) := by decide +kernel
theorem dL_law_1321 : decode cL_law 1321 = .ok (.aload_n 2, 1) := by decide +kernel
theorem dL_law_1322 : decode cL_law 1322 = .ok (.aload_n 0, 1) := by decide +kernel
theorem dL_law_1323 : decode cL_law 1323 = .ok (.iload 4, 2) := by decide +kernel
theorem dL_law_1325 : decode cL_law 1325 = .ok (.iconst 1, 1) := by decide +kernel
theorem dL_law_1326 : decode cL_law 1326 = .ok (.iadd, 1) := by decide +kernel
theorem dL_law_1327 : decode cL_law 1327 = .ok (.iaload, 1) := by decide +kernel
theorem dL_law_1328 : decode cL_law 1328 = .ok (.aload_n 0, 1) := by decide +kernel
theorem dL_law_1329 : decode cL_law 1329 = .ok (.iload 4, 2) := by decide +kernel
theorem dL_law_1331 : decode cL_law 1331 = .ok (.iconst 2, 1) := by decide +kernel
theorem dL_law_1332 : decode cL_law 1332 = .ok (.iadd, 1) := by decide +kernel
theorem dL_law_1333 : decode cL_law 1333 = .ok (.iaload, 1) := by decide +kernel
theorem dL_law_1334 : decode cL_law 1334 = .ok (.invokevirtual 177, 3) := by decide +kernel
theorem dL_law_1337 : decode cL_law 1337 = .ok (.istore 6, 2) := by decide +kernel
theorem dL_law_1339 : decode cL_law 1339 = .ok (.aload_n 2, 1) := by decide +kernel
theorem dL_law_1340 : decode cL_law 1340 = .ok (.invokevirtual 113, 3) := by decide +kernel
theorem dL_law_1343 : decode cL_law 1343 = .ok (.iload 5, 2) := by decide +kernel
theorem dL_law_1345 : decode cL_law 1345 = .ok (.if_icmp .eq 5, 3) := by decide +kernel
theorem dL_law_1348 : decode cL_law 1348 = .ok (.iconst 0, 1) := by decide +kernel
theorem dL_law_1349 : decode cL_law 1349 = .ok (.ireturn, 1) := by decide +kernel
theorem dL_law_1350 : decode cL_law 1350 = .ok (.iload 5, 2) := by decide +kernel
theorem dL_law_1352 : decode cL_law 1352 = .ok (.ifCond .ne 15, 3) := by decide +kernel
theorem dL_law_1355 : decode cL_law 1355 = .ok (.aload_n 3, 1) := by decide +kernel
theorem dL_law_1356 : decode cL_law 1356 = .ok (.iconst 0, 1) := by decide +kernel
theorem dL_law_1357 : decode cL_law 1357 = .ok (.laload, 1) := by decide +kernel
theorem dL_law_1358 : decode cL_law 1358 = .ok (.iload 6, 2) := by decide +kernel
theorem dL_law_1360 : decode cL_law 1360 = .ok (.i2l, 1) := by decide +kernel
theorem dL_law_1361 : decode cL_law 1361 = .ok (.lcmp, 1) := by decide +kernel
theorem dL_law_1362 : decode cL_law 1362 = .ok (.ifCond .eq 5, 3) := by decide +kernel
theorem dL_law_1365 : decode cL_law 1365 = .ok (.iconst 0, 1) := by decide +kernel
theorem dL_law_1366 : decode cL_law 1366 = .ok (.ireturn, 1) := by decide +kernel
theorem dL_law_1367 : decode cL_law 1367 = .ok (.goto 714, 3) := by decide +kernel
theorem dL_law_1370 : decode cL_law 1370 = .ok (.aload_n 1, 1) := by decide +kernel
theorem dL_law_1371 : decode cL_law 1371 = .ok (.aload_n 0, 1) := by decide +kernel
theorem dL_law_1372 : decode cL_law 1372 = .ok (.iload 4, 2) := by decide +kernel
theorem dL_law_1374 : decode cL_law 1374 = .ok (.iconst 1, 1) := by decide +kernel
theorem dL_law_1375 : decode cL_law 1375 = .ok (.iadd, 1) := by decide +kernel
theorem dL_law_1376 : decode cL_law 1376 = .ok (.iaload, 1) := by decide +kernel
theorem dL_law_1377 : decode cL_law 1377 = .ok (.aload_n 0, 1) := by decide +kernel
theorem dL_law_1378 : decode cL_law 1378 = .ok (.iload 4, 2) := by decide +kernel
theorem dL_law_1380 : decode cL_law 1380 = .ok (.iconst 2, 1) := by decide +kernel
theorem dL_law_1381 : decode cL_law 1381 = .ok (.iadd, 1) := by decide +kernel
theorem dL_law_1382 : decode cL_law 1382 = .ok (.iaload, 1) := by decide +kernel
theorem dL_law_1383 : decode cL_law 1383 = .ok (.aload_n 3, 1) := by decide +kernel
theorem dL_law_1384 : decode cL_law 1384 = .ok (.invokestatic 178, 3) := by decide +kernel
theorem dL_law_1387 : decode cL_law 1387 = .ok (.istore 5, 2) := by decide +kernel
theorem dL_law_1389 : decode cL_law 1389 = .ok (.aload_n 2, 1) := by decide +kernel
theorem dL_law_1390 : decode cL_law 1390 = .ok (.aload_n 0, 1) := by decide +kernel
theorem dL_law_1391 : decode cL_law 1391 = .ok (.iload 4, 2) := by decide +kernel
theorem dL_law_1393 : decode cL_law 1393 = .ok (.iconst 1, 1) := by decide +kernel
theorem dL_law_1394 : decode cL_law 1394 = .ok (.iadd, 1) := by decide +kernel
theorem dL_law_1395 : decode cL_law 1395 = .ok (.iaload, 1) := by decide +kernel
theorem dL_law_1396 : decode cL_law 1396 = .ok (.aload_n 0, 1) := by decide +kernel
theorem dL_law_1397 : decode cL_law 1397 = .ok (.iload 4, 2) := by decide +kernel
theorem dL_law_1399 : decode cL_law 1399 = .ok (.iconst 2, 1) := by decide +kernel
theorem dL_law_1400 : decode cL_law 1400 = .ok (.iadd, 1) := by decide +kernel
theorem dL_law_1401 : decode cL_law 1401 = .ok (.iaload, 1) := by decide +kernel
theorem dL_law_1402 : decode cL_law 1402 = .ok (.invokevirtual 180, 3) := by decide +kernel
theorem dL_law_1405 : decode cL_law 1405 = .ok (.istore 6, 2) := by decide +kernel
theorem dL_law_1407 : decode cL_law 1407 = .ok (.aload_n 2, 1) := by decide +kernel
theorem dL_law_1408 : decode cL_law 1408 = .ok (.invokevirtual 113, 3) := by decide +kernel
theorem dL_law_1411 : decode cL_law 1411 = .ok (.iload 5, 2) := by decide +kernel
theorem dL_law_1413 : decode cL_law 1413 = .ok (.if_icmp .eq 5, 3) := by decide +kernel
theorem dL_law_1416 : decode cL_law 1416 = .ok (.iconst 0, 1) := by decide +kernel
theorem dL_law_1417 : decode cL_law 1417 = .ok (.ireturn, 1) := by decide +kernel
theorem dL_law_1418 : decode cL_law 1418 = .ok (.iload 5, 2) := by decide +kernel
theorem dL_law_1420 : decode cL_law 1420 = .ok (.ifCond .ne 15, 3) := by decide +kernel
theorem dL_law_1423 : decode cL_law 1423 = .ok (.aload_n 3, 1) := by decide +kernel
theorem dL_law_1424 : decode cL_law 1424 = .ok (.iconst 0, 1) := by decide +kernel
theorem dL_law_1425 : decode cL_law 1425 = .ok (.laload, 1) := by decide +kernel
theorem dL_law_1426 : decode cL_law 1426 = .ok (.iload 6, 2) := by decide +kernel
theorem dL_law_1428 : decode cL_law 1428 = .ok (.i2l, 1) := by decide +kernel
theorem dL_law_1429 : decode cL_law 1429 = .ok (.lcmp, 1) := by decide +kernel
theorem dL_law_1430 : decode cL_law 1430 = .ok (.ifCond .eq 5, 3) := by decide +kernel
theorem dL_law_1433 : decode cL_law 1433 = .ok (.iconst 0, 1) := by decide +kernel
theorem dL_law_1434 : decode cL_law 1434 = .ok (.ireturn, 1) := by decide +kernel
theorem dL_law_1435 : decode cL_law 1435 = .ok (.goto 646, 3) := by decide +kernel
theorem dL_law_1438 : decode cL_law 1438 = .ok (.aload_n 1, 1) := by decide +kernel
theorem dL_law_1439 : decode cL_law 1439 = .ok (.aload_n 0, 1) := by decide +kernel
theorem dL_law_1440 : decode cL_law 1440 = .ok (.iload 4, 2) := by decide +kernel
theorem dL_law_1442 : decode cL_law 1442 = .ok (.iconst 1, 1) := by decide +kernel
theorem dL_law_1443 : decode cL_law 1443 = .ok (.iadd, 1) := by decide +kernel
theorem dL_law_1444 : decode cL_law 1444 = .ok (.iaload, 1) := by decide +kernel
theorem dL_law_1445 : decode cL_law 1445 = .ok (.aload_n 0, 1) := by decide +kernel
theorem dL_law_1446 : decode cL_law 1446 = .ok (.iload 4, 2) := by decide +kernel
theorem dL_law_1448 : decode cL_law 1448 = .ok (.iconst 2, 1) := by decide +kernel
theorem dL_law_1449 : decode cL_law 1449 = .ok (.iadd, 1) := by decide +kernel
theorem dL_law_1450 : decode cL_law 1450 = .ok (.iaload, 1) := by decide +kernel
theorem dL_law_1451 : decode cL_law 1451 = .ok (.aload_n 0, 1) := by decide +kernel
theorem dL_law_1452 : decode cL_law 1452 = .ok (.iload 4, 2) := by decide +kernel
theorem dL_law_1454 : decode cL_law 1454 = .ok (.iconst 3, 1) := by decide +kernel
theorem dL_law_1455 : decode cL_law 1455 = .ok (.iadd, 1) := by decide +kernel
theorem dL_law_1456 : decode cL_law 1456 = .ok (.iaload, 1) := by decide +kernel
theorem dL_law_1457 : decode cL_law 1457 = .ok (.aload_n 3, 1) := by decide +kernel
theorem dL_law_1458 : decode cL_law 1458 = .ok (.invokestatic 181, 3) := by decide +kernel
theorem dL_law_1461 : decode cL_law 1461 = .ok (.istore 5, 2) := by decide +kernel
theorem dL_law_1463 : decode cL_law 1463 = .ok (.aload_n 2, 1) := by decide +kernel
theorem dL_law_1464 : decode cL_law 1464 = .ok (.aload_n 0, 1) := by decide +kernel
theorem dL_law_1465 : decode cL_law 1465 = .ok (.iload 4, 2) := by decide +kernel
theorem dL_law_1467 : decode cL_law 1467 = .ok (.iconst 1, 1) := by decide +kernel
theorem dL_law_1468 : decode cL_law 1468 = .ok (.iadd, 1) := by decide +kernel
theorem dL_law_1469 : decode cL_law 1469 = .ok (.iaload, 1) := by decide +kernel
theorem dL_law_1470 : decode cL_law 1470 = .ok (.aload_n 0, 1) := by decide +kernel
theorem dL_law_1471 : decode cL_law 1471 = .ok (.iload 4, 2) := by decide +kernel
theorem dL_law_1473 : decode cL_law 1473 = .ok (.iconst 2, 1) := by decide +kernel
theorem dL_law_1474 : decode cL_law 1474 = .ok (.iadd, 1) := by decide +kernel
theorem dL_law_1475 : decode cL_law 1475 = .ok (.iaload, 1) := by decide +kernel
theorem dL_law_1476 : decode cL_law 1476 = .ok (.aload_n 0, 1) := by decide +kernel
theorem dL_law_1477 : decode cL_law 1477 = .ok (.iload 4, 2) := by decide +kernel
theorem dL_law_1479 : decode cL_law 1479 = .ok (.iconst 3, 1) := by decide +kernel
theorem dL_law_1480 : decode cL_law 1480 = .ok (.iadd, 1) := by decide +kernel
theorem dL_law_1481 : decode cL_law 1481 = .ok (.iaload, 1) := by decide +kernel
theorem dL_law_1482 : decode cL_law 1482 = .ok (.invokevirtual 183, 3) := by decide +kernel
theorem dL_law_1485 : decode cL_law 1485 = .ok (.istore 6, 2) := by decide +kernel
theorem dL_law_1487 : decode cL_law 1487 = .ok (.aload_n 2, 1) := by decide +kernel
theorem dL_law_1488 : decode cL_law 1488 = .ok (.invokevirtual 113, 3) := by decide +kernel
theorem dL_law_1491 : decode cL_law 1491 = .ok (.iload 5, 2) := by decide +kernel
theorem dL_law_1493 : decode cL_law 1493 = .ok (.if_icmp .eq 5, 3) := by decide +kernel
theorem dL_law_1496 : decode cL_law 1496 = .ok (.iconst 0, 1) := by decide +kernel
theorem dL_law_1497 : decode cL_law 1497 = .ok (.ireturn, 1) := by decide +kernel
theorem dL_law_1498 : decode cL_law 1498 = .ok (.iload 5, 2) := by decide +kernel
theorem dL_law_1500 : decode cL_law 1500 = .ok (.ifCond .ne 15, 3) := by decide +kernel
theorem dL_law_1503 : decode cL_law 1503 = .ok (.aload_n 3, 1) := by decide +kernel
theorem dL_law_1504 : decode cL_law 1504 = .ok (.iconst 0, 1) := by decide +kernel
theorem dL_law_1505 : decode cL_law 1505 = .ok (.laload, 1) := by decide +kernel
theorem dL_law_1506 : decode cL_law 1506 = .ok (.iload 6, 2) := by decide +kernel
theorem dL_law_1508 : decode cL_law 1508 = .ok (.i2l, 1) := by decide +kernel
theorem dL_law_1509 : decode cL_law 1509 = .ok (.lcmp, 1) := by decide +kernel
theorem dL_law_1510 : decode cL_law 1510 = .ok (.ifCond .eq 5, 3) := by decide +kernel
theorem dL_law_1513 : decode cL_law 1513 = .ok (.iconst 0, 1) := by decide +kernel
theorem dL_law_1514 : decode cL_law 1514 = .ok (.ireturn, 1) := by decide +kernel
theorem dL_law_1515 : decode cL_law 1515 = .ok (.goto 566, 3) := by decide +kernel
theorem dL_law_1518 : decode cL_law 1518 = .ok (.aload_n 1, 1) := by decide +kernel
theorem dL_law_1519 : decode cL_law 1519 = .ok (.aload_n 0, 1) := by decide +kernel
theorem dL_law_1520 : decode cL_law 1520 = .ok (.iload 4, 2) := by decide +kernel
theorem dL_law_1522 : decode cL_law 1522 = .ok (.iconst 1, 1) := by decide +kernel
theorem dL_law_1523 : decode cL_law 1523 = .ok (.iadd, 1) := by decide +kernel
theorem dL_law_1524 : decode cL_law 1524 = .ok (.iaload, 1) := by decide +kernel
theorem dL_law_1525 : decode cL_law 1525 = .ok (.aload_n 3, 1) := by decide +kernel
theorem dL_law_1526 : decode cL_law 1526 = .ok (.invokestatic 184, 3) := by decide +kernel
theorem dL_law_1529 : decode cL_law 1529 = .ok (.istore 5, 2) := by decide +kernel
theorem dL_law_1531 : decode cL_law 1531 = .ok (.aload_n 2, 1) := by decide +kernel
theorem dL_law_1532 : decode cL_law 1532 = .ok (.aload_n 0, 1) := by decide +kernel
theorem dL_law_1533 : decode cL_law 1533 = .ok (.iload 4, 2) := by decide +kernel
theorem dL_law_1535 : decode cL_law 1535 = .ok (.iconst 1, 1) := by decide +kernel
theorem dL_law_1536 : decode cL_law 1536 = .ok (.iadd, 1) := by decide +kernel
theorem dL_law_1537 : decode cL_law 1537 = .ok (.iaload, 1) := by decide +kernel
theorem dL_law_1538 : decode cL_law 1538 = .ok (.invokevirtual 186, 3) := by decide +kernel
theorem dL_law_1541 : decode cL_law 1541 = .ok (.istore 6, 2) := by decide +kernel
theorem dL_law_1543 : decode cL_law 1543 = .ok (.aload_n 2, 1) := by decide +kernel
theorem dL_law_1544 : decode cL_law 1544 = .ok (.invokevirtual 113, 3) := by decide +kernel
theorem dL_law_1547 : decode cL_law 1547 = .ok (.iload 5, 2) := by decide +kernel
theorem dL_law_1549 : decode cL_law 1549 = .ok (.if_icmp .eq 5, 3) := by decide +kernel
theorem dL_law_1552 : decode cL_law 1552 = .ok (.iconst 0, 1) := by decide +kernel
theorem dL_law_1553 : decode cL_law 1553 = .ok (.ireturn, 1) := by decide +kernel
theorem dL_law_1554 : decode cL_law 1554 = .ok (.iload 5, 2) := by decide +kernel
theorem dL_law_1556 : decode cL_law 1556 = .ok (.ifCond .ne 15, 3) := by decide +kernel
theorem dL_law_1559 : decode cL_law 1559 = .ok (.aload_n 3, 1) := by decide +kernel
theorem dL_law_1560 : decode cL_law 1560 = .ok (.iconst 0, 1) := by decide +kernel
theorem dL_law_1561 : decode cL_law 1561 = .ok (.laload, 1) := by decide +kernel
theorem dL_law_1562 : decode cL_law 1562 = .ok (.iload 6, 2) := by decide +kernel
theorem dL_law_1564 : decode cL_law 1564 = .ok (.i2l, 1) := by decide +kernel
theorem dL_law_1565 : decode cL_law 1565 = .ok (.lcmp, 1) := by decide +kernel
theorem dL_law_1566 : decode cL_law 1566 = .ok (.ifCond .eq 5, 3) := by decide +kernel
theorem dL_law_1569 : decode cL_law 1569 = .ok (.iconst 0, 1) := by decide +kernel
theorem dL_law_1570 : decode cL_law 1570 = .ok (.ireturn, 1) := by decide +kernel
theorem dL_law_1571 : decode cL_law 1571 = .ok (.goto 510, 3) := by decide +kernel
theorem dL_law_1574 : decode cL_law 1574 = .ok (.aload_n 1, 1) := by decide +kernel
theorem dL_law_1575 : decode cL_law 1575 = .ok (.aload_n 0, 1) := by decide +kernel
theorem dL_law_1576 : decode cL_law 1576 = .ok (.iload 4, 2) := by decide +kernel
theorem dL_law_1578 : decode cL_law 1578 = .ok (.iconst 1, 1) := by decide +kernel
theorem dL_law_1579 : decode cL_law 1579 = .ok (.iadd, 1) := by decide +kernel
theorem dL_law_1580 : decode cL_law 1580 = .ok (.iaload, 1) := by decide +kernel
theorem dL_law_1581 : decode cL_law 1581 = .ok (.aload_n 0, 1) := by decide +kernel
theorem dL_law_1582 : decode cL_law 1582 = .ok (.iload 4, 2) := by decide +kernel
theorem dL_law_1584 : decode cL_law 1584 = .ok (.iconst 2, 1) := by decide +kernel
theorem dL_law_1585 : decode cL_law 1585 = .ok (.iadd, 1) := by decide +kernel
theorem dL_law_1586 : decode cL_law 1586 = .ok (.iaload, 1) := by decide +kernel
theorem dL_law_1587 : decode cL_law 1587 = .ok (.aload_n 0, 1) := by decide +kernel
theorem dL_law_1588 : decode cL_law 1588 = .ok (.iload 4, 2) := by decide +kernel
theorem dL_law_1590 : decode cL_law 1590 = .ok (.iconst 3, 1) := by decide +kernel
theorem dL_law_1591 : decode cL_law 1591 = .ok (.iadd, 1) := by decide +kernel
theorem dL_law_1592 : decode cL_law 1592 = .ok (.iaload, 1) := by decide +kernel
theorem dL_law_1593 : decode cL_law 1593 = .ok (.aload_n 3, 1) := by decide +kernel
theorem dL_law_1594 : decode cL_law 1594 = .ok (.invokestatic 187, 3) := by decide +kernel
theorem dL_law_1597 : decode cL_law 1597 = .ok (.istore 5, 2) := by decide +kernel
theorem dL_law_1599 : decode cL_law 1599 = .ok (.aload_n 2, 1) := by decide +kernel
theorem dL_law_1600 : decode cL_law 1600 = .ok (.aload_n 0, 1) := by decide +kernel
theorem dL_law_1601 : decode cL_law 1601 = .ok (.iload 4, 2) := by decide +kernel
theorem dL_law_1603 : decode cL_law 1603 = .ok (.iconst 1, 1) := by decide +kernel
theorem dL_law_1604 : decode cL_law 1604 = .ok (.iadd, 1) := by decide +kernel
theorem dL_law_1605 : decode cL_law 1605 = .ok (.iaload, 1) := by decide +kernel
theorem dL_law_1606 : decode cL_law 1606 = .ok (.aload_n 0, 1) := by decide +kernel
theorem dL_law_1607 : decode cL_law 1607 = .ok (.iload 4, 2) := by decide +kernel
theorem dL_law_1609 : decode cL_law 1609 = .ok (.iconst 2, 1) := by decide +kernel
theorem dL_law_1610 : decode cL_law 1610 = .ok (.iadd, 1) := by decide +kernel
theorem dL_law_1611 : decode cL_law 1611 = .ok (.iaload, 1) := by decide +kernel
theorem dL_law_1612 : decode cL_law 1612 = .ok (.aload_n 0, 1) := by decide +kernel
theorem dL_law_1613 : decode cL_law 1613 = .ok (.iload 4, 2) := by decide +kernel
theorem dL_law_1615 : decode cL_law 1615 = .ok (.iconst 3, 1) := by decide +kernel
theorem dL_law_1616 : decode cL_law 1616 = .ok (.iadd, 1) := by decide +kernel
theorem dL_law_1617 : decode cL_law 1617 = .ok (.iaload, 1) := by decide +kernel
theorem dL_law_1618 : decode cL_law 1618 = .ok (.invokevirtual 189, 3) := by decide +kernel
theorem dL_law_1621 : decode cL_law 1621 = .ok (.istore 6, 2) := by decide +kernel
theorem dL_law_1623 : decode cL_law 1623 = .ok (.aload_n 2, 1) := by decide +kernel
theorem dL_law_1624 : decode cL_law 1624 = .ok (.invokevirtual 113, 3) := by decide +kernel
theorem dL_law_1627 : decode cL_law 1627 = .ok (.iload 5, 2) := by decide +kernel
theorem dL_law_1629 : decode cL_law 1629 = .ok (.if_icmp .eq 5, 3) := by decide +kernel
theorem dL_law_1632 : decode cL_law 1632 = .ok (.iconst 0, 1) := by decide +kernel
theorem dL_law_1633 : decode cL_law 1633 = .ok (.ireturn, 1) := by decide +kernel
theorem dL_law_1634 : decode cL_law 1634 = .ok (.iload 5, 2) := by decide +kernel
theorem dL_law_1636 : decode cL_law 1636 = .ok (.ifCond .ne 15, 3) := by decide +kernel
theorem dL_law_1639 : decode cL_law 1639 = .ok (.aload_n 3, 1) := by decide +kernel
theorem dL_law_1640 : decode cL_law 1640 = .ok (.iconst 0, 1) := by decide +kernel
theorem dL_law_1641 : decode cL_law 1641 = .ok (.laload, 1) := by decide +kernel
theorem dL_law_1642 : decode cL_law 1642 = .ok (.iload 6, 2) := by decide +kernel
theorem dL_law_1644 : decode cL_law 1644 = .ok (.i2l, 1) := by decide +kernel
theorem dL_law_1645 : decode cL_law 1645 = .ok (.lcmp, 1) := by decide +kernel
theorem dL_law_1646 : decode cL_law 1646 = .ok (.ifCond .eq 5, 3) := by decide +kernel
theorem dL_law_1649 : decode cL_law 1649 = .ok (.iconst 0, 1) := by decide +kernel
theorem dL_law_1650 : decode cL_law 1650 = .ok (.ireturn, 1) := by decide +kernel
theorem dL_law_1651 : decode cL_law 1651 = .ok (.goto 430, 3) := by decide +kernel
theorem dL_law_1654 : decode cL_law 1654 = .ok (.aload_n 1, 1) := by decide +kernel
theorem dL_law_1655 : decode cL_law 1655 = .ok (.aload_n 0, 1) := by decide +kernel
theorem dL_law_1656 : decode cL_law 1656 = .ok (.iload 4, 2) := by decide +kernel
theorem dL_law_1658 : decode cL_law 1658 = .ok (.iconst 1, 1) := by decide +kernel
theorem dL_law_1659 : decode cL_law 1659 = .ok (.iadd, 1) := by decide +kernel
theorem dL_law_1660 : decode cL_law 1660 = .ok (.iaload, 1) := by decide +kernel
theorem dL_law_1661 : decode cL_law 1661 = .ok (.aload_n 0, 1) := by decide +kernel
theorem dL_law_1662 : decode cL_law 1662 = .ok (.iload 4, 2) := by decide +kernel
theorem dL_law_1664 : decode cL_law 1664 = .ok (.iconst 2, 1) := by decide +kernel
theorem dL_law_1665 : decode cL_law 1665 = .ok (.iadd, 1) := by decide +kernel
theorem dL_law_1666 : decode cL_law 1666 = .ok (.iaload, 1) := by decide +kernel
theorem dL_law_1667 : decode cL_law 1667 = .ok (.aload_n 3, 1) := by decide +kernel
theorem dL_law_1668 : decode cL_law 1668 = .ok (.invokestatic 190, 3) := by decide +kernel
theorem dL_law_1671 : decode cL_law 1671 = .ok (.istore 5, 2) := by decide +kernel
theorem dL_law_1673 : decode cL_law 1673 = .ok (.aload_n 2, 1) := by decide +kernel
theorem dL_law_1674 : decode cL_law 1674 = .ok (.aload_n 0, 1) := by decide +kernel
theorem dL_law_1675 : decode cL_law 1675 = .ok (.iload 4, 2) := by decide +kernel
theorem dL_law_1677 : decode cL_law 1677 = .ok (.iconst 1, 1) := by decide +kernel
theorem dL_law_1678 : decode cL_law 1678 = .ok (.iadd, 1) := by decide +kernel
theorem dL_law_1679 : decode cL_law 1679 = .ok (.iaload, 1) := by decide +kernel
theorem dL_law_1680 : decode cL_law 1680 = .ok (.aload_n 0, 1) := by decide +kernel
theorem dL_law_1681 : decode cL_law 1681 = .ok (.iload 4, 2) := by decide +kernel
theorem dL_law_1683 : decode cL_law 1683 = .ok (.iconst 2, 1) := by decide +kernel
theorem dL_law_1684 : decode cL_law 1684 = .ok (.iadd, 1) := by decide +kernel
theorem dL_law_1685 : decode cL_law 1685 = .ok (.iaload, 1) := by decide +kernel
theorem dL_law_1686 : decode cL_law 1686 = .ok (.invokevirtual 192, 3) := by decide +kernel
theorem dL_law_1689 : decode cL_law 1689 = .ok (.istore 6, 2) := by decide +kernel
theorem dL_law_1691 : decode cL_law 1691 = .ok (.aload_n 2, 1) := by decide +kernel
theorem dL_law_1692 : decode cL_law 1692 = .ok (.invokevirtual 113, 3) := by decide +kernel
theorem dL_law_1695 : decode cL_law 1695 = .ok (.iload 5, 2) := by decide +kernel
theorem dL_law_1697 : decode cL_law 1697 = .ok (.if_icmp .eq 5, 3) := by decide +kernel
theorem dL_law_1700 : decode cL_law 1700 = .ok (.iconst 0, 1) := by decide +kernel
theorem dL_law_1701 : decode cL_law 1701 = .ok (.ireturn, 1) := by decide +kernel
theorem dL_law_1702 : decode cL_law 1702 = .ok (.iload 5, 2) := by decide +kernel
theorem dL_law_1704 : decode cL_law 1704 = .ok (.ifCond .ne 15, 3) := by decide +kernel
theorem dL_law_1707 : decode cL_law 1707 = .ok (.aload_n 3, 1) := by decide +kernel
theorem dL_law_1708 : decode cL_law 1708 = .ok (.iconst 0, 1) := by decide +kernel
theorem dL_law_1709 : decode cL_law 1709 = .ok (.laload, 1) := by decide +kernel
theorem dL_law_1710 : decode cL_law 1710 = .ok (.iload 6, 2) := by decide +kernel
theorem dL_law_1712 : decode cL_law 1712 = .ok (.i2l, 1) := by decide +kernel
theorem dL_law_1713 : decode cL_law 1713 = .ok (.lcmp, 1) := by decide +kernel
theorem dL_law_1714 : decode cL_law 1714 = .ok (.ifCond .eq 5, 3) := by decide +kernel
theorem dL_law_1717 : decode cL_law 1717 = .ok (.iconst 0, 1) := by decide +kernel
theorem dL_law_1718 : decode cL_law 1718 = .ok (.ireturn, 1) := by decide +kernel
theorem dL_law_1719 : decode cL_law 1719 = .ok (.goto 362, 3) := by decide +kernel
theorem dL_law_1722 : decode cL_law 1722 = .ok (.aload_n 1, 1) := by decide +kernel
theorem dL_law_1723 : decode cL_law 1723 = .ok (.aload_n 0, 1) := by decide +kernel
theorem dL_law_1724 : decode cL_law 1724 = .ok (.iload 4, 2) := by decide +kernel
theorem dL_law_1726 : decode cL_law 1726 = .ok (.iconst 1, 1) := by decide +kernel
theorem dL_law_1727 : decode cL_law 1727 = .ok (.iadd, 1) := by decide +kernel
theorem dL_law_1728 : decode cL_law 1728 = .ok (.iaload, 1) := by decide +kernel
theorem dL_law_1729 : decode cL_law 1729 = .ok (.aload_n 0, 1) := by decide +kernel
theorem dL_law_1730 : decode cL_law 1730 = .ok (.iload 4, 2) := by decide +kernel
theorem dL_law_1732 : decode cL_law 1732 = .ok (.iconst 2, 1) := by decide +kernel
theorem dL_law_1733 : decode cL_law 1733 = .ok (.iadd, 1) := by decide +kernel
theorem dL_law_1734 : decode cL_law 1734 = .ok (.iaload, 1) := by decide +kernel
theorem dL_law_1735 : decode cL_law 1735 = .ok (.aload_n 3, 1) := by decide +kernel
theorem dL_law_1736 : decode cL_law 1736 = .ok (.invokestatic 193, 3) := by decide +kernel
theorem dL_law_1739 : decode cL_law 1739 = .ok (.istore 5, 2) := by decide +kernel
theorem dL_law_1741 : decode cL_law 1741 = .ok (.aload_n 2, 1) := by decide +kernel
theorem dL_law_1742 : decode cL_law 1742 = .ok (.aload_n 0, 1) := by decide +kernel
theorem dL_law_1743 : decode cL_law 1743 = .ok (.iload 4, 2) := by decide +kernel
theorem dL_law_1745 : decode cL_law 1745 = .ok (.iconst 1, 1) := by decide +kernel
theorem dL_law_1746 : decode cL_law 1746 = .ok (.iadd, 1) := by decide +kernel
theorem dL_law_1747 : decode cL_law 1747 = .ok (.iaload, 1) := by decide +kernel
theorem dL_law_1748 : decode cL_law 1748 = .ok (.aload_n 0, 1) := by decide +kernel
theorem dL_law_1749 : decode cL_law 1749 = .ok (.iload 4, 2) := by decide +kernel
theorem dL_law_1751 : decode cL_law 1751 = .ok (.iconst 2, 1) := by decide +kernel
theorem dL_law_1752 : decode cL_law 1752 = .ok (.iadd, 1) := by decide +kernel
theorem dL_law_1753 : decode cL_law 1753 = .ok (.iaload, 1) := by decide +kernel
theorem dL_law_1754 : decode cL_law 1754 = .ok (.invokevirtual 195, 3) := by decide +kernel
theorem dL_law_1757 : decode cL_law 1757 = .ok (.istore 6, 2) := by decide +kernel
theorem dL_law_1759 : decode cL_law 1759 = .ok (.aload_n 2, 1) := by decide +kernel
theorem dL_law_1760 : decode cL_law 1760 = .ok (.invokevirtual 113, 3) := by decide +kernel
theorem dL_law_1763 : decode cL_law 1763 = .ok (.iload 5, 2) := by decide +kernel
theorem dL_law_1765 : decode cL_law 1765 = .ok (.if_icmp .eq 5, 3) := by decide +kernel
theorem dL_law_1768 : decode cL_law 1768 = .ok (.iconst 0, 1) := by decide +kernel
theorem dL_law_1769 : decode cL_law 1769 = .ok (.ireturn, 1) := by decide +kernel
theorem dL_law_1770 : decode cL_law 1770 = .ok (.iload 5, 2) := by decide +kernel
theorem dL_law_1772 : decode cL_law 1772 = .ok (.ifCond .ne 15, 3) := by decide +kernel
theorem dL_law_1775 : decode cL_law 1775 = .ok (.aload_n 3, 1) := by decide +kernel
theorem dL_law_1776 : decode cL_law 1776 = .ok (.iconst 0, 1) := by decide +kernel
theorem dL_law_1777 : decode cL_law 1777 = .ok (.laload, 1) := by decide +kernel
theorem dL_law_1778 : decode cL_law 1778 = .ok (.iload 6, 2) := by decide +kernel
theorem dL_law_1780 : decode cL_law 1780 = .ok (.i2l, 1) := by decide +kernel
theorem dL_law_1781 : decode cL_law 1781 = .ok (.lcmp, 1) := by decide +kernel
theorem dL_law_1782 : decode cL_law 1782 = .ok (.ifCond .eq 5, 3) := by decide +kernel
theorem dL_law_1785 : decode cL_law 1785 = .ok (.iconst 0, 1) := by decide +kernel
theorem dL_law_1786 : decode cL_law 1786 = .ok (.ireturn, 1) := by decide +kernel
theorem dL_law_1787 : decode cL_law 1787 = .ok (.goto 294, 3) := by decide +kernel
theorem dL_law_1790 : decode cL_law 1790 = .ok (.aload_n 1, 1) := by decide +kernel
theorem dL_law_1791 : decode cL_law 1791 = .ok (.aload_n 0, 1) := by decide +kernel
theorem dL_law_1792 : decode cL_law 1792 = .ok (.iload 4, 2) := by decide +kernel
theorem dL_law_1794 : decode cL_law 1794 = .ok (.iconst 1, 1) := by decide +kernel
theorem dL_law_1795 : decode cL_law 1795 = .ok (.iadd, 1) := by decide +kernel
theorem dL_law_1796 : decode cL_law 1796 = .ok (.iaload, 1) := by decide +kernel
theorem dL_law_1797 : decode cL_law 1797 = .ok (.aload_n 3, 1) := by decide +kernel
theorem dL_law_1798 : decode cL_law 1798 = .ok (.invokestatic 196, 3) := by decide +kernel
theorem dL_law_1801 : decode cL_law 1801 = .ok (.istore 5, 2) := by decide +kernel
theorem dL_law_1803 : decode cL_law 1803 = .ok (.aload_n 2, 1) := by decide +kernel
theorem dL_law_1804 : decode cL_law 1804 = .ok (.aload_n 0, 1) := by decide +kernel
theorem dL_law_1805 : decode cL_law 1805 = .ok (.iload 4, 2) := by decide +kernel
theorem dL_law_1807 : decode cL_law 1807 = .ok (.iconst 1, 1) := by decide +kernel
theorem dL_law_1808 : decode cL_law 1808 = .ok (.iadd, 1) := by decide +kernel
theorem dL_law_1809 : decode cL_law 1809 = .ok (.iaload, 1) := by decide +kernel
theorem dL_law_1810 : decode cL_law 1810 = .ok (.invokevirtual 198, 3) := by decide +kernel
theorem dL_law_1813 : decode cL_law 1813 = .ok (.istore 6, 2) := by decide +kernel
theorem dL_law_1815 : decode cL_law 1815 = .ok (.aload_n 2, 1) := by decide +kernel
theorem dL_law_1816 : decode cL_law 1816 = .ok (.invokevirtual 113, 3) := by decide +kernel
theorem dL_law_1819 : decode cL_law 1819 = .ok (.iload 5, 2) := by decide +kernel
theorem dL_law_1821 : decode cL_law 1821 = .ok (.if_icmp .eq 5, 3) := by decide +kernel
theorem dL_law_1824 : decode cL_law 1824 = .ok (.iconst 0, 1) := by decide +kernel
theorem dL_law_1825 : decode cL_law 1825 = .ok (.ireturn, 1) := by decide +kernel
theorem dL_law_1826 : decode cL_law 1826 = .ok (.iload 5, 2) := by decide +kernel
theorem dL_law_1828 : decode cL_law 1828 = .ok (.ifCond .ne 15, 3) := by decide +kernel
theorem dL_law_1831 : decode cL_law 1831 = .ok (.aload_n 3, 1) := by decide +kernel
theorem dL_law_1832 : decode cL_law 1832 = .ok (.iconst 0, 1) := by decide +kernel
theorem dL_law_1833 : decode cL_law 1833 = .ok (.laload, 1) := by decide +kernel
theorem dL_law_1834 : decode cL_law 1834 = .ok (.iload 6, 2) := by decide +kernel
theorem dL_law_1836 : decode cL_law 1836 = .ok (.i2l, 1) := by decide +kernel
theorem dL_law_1837 : decode cL_law 1837 = .ok (.lcmp, 1) := by decide +kernel
theorem dL_law_1838 : decode cL_law 1838 = .ok (.ifCond .eq 5, 3) := by decide +kernel
theorem dL_law_1841 : decode cL_law 1841 = .ok (.iconst 0, 1) := by decide +kernel
theorem dL_law_1842 : decode cL_law 1842 = .ok (.ireturn, 1) := by decide +kernel
theorem dL_law_1843 : decode cL_law 1843 = .ok (.goto 238, 3) := by decide +kernel
theorem dL_law_1846 : decode cL_law 1846 = .ok (.aload_n 1, 1) := by decide +kernel
theorem dL_law_1847 : decode cL_law 1847 = .ok (.aload_n 0, 1) := by decide +kernel
theorem dL_law_1848 : decode cL_law 1848 = .ok (.iload 4, 2) := by decide +kernel
theorem dL_law_1850 : decode cL_law 1850 = .ok (.iconst 1, 1) := by decide +kernel
theorem dL_law_1851 : decode cL_law 1851 = .ok (.iadd, 1) := by decide +kernel
theorem dL_law_1852 : decode cL_law 1852 = .ok (.iaload, 1) := by decide +kernel
theorem dL_law_1853 : decode cL_law 1853 = .ok (.aload_n 3, 1) := by decide +kernel
theorem dL_law_1854 : decode cL_law 1854 = .ok (.invokestatic 199, 3) := by decide +kernel
theorem dL_law_1857 : decode cL_law 1857 = .ok (.istore 5, 2) := by decide +kernel
theorem dL_law_1859 : decode cL_law 1859 = .ok (.aload_n 2, 1) := by decide +kernel
theorem dL_law_1860 : decode cL_law 1860 = .ok (.aload_n 0, 1) := by decide +kernel
theorem dL_law_1861 : decode cL_law 1861 = .ok (.iload 4, 2) := by decide +kernel
theorem dL_law_1863 : decode cL_law 1863 = .ok (.iconst 1, 1) := by decide +kernel
theorem dL_law_1864 : decode cL_law 1864 = .ok (.iadd, 1) := by decide +kernel
theorem dL_law_1865 : decode cL_law 1865 = .ok (.iaload, 1) := by decide +kernel
theorem dL_law_1866 : decode cL_law 1866 = .ok (.invokevirtual 201, 3) := by decide +kernel
theorem dL_law_1869 : decode cL_law 1869 = .ok (.istore 6, 2) := by decide +kernel
theorem dL_law_1871 : decode cL_law 1871 = .ok (.aload_n 2, 1) := by decide +kernel
theorem dL_law_1872 : decode cL_law 1872 = .ok (.invokevirtual 113, 3) := by decide +kernel
theorem dL_law_1875 : decode cL_law 1875 = .ok (.iload 5, 2) := by decide +kernel
theorem dL_law_1877 : decode cL_law 1877 = .ok (.if_icmp .eq 5, 3) := by decide +kernel
theorem dL_law_1880 : decode cL_law 1880 = .ok (.iconst 0, 1) := by decide +kernel
theorem dL_law_1881 : decode cL_law 1881 = .ok (.ireturn, 1) := by decide +kernel
theorem dL_law_1882 : decode cL_law 1882 = .ok (.iload 5, 2) := by decide +kernel
theorem dL_law_1884 : decode cL_law 1884 = .ok (.ifCond .ne 15, 3) := by decide +kernel
theorem dL_law_1887 : decode cL_law 1887 = .ok (.aload_n 3, 1) := by decide +kernel
theorem dL_law_1888 : decode cL_law 1888 = .ok (.iconst 0, 1) := by decide +kernel
theorem dL_law_1889 : decode cL_law 1889 = .ok (.laload, 1) := by decide +kernel
theorem dL_law_1890 : decode cL_law 1890 = .ok (.iload 6, 2) := by decide +kernel
theorem dL_law_1892 : decode cL_law 1892 = .ok (.i2l, 1) := by decide +kernel
theorem dL_law_1893 : decode cL_law 1893 = .ok (.lcmp, 1) := by decide +kernel
theorem dL_law_1894 : decode cL_law 1894 = .ok (.ifCond .eq 5, 3) := by decide +kernel
theorem dL_law_1897 : decode cL_law 1897 = .ok (.iconst 0, 1) := by decide +kernel
theorem dL_law_1898 : decode cL_law 1898 = .ok (.ireturn, 1) := by decide +kernel
theorem dL_law_1899 : decode cL_law 1899 = .ok (.goto 182, 3) := by decide +kernel
theorem dL_law_1902 : decode cL_law 1902 = .ok (.aload_n 1, 1) := by decide +kernel
theorem dL_law_1903 : decode cL_law 1903 = .ok (.aload_n 0, 1) := by decide +kernel
theorem dL_law_1904 : decode cL_law 1904 = .ok (.iload 4, 2) := by decide +kernel
theorem dL_law_1906 : decode cL_law 1906 = .ok (.iconst 1, 1) := by decide +kernel
theorem dL_law_1907 : decode cL_law 1907 = .ok (.iadd, 1) := by decide +kernel
theorem dL_law_1908 : decode cL_law 1908 = .ok (.iaload, 1) := by decide +kernel
theorem dL_law_1909 : decode cL_law 1909 = .ok (.aload_n 0, 1) := by decide +kernel
theorem dL_law_1910 : decode cL_law 1910 = .ok (.iload 4, 2) := by decide +kernel
theorem dL_law_1912 : decode cL_law 1912 = .ok (.iconst 2, 1) := by decide +kernel
theorem dL_law_1913 : decode cL_law 1913 = .ok (.iadd, 1) := by decide +kernel
theorem dL_law_1914 : decode cL_law 1914 = .ok (.iaload, 1) := by decide +kernel
theorem dL_law_1915 : decode cL_law 1915 = .ok (.aload_n 3, 1) := by decide +kernel
theorem dL_law_1916 : decode cL_law 1916 = .ok (.invokestatic 202, 3) := by decide +kernel
theorem dL_law_1919 : decode cL_law 1919 = .ok (.istore 5, 2) := by decide +kernel
theorem dL_law_1921 : decode cL_law 1921 = .ok (.aload_n 2, 1) := by decide +kernel
theorem dL_law_1922 : decode cL_law 1922 = .ok (.aload_n 0, 1) := by decide +kernel
theorem dL_law_1923 : decode cL_law 1923 = .ok (.iload 4, 2) := by decide +kernel
theorem dL_law_1925 : decode cL_law 1925 = .ok (.iconst 1, 1) := by decide +kernel
theorem dL_law_1926 : decode cL_law 1926 = .ok (.iadd, 1) := by decide +kernel
theorem dL_law_1927 : decode cL_law 1927 = .ok (.iaload, 1) := by decide +kernel
theorem dL_law_1928 : decode cL_law 1928 = .ok (.aload_n 0, 1) := by decide +kernel
theorem dL_law_1929 : decode cL_law 1929 = .ok (.iload 4, 2) := by decide +kernel
theorem dL_law_1931 : decode cL_law 1931 = .ok (.iconst 2, 1) := by decide +kernel
theorem dL_law_1932 : decode cL_law 1932 = .ok (.iadd, 1) := by decide +kernel
theorem dL_law_1933 : decode cL_law 1933 = .ok (.iaload, 1) := by decide +kernel
theorem dL_law_1934 : decode cL_law 1934 = .ok (.invokevirtual 204, 3) := by decide +kernel
theorem dL_law_1937 : decode cL_law 1937 = .ok (.istore 6, 2) := by decide +kernel
theorem dL_law_1939 : decode cL_law 1939 = .ok (.aload_n 2, 1) := by decide +kernel
theorem dL_law_1940 : decode cL_law 1940 = .ok (.invokevirtual 113, 3) := by decide +kernel
theorem dL_law_1943 : decode cL_law 1943 = .ok (.iload 5, 2) := by decide +kernel
theorem dL_law_1945 : decode cL_law 1945 = .ok (.if_icmp .eq 5, 3) := by decide +kernel
theorem dL_law_1948 : decode cL_law 1948 = .ok (.iconst 0, 1) := by decide +kernel
theorem dL_law_1949 : decode cL_law 1949 = .ok (.ireturn, 1) := by decide +kernel
theorem dL_law_1950 : decode cL_law 1950 = .ok (.iload 5, 2) := by decide +kernel
theorem dL_law_1952 : decode cL_law 1952 = .ok (.ifCond .ne 15, 3) := by decide +kernel
theorem dL_law_1955 : decode cL_law 1955 = .ok (.aload_n 3, 1) := by decide +kernel
theorem dL_law_1956 : decode cL_law 1956 = .ok (.iconst 0, 1) := by decide +kernel
theorem dL_law_1957 : decode cL_law 1957 = .ok (.laload, 1) := by decide +kernel
theorem dL_law_1958 : decode cL_law 1958 = .ok (.iload 6, 2) := by decide +kernel
theorem dL_law_1960 : decode cL_law 1960 = .ok (.i2l, 1) := by decide +kernel
theorem dL_law_1961 : decode cL_law 1961 = .ok (.lcmp, 1) := by decide +kernel
theorem dL_law_1962 : decode cL_law 1962 = .ok (.ifCond .eq 5, 3) := by decide +kernel
theorem dL_law_1965 : decode cL_law 1965 = .ok (.iconst 0, 1) := by decide +kernel
theorem dL_law_1966 : decode cL_law 1966 = .ok (.ireturn, 1) := by decide +kernel
theorem dL_law_1967 : decode cL_law 1967 = .ok (.goto 114, 3) := by decide +kernel
theorem dL_law_1970 : decode cL_law 1970 = .ok (.aload_n 1, 1) := by decide +kernel
theorem dL_law_1971 : decode cL_law 1971 = .ok (.aload_n 0, 1) := by decide +kernel
theorem dL_law_1972 : decode cL_law 1972 = .ok (.iload 4, 2) := by decide +kernel
theorem dL_law_1974 : decode cL_law 1974 = .ok (.iconst 1, 1) := by decide +kernel
theorem dL_law_1975 : decode cL_law 1975 = .ok (.iadd, 1) := by decide +kernel
theorem dL_law_1976 : decode cL_law 1976 = .ok (.iaload, 1) := by decide +kernel
theorem dL_law_1977 : decode cL_law 1977 = .ok (.aload_n 3, 1) := by decide +kernel
theorem dL_law_1978 : decode cL_law 1978 = .ok (.invokestatic 205, 3) := by decide +kernel
theorem dL_law_1981 : decode cL_law 1981 = .ok (.istore 5, 2) := by decide +kernel
theorem dL_law_1983 : decode cL_law 1983 = .ok (.aload_n 2, 1) := by decide +kernel
theorem dL_law_1984 : decode cL_law 1984 = .ok (.aload_n 0, 1) := by decide +kernel
theorem dL_law_1985 : decode cL_law 1985 = .ok (.iload 4, 2) := by decide +kernel
theorem dL_law_1987 : decode cL_law 1987 = .ok (.iconst 1, 1) := by decide +kernel
theorem dL_law_1988 : decode cL_law 1988 = .ok (.iadd, 1) := by decide +kernel
theorem dL_law_1989 : decode cL_law 1989 = .ok (.iaload, 1) := by decide +kernel
theorem dL_law_1990 : decode cL_law 1990 = .ok (.invokevirtual 207, 3) := by decide +kernel
theorem dL_law_1993 : decode cL_law 1993 = .ok (.istore 6, 2) := by decide +kernel
theorem dL_law_1995 : decode cL_law 1995 = .ok (.aload_n 2, 1) := by decide +kernel
theorem dL_law_1996 : decode cL_law 1996 = .ok (.invokevirtual 113, 3) := by decide +kernel
theorem dL_law_1999 : decode cL_law 1999 = .ok (.iload 5, 2) := by decide +kernel
theorem dL_law_2001 : decode cL_law 2001 = .ok (.if_icmp .eq 5, 3) := by decide +kernel
theorem dL_law_2004 : decode cL_law 2004 = .ok (.iconst 0, 1) := by decide +kernel
theorem dL_law_2005 : decode cL_law 2005 = .ok (.ireturn, 1) := by decide +kernel
theorem dL_law_2006 : decode cL_law 2006 = .ok (.iload 5, 2) := by decide +kernel
theorem dL_law_2008 : decode cL_law 2008 = .ok (.ifCond .ne 15, 3) := by decide +kernel
theorem dL_law_2011 : decode cL_law 2011 = .ok (.aload_n 3, 1) := by decide +kernel
theorem dL_law_2012 : decode cL_law 2012 = .ok (.iconst 0, 1) := by decide +kernel
theorem dL_law_2013 : decode cL_law 2013 = .ok (.laload, 1) := by decide +kernel
theorem dL_law_2014 : decode cL_law 2014 = .ok (.iload 6, 2) := by decide +kernel
theorem dL_law_2016 : decode cL_law 2016 = .ok (.i2l, 1) := by decide +kernel
theorem dL_law_2017 : decode cL_law 2017 = .ok (.lcmp, 1) := by decide +kernel
theorem dL_law_2018 : decode cL_law 2018 = .ok (.ifCond .eq 5, 3) := by decide +kernel
theorem dL_law_2021 : decode cL_law 2021 = .ok (.iconst 0, 1) := by decide +kernel
theorem dL_law_2022 : decode cL_law 2022 = .ok (.ireturn, 1) := by decide +kernel
theorem dL_law_2023 : decode cL_law 2023 = .ok (.goto 58, 3) := by decide +kernel
theorem dL_law_2026 : decode cL_law 2026 = .ok (.aload_n 1, 1) := by decide +kernel
theorem dL_law_2027 : decode cL_law 2027 = .ok (.invokevirtual 208, 3) := by decide +kernel
theorem dL_law_2030 : decode cL_law 2030 = .ok (.dstore 5, 2) := by decide +kernel
theorem dL_law_2032 : decode cL_law 2032 = .ok (.aload_n 2, 1) := by decide +kernel
theorem dL_law_2033 : decode cL_law 2033 = .ok (.invokevirtual 212, 3) := by decide +kernel
theorem dL_law_2036 : decode cL_law 2036 = .ok (.dstore 7, 2) := by decide +kernel
theorem dL_law_2038 : decode cL_law 2038 = .ok (.dload 5, 2) := by decide +kernel
theorem dL_law_2040 : decode cL_law 2040 = .ok (.dload 7, 2) := by decide +kernel
theorem dL_law_2042 : decode cL_law 2042 = .ok (.dcmp .l, 1) := by decide +kernel
theorem dL_law_2043 : decode cL_law 2043 = .ok (.ifCond .eq 21, 3) := by decide +kernel
theorem dL_law_2046 : decode cL_law 2046 = .ok (.dload 5, 2) := by decide +kernel
theorem dL_law_2048 : decode cL_law 2048 = .ok (.dload 5, 2) := by decide +kernel
theorem dL_law_2050 : decode cL_law 2050 = .ok (.dcmp .l, 1) := by decide +kernel
theorem dL_law_2051 : decode cL_law 2051 = .ok (.ifCond .eq 11, 3) := by decide +kernel
theorem dL_law_2054 : decode cL_law 2054 = .ok (.dload 7, 2) := by decide +kernel
theorem dL_law_2056 : decode cL_law 2056 = .ok (.dload 7, 2) := by decide +kernel
theorem dL_law_2058 : decode cL_law 2058 = .ok (.dcmp .l, 1) := by decide +kernel
theorem dL_law_2059 : decode cL_law 2059 = .ok (.ifCond .ne 5, 3) := by decide +kernel
theorem dL_law_2062 : decode cL_law 2062 = .ok (.iconst 0, 1) := by decide +kernel
theorem dL_law_2063 : decode cL_law 2063 = .ok (.ireturn, 1) := by decide +kernel
theorem dL_law_2064 : decode cL_law 2064 = .ok (.goto 17, 3) := by decide +kernel
theorem dL_law_2067 : decode cL_law 2067 = .ok (.aload_n 1, 1) := by decide +kernel
theorem dL_law_2068 : decode cL_law 2068 = .ok (.invokevirtual 213, 3) := by decide +kernel
theorem dL_law_2071 : decode cL_law 2071 = .ok (.aload_n 2, 1) := by decide +kernel
theorem dL_law_2072 : decode cL_law 2072 = .ok (.invokevirtual 217, 3) := by decide +kernel
theorem dL_law_2075 : decode cL_law 2075 = .ok (.lcmp, 1) := by decide +kernel
theorem dL_law_2076 : decode cL_law 2076 = .ok (.ifCond .eq 5, 3) := by decide +kernel
theorem dL_law_2079 : decode cL_law 2079 = .ok (.iconst 0, 1) := by decide +kernel
theorem dL_law_2080 : decode cL_law 2080 = .ok (.ireturn, 1) := by decide +kernel
theorem dL_law_2081 : decode cL_law 2081 = .ok (.iinc 4 4, 3) := by decide +kernel
theorem dL_law_2084 : decode cL_law 2084 = .ok (.goto (-2061), 3) := by decide +kernel
theorem dL_law_2087 : decode cL_law 2087 = .ok (.iconst 1, 1) := by decide +kernel
theorem dL_law_2088 : decode cL_law 2088 = .ok (.ireturn, 1) := by decide +kernel
end
