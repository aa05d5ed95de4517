section
-- ===== PART A: goes FIRST, ahead of the names: the tables' words, and 'selects' of the private methods out of them =====
/-- a private method of a class that the tables say can be made, by its rows of tables_1 -/
def lw_okq (q : MethodName × Nat) : Prop := (q.1.cls ≠ "java/lang/invoke/MethodHandle" ∧ q.1.cls ≠ "java/lang/invoke/VarHandle") ∧ Cond.instantiable q.1.cls q.2 ∈ tables_1 ∧ Cond.privateMethod q.1 ∈ tables_1 ∧ Cond.instanceMethod q.1 ∈ tables_1
theorem lw_p0 : lw_okq (⟨"java/lang/Throwable", "fillInStackTrace", "(I)Ljava/lang/Throwable;"⟩, 6) := ⟨⟨by decide +kernel, by decide +kernel⟩, List.mem_of_getElem? (i := 167) (by decide +kernel), List.mem_of_getElem? (i := 165) (by decide +kernel), List.mem_of_getElem? (i := 166) (by decide +kernel)⟩
theorem lw_p1 : lw_okq (⟨"DyehouseLedger", "recipeNumbered", "(I)LDyehouseLedger$Recipe;"⟩, 11) := ⟨⟨by decide +kernel, by decide +kernel⟩, List.mem_of_getElem? (i := 22) (by decide +kernel), List.mem_of_getElem? (i := 256) (by decide +kernel), List.mem_of_getElem? (i := 257) (by decide +kernel)⟩
theorem lw_p2 : lw_okq (⟨"DyehouseLedger", "orderNumbered", "(I)LDyehouseLedger$Order;"⟩, 11) := ⟨⟨by decide +kernel, by decide +kernel⟩, List.mem_of_getElem? (i := 22) (by decide +kernel), List.mem_of_getElem? (i := 340) (by decide +kernel), List.mem_of_getElem? (i := 341) (by decide +kernel)⟩
theorem lw_p3 : lw_okq (⟨"DyehouseLedger", "lotNumbered", "(I)LDyehouseLedger$Lot;"⟩, 11) := ⟨⟨by decide +kernel, by decide +kernel⟩, List.mem_of_getElem? (i := 22) (by decide +kernel), List.mem_of_getElem? (i := 430) (by decide +kernel), List.mem_of_getElem? (i := 431) (by decide +kernel)⟩
theorem lw_p4 : lw_okq (⟨"DyehouseLedger", "vatNumbered", "(I)LDyehouseLedger$Vat;"⟩, 11) := ⟨⟨by decide +kernel, by decide +kernel⟩, List.mem_of_getElem? (i := 22) (by decide +kernel), List.mem_of_getElem? (i := 456) (by decide +kernel), List.mem_of_getElem? (i := 457) (by decide +kernel)⟩
theorem lw_p5 : lw_okq (⟨"DyehouseLedger", "reasonAgainst", "(LDyehouseLedger$Lot;LDyehouseLedger$Vat;)C"⟩, 11) := ⟨⟨by decide +kernel, by decide +kernel⟩, List.mem_of_getElem? (i := 22) (by decide +kernel), List.mem_of_getElem? (i := 460) (by decide +kernel), List.mem_of_getElem? (i := 461) (by decide +kernel)⟩
theorem lw_p6 : lw_okq (⟨"DyehouseLedger", "isStocked", "(LDyehouseLedger$Lot;)Z"⟩, 11) := ⟨⟨by decide +kernel, by decide +kernel⟩, List.mem_of_getElem? (i := 22) (by decide +kernel), List.mem_of_getElem? (i := 470) (by decide +kernel), List.mem_of_getElem? (i := 471) (by decide +kernel)⟩
theorem lw_p7 : lw_okq (⟨"DyehouseLedger", "takeDyesFor", "(LDyehouseLedger$Lot;)V"⟩, 11) := ⟨⟨by decide +kernel, by decide +kernel⟩, List.mem_of_getElem? (i := 22) (by decide +kernel), List.mem_of_getElem? (i := 497) (by decide +kernel), List.mem_of_getElem? (i := 498) (by decide +kernel)⟩
theorem lw_p8 : lw_okq (⟨"DyehouseLedger", "dyedLotNumbered", "(I)LDyehouseLedger$Lot;"⟩, 11) := ⟨⟨by decide +kernel, by decide +kernel⟩, List.mem_of_getElem? (i := 22) (by decide +kernel), List.mem_of_getElem? (i := 519) (by decide +kernel), List.mem_of_getElem? (i := 520) (by decide +kernel)⟩
theorem lw_p9 : lw_okq (⟨"DyehouseLedger", "verdictOn", "(LDyehouseLedger$Lot;)C"⟩, 11) := ⟨⟨by decide +kernel, by decide +kernel⟩, List.mem_of_getElem? (i := 22) (by decide +kernel), List.mem_of_getElem? (i := 523) (by decide +kernel), List.mem_of_getElem? (i := 524) (by decide +kernel)⟩
theorem lw_p10 : lw_okq (⟨"DyehouseLedger", "greatestDistanceFromPassed", "(LDyehouseLedger$Lot;)I"⟩, 11) := ⟨⟨by decide +kernel, by decide +kernel⟩, List.mem_of_getElem? (i := 22) (by decide +kernel), List.mem_of_getElem? (i := 538) (by decide +kernel), List.mem_of_getElem? (i := 539) (by decide +kernel)⟩
theorem lw_p11 : lw_okq (⟨"DyehouseLedger", "lotsInState", "(C)I"⟩, 11) := ⟨⟨by decide +kernel, by decide +kernel⟩, List.mem_of_getElem? (i := 22) (by decide +kernel), List.mem_of_getElem? (i := 567) (by decide +kernel), List.mem_of_getElem? (i := 568) (by decide +kernel)⟩
theorem lw_p12 : lw_okq (⟨"DyehouseLedger", "plannedLots", "(LDyehouseLedger$Vat;)I"⟩, 11) := ⟨⟨by decide +kernel, by decide +kernel⟩, List.mem_of_getElem? (i := 22) (by decide +kernel), List.mem_of_getElem? (i := 578) (by decide +kernel), List.mem_of_getElem? (i := 579) (by decide +kernel)⟩
theorem lw_p13 : lw_okq (⟨"DyehouseLedger", "fillPlan", "(LDyehouseLedger$Vat;)V"⟩, 11) := ⟨⟨by decide +kernel, by decide +kernel⟩, List.mem_of_getElem? (i := 22) (by decide +kernel), List.mem_of_getElem? (i := 658) (by decide +kernel), List.mem_of_getElem? (i := 659) (by decide +kernel)⟩
theorem lw_p14 : lw_okq (⟨"DyehouseLedger$Plan", "mustBeCleaned", "(III)Z"⟩, 7) := ⟨⟨by decide +kernel, by decide +kernel⟩, List.mem_of_getElem? (i := 38) (by decide +kernel), List.mem_of_getElem? (i := 682) (by decide +kernel), List.mem_of_getElem? (i := 683) (by decide +kernel)⟩
theorem lw_p15 : lw_okq (⟨"DyehouseLedger$Plan", "fewestBeginningWith", "(II)I"⟩, 7) := ⟨⟨by decide +kernel, by decide +kernel⟩, List.mem_of_getElem? (i := 38) (by decide +kernel), List.mem_of_getElem? (i := 718) (by decide +kernel), List.mem_of_getElem? (i := 719) (by decide +kernel)⟩
def lw_privs_1 : List (MethodName × Nat) := [(⟨"java/lang/Throwable", "fillInStackTrace", "(I)Ljava/lang/Throwable;"⟩, 6), (⟨"DyehouseLedger", "recipeNumbered", "(I)LDyehouseLedger$Recipe;"⟩, 11), (⟨"DyehouseLedger", "orderNumbered", "(I)LDyehouseLedger$Order;"⟩, 11), (⟨"DyehouseLedger", "lotNumbered", "(I)LDyehouseLedger$Lot;"⟩, 11), (⟨"DyehouseLedger", "vatNumbered", "(I)LDyehouseLedger$Vat;"⟩, 11), (⟨"DyehouseLedger", "reasonAgainst", "(LDyehouseLedger$Lot;LDyehouseLedger$Vat;)C"⟩, 11), (⟨"DyehouseLedger", "isStocked", "(LDyehouseLedger$Lot;)Z"⟩, 11), (⟨"DyehouseLedger", "takeDyesFor", "(LDyehouseLedger$Lot;)V"⟩, 11), (⟨"DyehouseLedger", "dyedLotNumbered", "(I)LDyehouseLedger$Lot;"⟩, 11), (⟨"DyehouseLedger", "verdictOn", "(LDyehouseLedger$Lot;)C"⟩, 11), (⟨"DyehouseLedger", "greatestDistanceFromPassed", "(LDyehouseLedger$Lot;)I"⟩, 11), (⟨"DyehouseLedger", "lotsInState", "(C)I"⟩, 11), (⟨"DyehouseLedger", "plannedLots", "(LDyehouseLedger$Vat;)I"⟩, 11), (⟨"DyehouseLedger", "fillPlan", "(LDyehouseLedger$Vat;)V"⟩, 11), (⟨"DyehouseLedger$Plan", "mustBeCleaned", "(III)Z"⟩, 7), (⟨"DyehouseLedger$Plan", "fewestBeginningWith", "(II)I"⟩, 7)]
theorem lw_r1 : ∀ q ∈ lw_privs_1, lw_okq q := List.forall_mem_cons.mpr ⟨lw_p0, List.forall_mem_cons.mpr ⟨lw_p1, List.forall_mem_cons.mpr ⟨lw_p2, List.forall_mem_cons.mpr ⟨lw_p3, List.forall_mem_cons.mpr ⟨lw_p4, List.forall_mem_cons.mpr ⟨lw_p5, List.forall_mem_cons.mpr ⟨lw_p6, List.forall_mem_cons.mpr ⟨lw_p7, List.forall_mem_cons.mpr ⟨lw_p8, List.forall_mem_cons.mpr ⟨lw_p9, List.forall_mem_cons.mpr ⟨lw_p10, List.forall_mem_cons.mpr ⟨lw_p11, List.forall_mem_cons.mpr ⟨lw_p12, List.forall_mem_cons.mpr ⟨lw_p13, List.forall_mem_cons.mpr ⟨lw_p14, List.forall_mem_cons.mpr ⟨lw_p15, fun _ h => absurd h List.not_mem_nil⟩⟩⟩⟩⟩⟩⟩⟩⟩⟩⟩⟩⟩⟩⟩⟩
theorem lw_p16 : lw_okq (⟨"DyehouseLedger", "shadedLotNumbered", "(I)LDyehouseLedger$Lot;"⟩, 11) := ⟨⟨by decide +kernel, by decide +kernel⟩, List.mem_of_getElem? (i := 22) (by decide +kernel), List.mem_of_getElem? (i := 736) (by decide +kernel), List.mem_of_getElem? (i := 737) (by decide +kernel)⟩
theorem lw_p17 : lw_okq (⟨"DyehouseLedger", "placeByLight", "(LDyehouseLedger$Lot;)I"⟩, 11) := ⟨⟨by decide +kernel, by decide +kernel⟩, List.mem_of_getElem? (i := 22) (by decide +kernel), List.mem_of_getElem? (i := 775) (by decide +kernel), List.mem_of_getElem? (i := 776) (by decide +kernel)⟩
theorem lw_p18 : lw_okq (⟨"DyehouseLedger", "daysLate", "(LDyehouseLedger$Order;)I"⟩, 11) := ⟨⟨by decide +kernel, by decide +kernel⟩, List.mem_of_getElem? (i := 22) (by decide +kernel), List.mem_of_getElem? (i := 839) (by decide +kernel), List.mem_of_getElem? (i := 840) (by decide +kernel)⟩
theorem lw_p19 : lw_okq (⟨"DyehouseLedger", "amountDue", "(LDyehouseLedger$Order;)I"⟩, 11) := ⟨⟨by decide +kernel, by decide +kernel⟩, List.mem_of_getElem? (i := 22) (by decide +kernel), List.mem_of_getElem? (i := 850) (by decide +kernel), List.mem_of_getElem? (i := 851) (by decide +kernel)⟩
theorem lw_p20 : lw_okq (⟨"DyehouseLedgerModel", "refuse", "(I)I"⟩, 29) := ⟨⟨by decide +kernel, by decide +kernel⟩, List.mem_of_getElem? (i := 901) (by decide +kernel), List.mem_of_getElem? (i := 1010) (by decide +kernel), List.mem_of_getElem? (i := 1011) (by decide +kernel)⟩
theorem lw_p21 : lw_okq (⟨"DyehouseLedgerModel", "noDye", "(I)Z"⟩, 29) := ⟨⟨by decide +kernel, by decide +kernel⟩, List.mem_of_getElem? (i := 901) (by decide +kernel), List.mem_of_getElem? (i := 1028) (by decide +kernel), List.mem_of_getElem? (i := 1029) (by decide +kernel)⟩
theorem lw_p22 : lw_okq (⟨"DyehouseLedgerModel", "noOrder", "(I)Z"⟩, 29) := ⟨⟨by decide +kernel, by decide +kernel⟩, List.mem_of_getElem? (i := 901) (by decide +kernel), List.mem_of_getElem? (i := 1040) (by decide +kernel), List.mem_of_getElem? (i := 1041) (by decide +kernel)⟩
theorem lw_p23 : lw_okq (⟨"DyehouseLedgerModel", "noLot", "(I)Z"⟩, 29) := ⟨⟨by decide +kernel, by decide +kernel⟩, List.mem_of_getElem? (i := 901) (by decide +kernel), List.mem_of_getElem? (i := 1052) (by decide +kernel), List.mem_of_getElem? (i := 1053) (by decide +kernel)⟩
theorem lw_p24 : lw_okq (⟨"DyehouseLedgerModel", "needed", "(II)I"⟩, 29) := ⟨⟨by decide +kernel, by decide +kernel⟩, List.mem_of_getElem? (i := 901) (by decide +kernel), List.mem_of_getElem? (i := 1056) (by decide +kernel), List.mem_of_getElem? (i := 1057) (by decide +kernel)⟩
theorem lw_p25 : lw_okq (⟨"DyehouseLedgerModel", "hours", "(I)I"⟩, 29) := ⟨⟨by decide +kernel, by decide +kernel⟩, List.mem_of_getElem? (i := 901) (by decide +kernel), List.mem_of_getElem? (i := 1064) (by decide +kernel), List.mem_of_getElem? (i := 1065) (by decide +kernel)⟩
theorem lw_p26 : lw_okq (⟨"DyehouseLedgerModel", "noVat", "(I)Z"⟩, 29) := ⟨⟨by decide +kernel, by decide +kernel⟩, List.mem_of_getElem? (i := 901) (by decide +kernel), List.mem_of_getElem? (i := 1072) (by decide +kernel), List.mem_of_getElem? (i := 1073) (by decide +kernel)⟩
theorem lw_p27 : lw_okq (⟨"DyehouseLedgerModel", "why", "(II)C"⟩, 29) := ⟨⟨by decide +kernel, by decide +kernel⟩, List.mem_of_getElem? (i := 901) (by decide +kernel), List.mem_of_getElem? (i := 1076) (by decide +kernel), List.mem_of_getElem? (i := 1077) (by decide +kernel)⟩
theorem lw_p28 : lw_okq (⟨"DyehouseLedgerModel", "lightOf", "(I)I"⟩, 29) := ⟨⟨by decide +kernel, by decide +kernel⟩, List.mem_of_getElem? (i := 901) (by decide +kernel), List.mem_of_getElem? (i := 1080) (by decide +kernel), List.mem_of_getElem? (i := 1081) (by decide +kernel)⟩
theorem lw_p29 : lw_okq (⟨"DyehouseLedgerModel", "isNot", "(IC)Z"⟩, 29) := ⟨⟨by decide +kernel, by decide +kernel⟩, List.mem_of_getElem? (i := 901) (by decide +kernel), List.mem_of_getElem? (i := 1096) (by decide +kernel), List.mem_of_getElem? (i := 1097) (by decide +kernel)⟩
theorem lw_p30 : lw_okq (⟨"DyehouseLedgerModel", "judged", "(I)C"⟩, 29) := ⟨⟨by decide +kernel, by decide +kernel⟩, List.mem_of_getElem? (i := 901) (by decide +kernel), List.mem_of_getElem? (i := 1100) (by decide +kernel), List.mem_of_getElem? (i := 1101) (by decide +kernel)⟩
theorem lw_p31 : lw_okq (⟨"DyehouseLedgerModel", "off", "(I)I"⟩, 29) := ⟨⟨by decide +kernel, by decide +kernel⟩, List.mem_of_getElem? (i := 901) (by decide +kernel), List.mem_of_getElem? (i := 1104) (by decide +kernel), List.mem_of_getElem? (i := 1105) (by decide +kernel)⟩
def lw_privs_2 : List (MethodName × Nat) := [(⟨"DyehouseLedger", "shadedLotNumbered", "(I)LDyehouseLedger$Lot;"⟩, 11), (⟨"DyehouseLedger", "placeByLight", "(LDyehouseLedger$Lot;)I"⟩, 11), (⟨"DyehouseLedger", "daysLate", "(LDyehouseLedger$Order;)I"⟩, 11), (⟨"DyehouseLedger", "amountDue", "(LDyehouseLedger$Order;)I"⟩, 11), (⟨"DyehouseLedgerModel", "refuse", "(I)I"⟩, 29), (⟨"DyehouseLedgerModel", "noDye", "(I)Z"⟩, 29), (⟨"DyehouseLedgerModel", "noOrder", "(I)Z"⟩, 29), (⟨"DyehouseLedgerModel", "noLot", "(I)Z"⟩, 29), (⟨"DyehouseLedgerModel", "needed", "(II)I"⟩, 29), (⟨"DyehouseLedgerModel", "hours", "(I)I"⟩, 29), (⟨"DyehouseLedgerModel", "noVat", "(I)Z"⟩, 29), (⟨"DyehouseLedgerModel", "why", "(II)C"⟩, 29), (⟨"DyehouseLedgerModel", "lightOf", "(I)I"⟩, 29), (⟨"DyehouseLedgerModel", "isNot", "(IC)Z"⟩, 29), (⟨"DyehouseLedgerModel", "judged", "(I)C"⟩, 29), (⟨"DyehouseLedgerModel", "off", "(I)I"⟩, 29)]
theorem lw_r2 : ∀ q ∈ lw_privs_2, lw_okq q := List.forall_mem_cons.mpr ⟨lw_p16, List.forall_mem_cons.mpr ⟨lw_p17, List.forall_mem_cons.mpr ⟨lw_p18, List.forall_mem_cons.mpr ⟨lw_p19, List.forall_mem_cons.mpr ⟨lw_p20, List.forall_mem_cons.mpr ⟨lw_p21, List.forall_mem_cons.mpr ⟨lw_p22, List.forall_mem_cons.mpr ⟨lw_p23, List.forall_mem_cons.mpr ⟨lw_p24, List.forall_mem_cons.mpr ⟨lw_p25, List.forall_mem_cons.mpr ⟨lw_p26, List.forall_mem_cons.mpr ⟨lw_p27, List.forall_mem_cons.mpr ⟨lw_p28, List.forall_mem_cons.mpr ⟨lw_p29, List.forall_mem_cons.mpr ⟨lw_p30, List.forall_mem_cons.mpr ⟨lw_p31, fun _ h => absurd h List.not_mem_nil⟩⟩⟩⟩⟩⟩⟩⟩⟩⟩⟩⟩⟩⟩⟩⟩
theorem lw_p32 : lw_okq (⟨"DyehouseLedgerModel", "apart", "(II)I"⟩, 29) := ⟨⟨by decide +kernel, by decide +kernel⟩, List.mem_of_getElem? (i := 901) (by decide +kernel), List.mem_of_getElem? (i := 1111) (by decide +kernel), List.mem_of_getElem? (i := 1112) (by decide +kernel)⟩
theorem lw_p33 : lw_okq (⟨"DyehouseLedgerModel", "waiting", "()I"⟩, 29) := ⟨⟨by decide +kernel, by decide +kernel⟩, List.mem_of_getElem? (i := 901) (by decide +kernel), List.mem_of_getElem? (i := 1123) (by decide +kernel), List.mem_of_getElem? (i := 1124) (by decide +kernel)⟩
theorem lw_p34 : lw_okq (⟨"DyehouseLedgerModel", "inPlan", "(I)I"⟩, 29) := ⟨⟨by decide +kernel, by decide +kernel⟩, List.mem_of_getElem? (i := 901) (by decide +kernel), List.mem_of_getElem? (i := 1131) (by decide +kernel), List.mem_of_getElem? (i := 1132) (by decide +kernel)⟩
theorem lw_p35 : lw_okq (⟨"DyehouseLedgerModel", "lotAt", "(II)I"⟩, 29) := ⟨⟨by decide +kernel, by decide +kernel⟩, List.mem_of_getElem? (i := 901) (by decide +kernel), List.mem_of_getElem? (i := 1147) (by decide +kernel), List.mem_of_getElem? (i := 1148) (by decide +kernel)⟩
theorem lw_p36 : lw_okq (⟨"DyehouseLedgerModel", "least", "(I)I"⟩, 29) := ⟨⟨by decide +kernel, by decide +kernel⟩, List.mem_of_getElem? (i := 901) (by decide +kernel), List.mem_of_getElem? (i := 1155) (by decide +kernel), List.mem_of_getElem? (i := 1156) (by decide +kernel)⟩
theorem lw_p37 : lw_okq (⟨"DyehouseLedgerModel", "lasts", "(II)I"⟩, 29) := ⟨⟨by decide +kernel, by decide +kernel⟩, List.mem_of_getElem? (i := 901) (by decide +kernel), List.mem_of_getElem? (i := 1159) (by decide +kernel), List.mem_of_getElem? (i := 1160) (by decide +kernel)⟩
theorem lw_p38 : lw_okq (⟨"DyehouseLedgerModel", "isNext", "(I)Z"⟩, 29) := ⟨⟨by decide +kernel, by decide +kernel⟩, List.mem_of_getElem? (i := 901) (by decide +kernel), List.mem_of_getElem? (i := 1163) (by decide +kernel), List.mem_of_getElem? (i := 1164) (by decide +kernel)⟩
theorem lw_p39 : lw_okq (⟨"DyehouseLedgerModel", "swap", "(II)V"⟩, 29) := ⟨⟨by decide +kernel, by decide +kernel⟩, List.mem_of_getElem? (i := 901) (by decide +kernel), List.mem_of_getElem? (i := 1167) (by decide +kernel), List.mem_of_getElem? (i := 1168) (by decide +kernel)⟩
theorem lw_p40 : lw_okq (⟨"DyehouseLedgerModel", "isWaiting", "(I)Z"⟩, 29) := ⟨⟨by decide +kernel, by decide +kernel⟩, List.mem_of_getElem? (i := 901) (by decide +kernel), List.mem_of_getElem? (i := 1196) (by decide +kernel), List.mem_of_getElem? (i := 1197) (by decide +kernel)⟩
theorem lw_p41 : lw_okq (⟨"DyehouseLedgerModel", "isAhead", "(II)Z"⟩, 29) := ⟨⟨by decide +kernel, by decide +kernel⟩, List.mem_of_getElem? (i := 901) (by decide +kernel), List.mem_of_getElem? (i := 1220) (by decide +kernel), List.mem_of_getElem? (i := 1221) (by decide +kernel)⟩
theorem lw_p42 : lw_okq (⟨"DyehouseLedgerModel", "late", "(I)I"⟩, 29) := ⟨⟨by decide +kernel, by decide +kernel⟩, List.mem_of_getElem? (i := 901) (by decide +kernel), List.mem_of_getElem? (i := 1256) (by decide +kernel), List.mem_of_getElem? (i := 1257) (by decide +kernel)⟩
theorem lw_p43 : lw_okq (⟨"DyehouseLedgerModel", "worth", "(I)I"⟩, 29) := ⟨⟨by decide +kernel, by decide +kernel⟩, List.mem_of_getElem? (i := 901) (by decide +kernel), List.mem_of_getElem? (i := 1264) (by decide +kernel), List.mem_of_getElem? (i := 1265) (by decide +kernel)⟩
def lw_privs_3 : List (MethodName × Nat) := [(⟨"DyehouseLedgerModel", "apart", "(II)I"⟩, 29), (⟨"DyehouseLedgerModel", "waiting", "()I"⟩, 29), (⟨"DyehouseLedgerModel", "inPlan", "(I)I"⟩, 29), (⟨"DyehouseLedgerModel", "lotAt", "(II)I"⟩, 29), (⟨"DyehouseLedgerModel", "least", "(I)I"⟩, 29), (⟨"DyehouseLedgerModel", "lasts", "(II)I"⟩, 29), (⟨"DyehouseLedgerModel", "isNext", "(I)Z"⟩, 29), (⟨"DyehouseLedgerModel", "swap", "(II)V"⟩, 29), (⟨"DyehouseLedgerModel", "isWaiting", "(I)Z"⟩, 29), (⟨"DyehouseLedgerModel", "isAhead", "(II)Z"⟩, 29), (⟨"DyehouseLedgerModel", "late", "(I)I"⟩, 29), (⟨"DyehouseLedgerModel", "worth", "(I)I"⟩, 29)]
theorem lw_r3 : ∀ q ∈ lw_privs_3, lw_okq q := List.forall_mem_cons.mpr ⟨lw_p32, List.forall_mem_cons.mpr ⟨lw_p33, List.forall_mem_cons.mpr ⟨lw_p34, List.forall_mem_cons.mpr ⟨lw_p35, List.forall_mem_cons.mpr ⟨lw_p36, List.forall_mem_cons.mpr ⟨lw_p37, List.forall_mem_cons.mpr ⟨lw_p38, List.forall_mem_cons.mpr ⟨lw_p39, List.forall_mem_cons.mpr ⟨lw_p40, List.forall_mem_cons.mpr ⟨lw_p41, List.forall_mem_cons.mpr ⟨lw_p42, List.forall_mem_cons.mpr ⟨lw_p43, fun _ h => absurd h List.not_mem_nil⟩⟩⟩⟩⟩⟩⟩⟩⟩⟩⟩⟩
def lw_privs : List (MethodName × Nat) := lw_privs_1 ++ (lw_privs_2 ++ (lw_privs_3))
def lw_tbl : List Cond := k2_sels lw_privs ++ tables_1
theorem lw_privs_ok : ∀ q ∈ lw_privs, lw_okq q := by
  show ∀ q ∈ lw_privs_1 ++ (lw_privs_2 ++ (lw_privs_3)), lw_okq q
  exact List.forall_mem_append.mpr ⟨lw_r1, List.forall_mem_append.mpr ⟨lw_r2, lw_r3⟩⟩
/-- the streams that the claim lets the run draw from -/
abbrev lw_cs : List Choice := [Jvm.Choice.named "NaN.bits"]
theorem lw_bits : nanBits ∈ lw_cs := by first | decide | exact List.mem_cons_self | simp [lw_cs, nanBits]
end
section
/-! ===== BEGIN words of one list among another's, by their places ===== -/
theorem goodIn_r {big : List Cond} (ws : List Cond) (ps : List Nat) (hp : ws = ps.filterMap (fun i => big[i]?)) (h : ws.all goodWord = true) : GoodIn big ws := by
  intro w hw
  have h1 := List.all_eq_true.mp h w hw
  rw [hp] at hw
  obtain ⟨i, -, hi⟩ := List.mem_filterMap.mp hw
  have hm : w ∈ big := by first | exact List.mem_of_getElem? hi | exact List.getElem?_mem hi
  exact ⟨hm, good_of_word h1⟩
theorem goodIn_app {big a b : List Cond} (ha : GoodIn big a) (hb : GoodIn big b) : GoodIn big (a ++ b) := fun w h => (List.mem_append.mp h).elim (ha w) (hb w)
theorem goodIn_ca {big a b : List Cond} {c : Cond} (ha : GoodIn big (c :: a)) (hb : GoodIn big b) : GoodIn big (c :: (a ++ b)) := fun w h => (List.mem_cons.mp h).elim (fun e => ha w (List.mem_cons.mpr (Or.inl e))) (fun h => (List.mem_append.mp h).elim (fun h => ha w (List.mem_cons.mpr (Or.inr h))) (hb w))
theorem goodIn_sub {big ws : List Cond} (hm : ∀ w ∈ ws, w ∈ big) (h : ws.all goodWord = true) : GoodIn big ws := fun w hw => ⟨hm w hw, good_of_word (List.all_eq_true.mp h w hw)⟩
/-! ===== END ===== -/

/-! ===== BEGIN exceptions that leave a method, and their catching by the caller (launches without stack traces) ===== -/
section VXA
/-! The laws vx_back, vx_callV, vx_callS, vx_callSW, vx_throw0, vx_throwS follow proofs of the library, with one case more: JvmDerived/Free/Laws.lean (Back.of_free), Shelf42/LK1.lean (callV, callS), Shelf/KitTraced.lean (throwNew0V, throwNewS). -/
/-- where a method has thrown q: the class by its name, the cell, what was written, the world -/
def vx_T (XC : String → State → State → Prop) (st : State) (q : Addr) (t : State) (mc ms : Nat) (free : Addr → Prop) : Prop :=
  ∃ (E : String) (ce : Cell) (L : List Loc), XC E st t ∧ t.heap[q]? = some ce ∧ ce.vm = .none ∧ st.vm.findClass E = some ce.cls ∧ st.WarmedH t.vm ∧ st.sameButNew ({ t with vm := st.vm } : State) L mc ms ∧ ∀ z ∈ L, free z.base
def vx_Q (Qc : Array Value → State → Outcome → State → Prop) (XC : String → State → State → Prop) (mc ms : Nat) (free : Addr → Prop) : Array Value → State → Outcome → State → Prop := fun a st o t =>
  (Qc a st o t ∧ ∃ L, FrameEnd st o t L mc ms ∧ ∀ q ∈ L, free q.base) ∨ ∃ q, o = .threw q ∧ vx_T XC st q t mc ms free
/-- a callee that returns or throws -/
def vx_Met (l : Launch) (y : MethodName) (ws : List Cond) (rm : Room) (Pc : Array Value → State → Prop) (Qc : Array Value → State → Outcome → State → Prop) (XC : String → State → State → Prop) (mc ms : Nat) (free : Addr → Prop) : Prop :=
  MetFree l y (headSpec ws rm) Pc (fun _ _ _ _ _ => True) (vx_Q Qc XC mc ms free)
def vx_Post (XC : String → State → State → Prop) (mc ms : Nat) (free : Addr → Prop) : Pt → Array Value → Addr → Pt → Prop := fun A a q B =>
  ∃ (g : JFrame) (mk : MethodId) (t : State) (L : List Loc) (E : String) (ce : Cell), B.U.heap = t.heap ∧ B.U.vm = t.vm ∧ XC E (A.U.calling g mk a) t ∧ t.heap[q]? = some ce ∧ ce.vm = .none ∧ A.U.vm.findClass E = some ce.cls ∧ B.locs = A.locs ++ L ∧ (∀ z ∈ L, free z.base) ∧ B.cells = A.cells + mc ∧ B.slots = A.slots + ms
def vx_Back (l : Launch) (R : Room) (p : Program) (e : Env) (below : List Frame) (s : State) (sargs : Array Value) (y : MethodName) (len W9 : Nat)
    (Pre : Pt → Array Value → Prop) (Post : Pt → Array Value → Option Value → Pt → Prop) (PostX : Pt → Array Value → Addr → Pt → Prop) : Prop :=
  ∀ (m : MethodId) (meth : Method) (c : Code) (A : Pt) (g : JFrame) (ig : Instr) (mk : MethodId) (a : Array Value),
    Stand p l e R s m sargs below meth c A.U A.locs A.cells A.slots → g.method = m → g.locals.size = c.maxLocals → decode c.code g.pc = .ok (ig, len) →
    2 * g.monitorRoom + (g.stack.map fun v => v.category).sum ≤ W9 → A.U.methodNamed? y = some mk → Pre A a →
    (∃ (v : Option Value) (B : Pt), Stand p l e R s m sargs below meth c B.U B.locs B.cells B.slots ∧ Post A a v B ∧
      Steps p.tables e below (doInvoke e (A.U.setTop g) [] mk a).1 (B.U.setTop { g with pc := g.pc + len, stack := v.toList ++ g.stack })) ∨
    (∃ (q : Addr) (B : Pt), Stand p l e R s m sargs below meth c B.U B.locs B.cells B.slots ∧ PostX A a q B ∧
      Steps p.tables e below (doInvoke e (A.U.setTop g) [] mk a).1 ((B.U.setTop g).pushFrame (.throwing q)))
section Payer
variable {l : Launch} {R : Room} {p : Program} {e : Env} {below : List Frame} {s : State} {sargs : Array Value} {y : MethodName} {len W9 : Nat}
theorem vx_back {ws : List Cond} {rm : Room} {Pc : Array Value → State → Prop} {Qc : Array Value → State → Outcome → State → Prop} {XC : String → State → State → Prop} {mc ms : Nat} {free : Addr → Prop} {bytes : ByteArray} {maxL : Nat} {ret : Option FieldType}
    (hM : vx_Met l y ws rm Pc Qc XC mc ms free) (hblind : FrameBlind Pc) (hrc : rm.cells = mc) (hrs : rm.slots = ms)
    (hframes : rm.frames + 1 ≤ R.frames) (hlocals : W9 + (maxL + 11) + rm.locals ≤ R.locals)
    (hws : ∀ w ∈ ws, ∀ a' U, s.WarmedH U.vm → w.before a' U = true) (hcode : Cond.code y bytes maxL ret ∈ ws) (hinit : ∀ a' U, s.WarmedH U.vm → (Cond.initialized y.cls).before a' U = true) :
    vx_Back l R p e below s sargs y len W9 (PreOf R mc ms Pc) (PostOf Qc mc ms free) (vx_Post XC mc ms free) := by
  intro m meth c A g ig mk a X hg hsize hdg hW hn hp
  have h1 : (headSpec ws rm).pre.before a A.U = true := atoms_intro fun w hw => hws w hw _ _ X.warmed
  have h2 : (Cond.code y bytes maxL ret).before a A.U = true := hws _ hcode _ _ X.warmed
  have h3 : (Cond.initialized y.cls).before a A.U = true := hinit _ _ X.warmed
  have h4 : A.cells + (headSpec ws rm).room.cells ≤ R.cells := by rw [show (headSpec ws rm).room.cells = mc from hrc]; exact hp.1
  have h5 : A.slots + (headSpec ws rm).room.slots ≤ R.slots := by rw [show (headSpec ws rm).room.slots = ms from hrs]; exact hp.2.1
  have hPc : Pc a (A.U.calling g mk a) := hblind _ _ _ _ hp.2.2
  obtain ⟨U, Ls, c0, s0⟩ := A
  dsimp only [Pt.U, Pt.locs, Pt.cells, Pt.slots] at h1 h2 h3 h4 h5 X hn hPc ⊢
  obtain ⟨methY, cY, hmY, hcY, -, hlY, -, -, -, -⟩ := Cond.code_spec hn h2
  obtain ⟨kY, hkY, -⟩ := className_of_methodNamed hn
  have hinitY : kY.init = .initialized := Cond.initialized_spec (findClass_of_methodNamed hn) hkY h3
  have h : At U g.method c below := by rw [hg]; exact X.here
  have hlocals9 : W9 + (maxL + 11) + (headSpec ws rm).room.locals ≤ R.locals := hlocals
  have happ : (headSpec ws rm).appliesLoose y e.platform (U.calling g mk a) = true :=
    Spec.appliesLoose_calling (g := g) h hdg hn hkY hinitY
      (X.room_calling (g := g) (R' := (headSpec ws rm).room) hsize hmY hcY hframes (by rw [hlY]; omega) h4 h5) h1
  obtain ⟨mid, hmid⟩ := h.above
  have hfr : (U.setTop g).frames = (.java g :: mid) ++ below := by rw [State.frames_setTop' g h.top, hmid]; rfl
  obtain ⟨o, s₂, hsteps, -, hend, hq⟩ := Steps.callFree hM p X.admits X.cas X.clock (acts := []) hfr happ hPc trivial
  have hq' : vx_Q Qc XC mc ms free a (U.calling g mk a) o s₂ := hq
  rw [State.frames_setTop' g h.top] at hend
  obtain ⟨g₀, hg0⟩ := Option.isSome_iff_exists.mp h.top
  obtain ⟨r, hr⟩ := State.topJava?_eq_some.mp hg0
  have hr' : (({ U with heap := s₂.heap, slotsUsed := s₂.slotsUsed } : State).setVm s₂.vm).frames = .java g₀ :: r := hr
  rcases hq' with ⟨hqc, L, hfe, hL⟩ | ⟨q, rfl, E, ce, L, hx, hce, hcv, hcl, hW₂, hsm, hL⟩
  · obtain ⟨⟨v, rfl⟩, hW₂, e2, q2, q3, q4, q5, q6⟩ := id hfe
    have e3 : s₂ = ({ (U.calling g mk a).setFrames s₂.frames with heap := s₂.heap, slotsUsed := s₂.slotsUsed } : State).setVm s₂.vm := by
      have : s₂ = ({ s₂ with vm := (U.calling g mk a).vm } : State).setVm s₂.vm := rfl
      rw [e2] at this
      exact this
    obtain ⟨c₂, i₂, len₂, hc₂, hd₂, hf₂⟩ := hend
    have hW' : U.WarmedH s₂.vm := hW₂
    have hcc : c₂ = c := by
      have h1 : s₂.code? g.method = U.code? g.method := by
        rw [State.code?_eq, State.code?_eq, hW'.alike.method?]
      exact Option.some.inj (hc₂.symm.trans (h1.trans h.code))
    subst hcc
    have hlen : len₂ = len := by rw [hdg] at hd₂; cases hd₂; rfl
    subst hlen
    have hs₂ : s₂ = (({ U with heap := s₂.heap, slotsUsed := s₂.slotsUsed } : State).setVm s₂.vm).setTop { g with pc := g.pc + len₂, stack := v.toList ++ g.stack } := by
      refine e3.trans ?_
      rw [hf₂, State.calling_eq h.top, State.setFrames_setFrames, State.setTop_of_frames _ hr', hr]
      rfl
    have hsame : U.sameButNew ({ U with heap := s₂.heap, slotsUsed := s₂.slotsUsed } : State) L mc ms := by
      refine ⟨?_, q2, q3, q4, q5, q6⟩
      obtain ⟨t, ht, -⟩ := State.frames_cons hr
      show ({ U with heap := s₂.heap, slotsUsed := s₂.slotsUsed } : State) = { U.setFrames U.frames with heap := s₂.heap, slotsUsed := s₂.slotsUsed }
      rw [State.setFrames_self ht]
    subst hg
    refine Or.inl ⟨v, ⟨(({ U with heap := s₂.heap, slotsUsed := s₂.slotsUsed } : State).setVm s₂.vm), Ls ++ L, c0 + mc, s0 + ms⟩,
      ⟨X.admits, X.cas, X.clock, X.frames, X.room, X.hears, X.method, X.code, (X.here.setHeapUsed s₂.heap s₂.slotsUsed).setVm hW'.alike, X.tail, State.WarmedH.trans X.warmed hW', X.limits, X.bytes, X.same.trans (hsame.setVm s.vm)⟩,
      ⟨g, mk, s₂, L, rfl, rfl, hqc, rfl, hL, rfl, rfl⟩, ?_⟩
    show Steps p.tables e below _ ((({ U with heap := s₂.heap, slotsUsed := s₂.slotsUsed } : State).setVm s₂.vm).setTop { g with pc := g.pc + len₂, stack := v.toList ++ g.stack })
    rw [← hs₂]
    exact hsteps
  · obtain ⟨e2, q2, q3, q4, q5, q6⟩ := id hsm
    have e3 : s₂ = ({ (U.calling g mk a).setFrames s₂.frames with heap := s₂.heap, slotsUsed := s₂.slotsUsed } : State).setVm s₂.vm := by
      have : s₂ = ({ s₂ with vm := (U.calling g mk a).vm } : State).setVm s₂.vm := rfl
      rw [e2] at this
      exact this
    have hf₂ : s₂.frames = .throwing q :: .java g :: U.frames.tail := hend
    have hW' : U.WarmedH s₂.vm := hW₂
    have hs₂ : s₂ = ((({ U with heap := s₂.heap, slotsUsed := s₂.slotsUsed } : State).setVm s₂.vm).setTop g).pushFrame (.throwing q) := by
      refine e3.trans ?_
      rw [hf₂, State.calling_eq h.top, State.setFrames_setFrames, State.pushFrame, State.frames_setTop _ hr', State.setTop_of_frames _ hr', State.setFrames_setFrames, hr]
      rfl
    have hsame : U.sameButNew ({ U with heap := s₂.heap, slotsUsed := s₂.slotsUsed } : State) L mc ms := by
      refine ⟨?_, q2, q3, q4, q5, q6⟩
      obtain ⟨t, ht, -⟩ := State.frames_cons hr
      show ({ U with heap := s₂.heap, slotsUsed := s₂.slotsUsed } : State) = { U.setFrames U.frames with heap := s₂.heap, slotsUsed := s₂.slotsUsed }
      rw [State.setFrames_self ht]
    subst hg
    refine Or.inr ⟨q, ⟨(({ U with heap := s₂.heap, slotsUsed := s₂.slotsUsed } : State).setVm s₂.vm), Ls ++ L, c0 + mc, s0 + ms⟩,
      ⟨X.admits, X.cas, X.clock, X.frames, X.room, X.hears, X.method, X.code, (X.here.setHeapUsed s₂.heap s₂.slotsUsed).setVm hW'.alike, X.tail, State.WarmedH.trans X.warmed hW', X.limits, X.bytes, X.same.trans (hsame.setVm s.vm)⟩,
      ⟨g, mk, s₂, L, E, ce, rfl, rfl, hx, hce, hcv, hcl, rfl, hL, rfl, rfl⟩, ?_⟩
    show Steps p.tables e below _ (((({ U with heap := s₂.heap, slotsUsed := s₂.slotsUsed } : State).setVm s₂.vm).setTop g).pushFrame (.throwing q))
    rw [← hs₂]
    exact hsteps
end Payer
section Calls
variable {p : Program} {l : Launch} {e : Env} {R : Room} {s : State} {m : MethodId} {args : Array Value} {below : List Frame} {meth : Method} {c : Code} {T : State} {locs : List Loc} {cells slots : Nat}
theorem vx_callV (X : Stand p l e R s m args below meth c T locs cells slots) (hexec : p.tables.exec = Jvm.exec) {own C : String} {index : Nat} {y : MethodName} {bytes : ByteArray} {maxL : Nat} {ret : Option FieldType}
    (hown : s.vm.findClass own = some m.cls) (hlink : (Cond.methodLink own index y).before args s = true) (hinst : (Cond.instanceMethod y).before args s = true) (hsel : (Cond.selects C y y).before args s = true)
    (hcode : (Cond.code y bytes maxL ret).before args s = true) (hy : y.cls ≠ "java/lang/invoke/MethodHandle" ∧ y.cls ≠ "java/lang/invoke/VarHandle")
    {W9 : Nat} {Pre : Pt → Array Value → Prop} {Post : Pt → Array Value → Option Value → Pt → Prop} {PostX : Pt → Array Value → Addr → Pt → Prop} (hK : vx_Back l R p e below s args y 3 W9 Pre Post PostX)
    {b : Addr} {cellB : Cell} (hcell : T.heap[b]? = some cellB) (hobj : cellB.vm.isStatics = false) (hcls : s.vm.findClass C = some cellB.cls)
    {g : JFrame} (hg : g.method = m) (hsize : g.locals.size = c.maxLocals) {argsL rest : List Value} (hlen : ∀ sig, parseMethodDescriptor y.desc = some sig → argsL.length = sig.parameters.length)
    (hstack : g.stack = argsL.reverse ++ .ref b :: rest) (hW : 2 * g.monitorRoom + (rest.map fun v => v.category).sum ≤ W9) (hdg : decode c.code g.pc = .ok (.invokevirtual index, 3))
    (hpre : ∀ vm₁, s.WarmedH vm₁ → Pre ⟨T.setVm vm₁, locs, cells, slots⟩ (Value.ref b :: argsL).toArray) :
    (∃ (v : Option Value) (vm₁ : Vm) (B : Pt), s.WarmedH vm₁ ∧ Stand p l e R s m args below meth c B.U B.locs B.cells B.slots ∧ Post ⟨T.setVm vm₁, locs, cells, slots⟩ (Value.ref b :: argsL).toArray v B ∧
      ∀ target, Steps p.tables e below (B.U.setTop { g with pc := g.pc + 3, stack := v.toList ++ rest }) target → Steps p.tables e below (T.setTop g) target) ∨
    (∃ (q : Addr) (vm₁ : Vm) (B : Pt), s.WarmedH vm₁ ∧ Stand p l e R s m args below meth c B.U B.locs B.cells B.slots ∧ PostX ⟨T.setVm vm₁, locs, cells, slots⟩ (Value.ref b :: argsL).toArray q B ∧
      Steps p.tables e below (T.setTop g) ((B.U.setTop { g with stack := rest }).pushFrame (.throwing q))) := by
  obtain ⟨mk, methM, hnamed, hmethM, hstM, habM⟩ := Cond.instanceMethod_spec hinst
  obtain ⟨methM', cM, hmethM', -, -, -, -, -, -, hsigM⟩ := Cond.code_spec hnamed hcode
  cases hmethM.symm.trans hmethM'
  obtain ⟨c2, r2, m2, q1, q2, q3, q4, kP, hkP, hkPi⟩ := Cond.selects_spec hsel
  cases hcls.symm.trans q1
  cases (State.methodFound?_of_named hnamed hy).symm.trans q2
  cases hnamed.symm.trans q3
  have hselP : selectMethod e.platform s.vm cellB.cls mk = .method mk := by rw [Launch.admits_selectMethod X.admits]; exact q4
  obtain ⟨vm₁, X₁, hstep₁⟩ := X.invokevirtual hexec hown hlink hnamed hmethM hstM hkP hkPi hy (a := b) (cell := cellB) hcell
    (fun z h => by rw [h] at hobj; cases hobj) hselP hmethM habM hkP hkPi (g := g) hg (argsL := argsL) (rest := rest) (hlen _ hsigM) hstack hdg
  rcases hK m meth c ⟨T.setVm vm₁, locs, cells, slots⟩ { g with stack := rest } (.invokevirtual index) mk (Value.ref b :: argsL).toArray X₁ hg hsize hdg hW (X₁.named hnamed) (hpre vm₁ X₁.warmed) with ⟨v, B, X', hpost, hsteps⟩ | ⟨q, B, X', hpost, hsteps⟩
  · exact Or.inl ⟨v, vm₁, B, X₁.warmed, X', hpost, fun target h => hstep₁ _ fun acts => by rw [doInvoke_state]; exact hsteps.trans h⟩
  · exact Or.inr ⟨q, vm₁, B, X₁.warmed, X', hpost, hstep₁ _ fun acts => by rw [doInvoke_state]; exact hsteps⟩
theorem vx_callS (X : Stand p l e R s m args below meth c T locs cells slots) (hexec : p.tables.exec = Jvm.exec) {own : String} {index : Nat} {y : MethodName} {bytes : ByteArray} {maxL : Nat} {ret : Option FieldType}
    (hown : s.vm.findClass own = some m.cls) (hlink : (Cond.methodLink own index y).before args s = true) (hstat : (Cond.static y).before args s = true) (hinit : (Cond.initialized y.cls).before args s = true)
    (hcode : (Cond.code y bytes maxL ret).before args s = true) (hy : y.cls ≠ "java/lang/invoke/MethodHandle" ∧ y.cls ≠ "java/lang/invoke/VarHandle")
    {W9 : Nat} {Pre : Pt → Array Value → Prop} {Post : Pt → Array Value → Option Value → Pt → Prop} {PostX : Pt → Array Value → Addr → Pt → Prop} (hK : vx_Back l R p e below s args y 3 W9 Pre Post PostX)
    {g : JFrame} (hg : g.method = m) (hsize : g.locals.size = c.maxLocals) {argsL rest : List Value} (hlen : ∀ sig, parseMethodDescriptor y.desc = some sig → argsL.length = sig.parameters.length)
    (hstack : g.stack = argsL.reverse ++ rest) (hW : 2 * g.monitorRoom + (rest.map fun v => v.category).sum ≤ W9) (hdg : decode c.code g.pc = .ok (.invokestatic index, 3))
    (hpre : ∀ vm₁, s.WarmedH vm₁ → Pre ⟨T.setVm vm₁, locs, cells, slots⟩ argsL.toArray) :
    (∃ (v : Option Value) (vm₁ : Vm) (B : Pt), s.WarmedH vm₁ ∧ Stand p l e R s m args below meth c B.U B.locs B.cells B.slots ∧ Post ⟨T.setVm vm₁, locs, cells, slots⟩ argsL.toArray v B ∧
      ∀ target, Steps p.tables e below (B.U.setTop { g with pc := g.pc + 3, stack := v.toList ++ rest }) target → Steps p.tables e below (T.setTop g) target) ∨
    (∃ (q : Addr) (vm₁ : Vm) (B : Pt), s.WarmedH vm₁ ∧ Stand p l e R s m args below meth c B.U B.locs B.cells B.slots ∧ PostX ⟨T.setVm vm₁, locs, cells, slots⟩ argsL.toArray q B ∧
      Steps p.tables e below (T.setTop g) ((B.U.setTop { g with stack := rest }).pushFrame (.throwing q))) := by
  obtain ⟨mk, hnamed⟩ := Cond.code_named hcode
  obtain ⟨methM, cM, hmethM, -, -, -, -, -, -, hsigM⟩ := Cond.code_spec hnamed hcode
  have hstatic : methM.isStatic = true := Cond.static_spec hnamed hmethM hstat
  obtain ⟨kP, hkP, -⟩ := className_of_methodNamed hnamed
  have hinitP : kP.init = .initialized := Cond.initialized_spec (findClass_of_methodNamed hnamed) hkP hinit
  obtain ⟨vm₁, X₁, hstep₁⟩ := X.invokestatic hexec hown hlink hnamed hmethM hstatic hkP hinitP hy (g := g) hg (argsL := argsL) (rest := rest) (hlen _ hsigM) hstack hdg
  rcases hK m meth c ⟨T.setVm vm₁, locs, cells, slots⟩ { g with stack := rest } (.invokestatic index) mk argsL.toArray X₁ hg hsize hdg hW (X₁.named hnamed) (hpre vm₁ X₁.warmed) with ⟨v, B, X', hpost, hsteps⟩ | ⟨q, B, X', hpost, hsteps⟩
  · exact Or.inl ⟨v, vm₁, B, X₁.warmed, X', hpost, fun target h => hstep₁ _ fun acts => by rw [doInvoke_state]; exact hsteps.trans h⟩
  · exact Or.inr ⟨q, vm₁, B, X₁.warmed, X', hpost, hstep₁ _ fun acts => by rw [doInvoke_state]; exact hsteps⟩
end Calls
theorem vx_cls {s : State} {T : State} {vm₁ : Vm} {E : String} {k : ClassId} (hW : s.WarmedH vm₁) (h : (T.setVm vm₁).vm.findClass E = some k) : s.vm.findClass E = some k := by
  have h1 : vm₁.findClass E = some k := h
  rw [hW.alike.findClass] at h1
  exact h1
/-- the method's frame g, with q thrown over it -/
def vx_W (p : Program) (l : Launch) (e : Env) (R : Room) (s : State) (m : MethodId) (args : Array Value) (below : List Frame) (meth : Method) (c : Code) (H : Heap) (locs : List Loc) (cells slots : Nat) (Q : State → Prop) (g : JFrame) (q : Addr) : Prop :=
  ∀ T : State, T.heap = H → Stand p l e R s m args below meth c T locs cells slots → ∃ t, Steps p.tables e below ((T.setTop g).pushFrame (.throwing q)) t ∧ Q t
def vx_Run (p : Program) (l : Launch) (e : Env) (R : Room) (s : State) (m : MethodId) (args : Array Value) (below : List Frame) (meth : Method) (c : Code) (H : Heap) (locs : List Loc) (cells slots mc ms : Nat) (g : JFrame) (rest : List Value) (Qa : State → Outcome → State → Prop) (XC : String → State → State → Prop) (free : Addr → Prop) : Prop :=
  ∀ T : State, T.heap = H → Stand p l e R s m args below meth c T locs cells slots →
    (∃ (v : Option Value) (st₀ t T' : State) (L : List Loc), st₀.heap = H ∧ Stand p l e R s m args below meth c T' (locs ++ L) (cells + mc) (slots + ms) ∧ (∀ q ∈ L, free q.base) ∧ T'.heap = t.heap ∧ T'.vm = t.vm ∧ Qa st₀ (.returned v) t ∧
      Goes p e below T g T' { g with pc := g.pc + 3, stack := v.toList ++ rest }) ∨
    (∃ (q : Addr) (st₀ t T' : State) (L : List Loc) (E : String) (ce : Cell), st₀.heap = H ∧ Stand p l e R s m args below meth c T' (locs ++ L) (cells + mc) (slots + ms) ∧ (∀ z ∈ L, free z.base) ∧ T'.heap = t.heap ∧ T'.vm = t.vm ∧ XC E st₀ t ∧ t.heap[q]? = some ce ∧ ce.vm = .none ∧ s.vm.findClass E = some ce.cls ∧
      Steps p.tables e below (T.setTop g) ((T'.setTop { g with stack := rest }).pushFrame (.throwing q)))
def vx_X {S : Type} (px : S → Prop) (B : String → S → State → Prop) (A : Nat → Prop) : String → State → State → Prop := fun E st t => ∃ u : S, px u ∧ B E u t ∧ va_F A st t
section Runs
variable {p : Program} {l : Launch} {e : Env} {R : Room} {s : State} {m : MethodId} {args : Array Value} {below : List Frame} {meth : Method} {c : Code} {H : Heap} {locs : List Loc} {cells slots : Nat}
variable {y : MethodName} {bytes cc : ByteArray} {maxL nL mc ms n index : Nat} {ret : Option FieldType} {ws : List Cond} {rm : Room} {Pc : Array Value → State → Prop} {Qc : Array Value → State → Outcome → State → Prop} {XC : String → State → State → Prop} {free : Addr → Prop} {Ts : List Cond} {own C : String} {b : Addr} {As rest : List Value} {g : JFrame}
theorem vx_callBack (cb : CallB R s args own index y bytes maxL ret ws rm mc ms n) (hM : vx_Met l y ws rm Pc Qc XC mc ms free) (hbl : FrameBlind Pc) : vx_Back l R p e below s args y 3 8 (PreOf R mc ms Pc) (PostOf Qc mc ms free) (vx_Post XC mc ms free) := by
  obtain ⟨hrc, hrs, hfr, hlo, hws, hcw, -, hini, -⟩ := cb
  exact vx_back (bytes := bytes) (maxL := maxL) (ret := ret) hM hbl hrc hrs hfr hlo hws hcw (fun a' U hW => word_at hW (Or.inl (by first | rfl | simp [Cond.onTables, Cond.keeps, Cond.steady])) hini)
theorem vx_runV (S : CallFix p m c cc nL s args Ts own) (hM : vx_Met l y ws rm Pc Qc XC mc ms free) (cw : CallW R s args own C index y bytes maxL ret ws rm mc ms n) (hp : PreV s H C b Pc As)
    (hg : g.method = m) (hn : As.length = n) (hsize : g.locals.size = nL) (hstack : g.stack = As.reverse ++ .ref b :: rest) (hW : 2 * g.monitorRoom + (rest.map fun v => v.category).sum ≤ 8) (hdg : decode cc g.pc = .ok (.invokevirtual index, 3)) (hf : cells + mc ≤ R.cells ∧ slots + ms ≤ R.slots) :
    vx_Run p l e R s m args below meth c H locs cells slots mc ms g rest (Qc (Value.ref b :: As).toArray) XC free := by
  have hK : vx_Back l R p e below s args y 3 8 (PreOf R mc ms Pc) (PostOf Qc mc ms free) (vx_Post XC mc ms free) := vx_callBack cw.1 hM hp.1
  obtain ⟨⟨-, -, -, -, -, -, hcode, -, hy, hlen, hl⟩, hin, hse⟩ := cw
  obtain ⟨hx, hb, hml, ho, -⟩ := S
  obtain ⟨-, ⟨cellB, hcB, hoB, hclB⟩, hPc⟩ := hp
  intro T hT X
  rcases vx_callV X hx (C := C) (bytes := bytes) (maxL := maxL) (ret := ret) ho hl hin hse hcode hy hK (by rw [hT]; exact hcB) hoB hclB hg (hsize.trans hml.symm) (argsL := As) (rest := rest) (fun sig h => hn.trans (hlen sig h)) hstack hW (by rw [hb]; exact hdg)
    (fun vm₁ hW₁ => ⟨hf.1, hf.2, hPc (T.setVm vm₁) hT hW₁⟩) with ⟨v, vm₁, ⟨U', l2, c2, s2⟩, hW₁, X', ⟨g', mk, t, L, e1, e2, hq, h1, hL, h2, h3⟩, st⟩ | ⟨q, vm₁, ⟨U', l2, c2, s2⟩, hW₁, X', ⟨g', mk, t, L, E, ce, e1, e2, hq, hce, hcv, hcl, h1, hL, h2, h3⟩, st⟩
  · dsimp only [Pt.U, Pt.locs, Pt.cells, Pt.slots] at X' e1 e2 h1 h2 h3 st
    subst h1; subst h2; subst h3
    exact Or.inl ⟨v, (T.setVm vm₁).calling g' mk (Value.ref b :: As).toArray, t, U', L, hT, X', hL, e1, e2, hq, st⟩
  · dsimp only [Pt.U, Pt.locs, Pt.cells, Pt.slots] at X' e1 e2 h1 h2 h3 st hcl
    subst h1; subst h2; subst h3
    exact Or.inr ⟨q, (T.setVm vm₁).calling g' mk (Value.ref b :: As).toArray, t, U', L, E, ce, hT, X', hL, e1, e2, hq, hce, hcv, vx_cls hW₁ hcl, st⟩
theorem vx_runS (S : CallFix p m c cc nL s args Ts own) (hM : vx_Met l y ws rm Pc Qc XC mc ms free) (cw : CallB R s args own index y bytes maxL ret ws rm mc ms n ∧ (Cond.static y).before args s = true) (hp : PreS s H Pc As)
    (hg : g.method = m) (hn : As.length = n) (hsize : g.locals.size = nL) (hstack : g.stack = As.reverse ++ rest) (hW : 2 * g.monitorRoom + (rest.map fun v => v.category).sum ≤ 8) (hdg : decode cc g.pc = .ok (.invokestatic index, 3)) (hf : cells + mc ≤ R.cells ∧ slots + ms ≤ R.slots) :
    vx_Run p l e R s m args below meth c H locs cells slots mc ms g rest (Qc As.toArray) XC free := by
  have hK : vx_Back l R p e below s args y 3 8 (PreOf R mc ms Pc) (PostOf Qc mc ms free) (vx_Post XC mc ms free) := vx_callBack cw.1 hM hp.1
  obtain ⟨⟨-, -, -, -, -, -, hcode, hini, hy, hlen, hl⟩, hstt⟩ := cw
  obtain ⟨hx, hb, hml, ho, -⟩ := S
  intro T hT X
  rcases vx_callS X hx (bytes := bytes) (maxL := maxL) (ret := ret) ho hl hstt hini hcode hy hK hg (hsize.trans hml.symm) (argsL := As) (rest := rest) (fun sig h => hn.trans (hlen sig h)) hstack hW (by rw [hb]; exact hdg)
    (fun vm₁ hW₁ => ⟨hf.1, hf.2, hp.2 (T.setVm vm₁) hT hW₁⟩) with ⟨v, vm₁, ⟨U', l2, c2, s2⟩, hW₁, X', ⟨g', mk, t, L, e1, e2, hq, h1, hL, h2, h3⟩, st⟩ | ⟨q, vm₁, ⟨U', l2, c2, s2⟩, hW₁, X', ⟨g', mk, t, L, E, ce, e1, e2, hq, hce, hcv, hcl, h1, hL, h2, h3⟩, st⟩
  · dsimp only [Pt.U, Pt.locs, Pt.cells, Pt.slots] at X' e1 e2 h1 h2 h3 st
    subst h1; subst h2; subst h3
    exact Or.inl ⟨v, (T.setVm vm₁).calling g' mk As.toArray, t, U', L, hT, X', hL, e1, e2, hq, st⟩
  · dsimp only [Pt.U, Pt.locs, Pt.cells, Pt.slots] at X' e1 e2 h1 h2 h3 st hcl
    subst h1; subst h2; subst h3
    exact Or.inr ⟨q, (T.setVm vm₁).calling g' mk As.toArray, t, U', L, E, ce, hT, X', hL, e1, e2, hq, hce, hcv, vx_cls hW₁ hcl, st⟩
end Runs
section Rows
variable {p : Program} {l : Launch} {e : Env} {R : Room} {s : State} {m : MethodId} {args : Array Value} {below : List Frame} {meth : Method} {c : Code} {H : Heap} {locs : List Loc} {cells slots : Nat} {Q : State → Prop}
variable {mc ms : Nat} {free : Addr → Prop} {A0 A1 : Nat → Prop} {H0 : Heap} {a : Array Value} {pc : Nat} {ls : Array Slot} {st0 rest : List Value}
theorem vx_keep {st₀ t T' : State} {L : List Loc} (h0 : st₀.heap = H) (e1 : T'.heap = t.heap) (hS : va_S A0 H0 H locs) (hA : ∀ q, q < H.size → A1 q → A0 q) (hf : ∀ q, free q → A0 q) (hL : ∀ q ∈ L, free q.base) (hF : va_F A1 st₀ t) :
    H.size ≤ T'.heap.size ∧ (∀ q : Nat, q < H.size → ¬ A1 q → T'.heap[q]? = H[q]?) ∧ va_S A0 H0 T'.heap (locs ++ L) := by
  obtain ⟨hz, hk⟩ := hF
  rw [h0] at hz hk
  exact ⟨by rw [e1]; exact hz, fun q h1 h2 => by rw [e1]; exact hk q h1 h2,
    ⟨Nat.le_trans hS.1 (by rw [e1]; exact hz), fun q h1 h2 => by rw [e1, hk q (Nat.lt_of_lt_of_le h1 hS.1) (fun z => h2 (hA q (Nat.lt_of_lt_of_le h1 hS.1) z))]; exact hS.2.1 q h1 h2, fun q hq => by
      rcases List.mem_append.mp hq with h | h
      · exact hS.2.2 q h
      · exact hf _ (hL q h)⟩⟩
theorem vx_calli {S SX : Type} {post : Int32 → S → Prop} {px : SX → Prop} {B : S → State → Prop} {BX : String → SX → State → Prop} {AX : Nat → Prop} (hr : vx_Run p l e R s m args below meth c H locs cells slots mc ms (F0 m pc ls st0) rest (va_Qi post B A1 a) (vx_X px BX AX) free) (hS : va_S A0 H0 H locs) (hA : ∀ q, q < H.size → A1 q → A0 q) (hf : ∀ q, free q → A0 q) (hAX : ∀ q, q < H.size → AX q → A0 q)
    (kx : ∀ (E : String) (ce : Cell) (q9 : Addr) (u : SX) (t : State) (H1 : Heap) (locs1 : List Loc), t.heap = H1 → s.vm.Alike t.vm → px u → BX E u t → H.size ≤ H1.size → (∀ q : Nat, q < H.size → ¬ AX q → H1[q]? = H[q]?) → va_S A0 H0 H1 locs1 → H1[q9]? = some ce → ce.vm = .none → s.vm.findClass E = some ce.cls → vx_W p l e R s m args below meth c H1 locs1 (cells + mc) (slots + ms) Q (F0 m pc ls rest) q9)
    (kk : ∀ (r : Int32) (u : S) (t : State) (H1 : Heap) (locs1 : List Loc), t.heap = H1 → s.vm.Alike t.vm → post r u → B u t → H.size ≤ H1.size → (∀ q : Nat, q < H.size → ¬ A1 q → H1[q]? = H[q]?) → va_S A0 H0 H1 locs1 → W p l e R s m args below meth c H1 locs1 (cells + mc) (slots + ms) Q (F0 m (pc + 3) ls (.int r :: rest))) : W p l e R s m args below meth c H locs cells slots Q (F0 m pc ls st0) := by
  intro T hT X
  rcases hr T hT X with ⟨v, st₀, t, T', L, h0, X', hL, e1, e2, ⟨⟨r, u, hv, hp, hb⟩, hF⟩, st⟩ | ⟨q, st₀, t, T', L, E, ce, h0, X', hL, e1, e2, ⟨u, hp, hb, hF⟩, hce, hcv, hcl, st⟩
  · cases hv
    obtain ⟨k1, k2, k3⟩ := vx_keep h0 e1 hS hA hf hL hF
    obtain ⟨t2, a1, b1⟩ := kk r u t T'.heap (locs ++ L) e1.symm (by rw [← e2]; exact X'.warmed.alike) hp hb k1 k2 k3 T' rfl X'
    exact ⟨t2, st t2 a1, b1⟩
  · obtain ⟨k1, k2, k3⟩ := vx_keep h0 e1 hS hAX hf hL hF
    obtain ⟨t2, a1, b1⟩ := kx E ce q u t T'.heap (locs ++ L) e1.symm (by rw [← e2]; exact X'.warmed.alike) hp hb k1 k2 k3 (by rw [e1]; exact hce) hcv hcl T' rfl X'
    exact ⟨t2, st.trans a1, b1⟩
theorem vx_calll {S SX : Type} {post : Int64 → S → Prop} {px : SX → Prop} {B : S → State → Prop} {BX : String → SX → State → Prop} {AX : Nat → Prop} (hr : vx_Run p l e R s m args below meth c H locs cells slots mc ms (F0 m pc ls st0) rest (va_Ql post B A1 a) (vx_X px BX AX) free) (hS : va_S A0 H0 H locs) (hA : ∀ q, q < H.size → A1 q → A0 q) (hf : ∀ q, free q → A0 q) (hAX : ∀ q, q < H.size → AX q → A0 q)
    (kx : ∀ (E : String) (ce : Cell) (q9 : Addr) (u : SX) (t : State) (H1 : Heap) (locs1 : List Loc), t.heap = H1 → s.vm.Alike t.vm → px u → BX E u t → H.size ≤ H1.size → (∀ q : Nat, q < H.size → ¬ AX q → H1[q]? = H[q]?) → va_S A0 H0 H1 locs1 → H1[q9]? = some ce → ce.vm = .none → s.vm.findClass E = some ce.cls → vx_W p l e R s m args below meth c H1 locs1 (cells + mc) (slots + ms) Q (F0 m pc ls rest) q9)
    (kk : ∀ (r : Int64) (u : S) (t : State) (H1 : Heap) (locs1 : List Loc), t.heap = H1 → s.vm.Alike t.vm → post r u → B u t → H.size ≤ H1.size → (∀ q : Nat, q < H.size → ¬ A1 q → H1[q]? = H[q]?) → va_S A0 H0 H1 locs1 → W p l e R s m args below meth c H1 locs1 (cells + mc) (slots + ms) Q (F0 m (pc + 3) ls (.long r :: rest))) : W p l e R s m args below meth c H locs cells slots Q (F0 m pc ls st0) := by
  intro T hT X
  rcases hr T hT X with ⟨v, st₀, t, T', L, h0, X', hL, e1, e2, ⟨⟨r, u, hv, hp, hb⟩, hF⟩, st⟩ | ⟨q, st₀, t, T', L, E, ce, h0, X', hL, e1, e2, ⟨u, hp, hb, hF⟩, hce, hcv, hcl, st⟩
  · cases hv
    obtain ⟨k1, k2, k3⟩ := vx_keep h0 e1 hS hA hf hL hF
    obtain ⟨t2, a1, b1⟩ := kk r u t T'.heap (locs ++ L) e1.symm (by rw [← e2]; exact X'.warmed.alike) hp hb k1 k2 k3 T' rfl X'
    exact ⟨t2, st t2 a1, b1⟩
  · obtain ⟨k1, k2, k3⟩ := vx_keep h0 e1 hS hAX hf hL hF
    obtain ⟨t2, a1, b1⟩ := kx E ce q u t T'.heap (locs ++ L) e1.symm (by rw [← e2]; exact X'.warmed.alike) hp hb k1 k2 k3 (by rw [e1]; exact hce) hcv hcl T' rfl X'
    exact ⟨t2, st.trans a1, b1⟩
theorem vx_callf {S SX : Type} {post : UInt32 → S → Prop} {px : SX → Prop} {B : S → State → Prop} {BX : String → SX → State → Prop} {AX : Nat → Prop} (hr : vx_Run p l e R s m args below meth c H locs cells slots mc ms (F0 m pc ls st0) rest (va_Qf post B A1 a) (vx_X px BX AX) free) (hS : va_S A0 H0 H locs) (hA : ∀ q, q < H.size → A1 q → A0 q) (hf : ∀ q, free q → A0 q) (hAX : ∀ q, q < H.size → AX q → A0 q)
    (kx : ∀ (E : String) (ce : Cell) (q9 : Addr) (u : SX) (t : State) (H1 : Heap) (locs1 : List Loc), t.heap = H1 → s.vm.Alike t.vm → px u → BX E u t → H.size ≤ H1.size → (∀ q : Nat, q < H.size → ¬ AX q → H1[q]? = H[q]?) → va_S A0 H0 H1 locs1 → H1[q9]? = some ce → ce.vm = .none → s.vm.findClass E = some ce.cls → vx_W p l e R s m args below meth c H1 locs1 (cells + mc) (slots + ms) Q (F0 m pc ls rest) q9)
    (kk : ∀ (r : UInt32) (u : S) (t : State) (H1 : Heap) (locs1 : List Loc), t.heap = H1 → s.vm.Alike t.vm → post r u → B u t → H.size ≤ H1.size → (∀ q : Nat, q < H.size → ¬ A1 q → H1[q]? = H[q]?) → va_S A0 H0 H1 locs1 → W p l e R s m args below meth c H1 locs1 (cells + mc) (slots + ms) Q (F0 m (pc + 3) ls (.float r :: rest))) : W p l e R s m args below meth c H locs cells slots Q (F0 m pc ls st0) := by
  intro T hT X
  rcases hr T hT X with ⟨v, st₀, t, T', L, h0, X', hL, e1, e2, ⟨⟨r, u, hv, hp, hb⟩, hF⟩, st⟩ | ⟨q, st₀, t, T', L, E, ce, h0, X', hL, e1, e2, ⟨u, hp, hb, hF⟩, hce, hcv, hcl, st⟩
  · cases hv
    obtain ⟨k1, k2, k3⟩ := vx_keep h0 e1 hS hA hf hL hF
    obtain ⟨t2, a1, b1⟩ := kk r u t T'.heap (locs ++ L) e1.symm (by rw [← e2]; exact X'.warmed.alike) hp hb k1 k2 k3 T' rfl X'
    exact ⟨t2, st t2 a1, b1⟩
  · obtain ⟨k1, k2, k3⟩ := vx_keep h0 e1 hS hAX hf hL hF
    obtain ⟨t2, a1, b1⟩ := kx E ce q u t T'.heap (locs ++ L) e1.symm (by rw [← e2]; exact X'.warmed.alike) hp hb k1 k2 k3 (by rw [e1]; exact hce) hcv hcl T' rfl X'
    exact ⟨t2, st.trans a1, b1⟩
theorem vx_calld {S SX : Type} {post : UInt64 → S → Prop} {px : SX → Prop} {B : S → State → Prop} {BX : String → SX → State → Prop} {AX : Nat → Prop} (hr : vx_Run p l e R s m args below meth c H locs cells slots mc ms (F0 m pc ls st0) rest (va_Qd post B A1 a) (vx_X px BX AX) free) (hS : va_S A0 H0 H locs) (hA : ∀ q, q < H.size → A1 q → A0 q) (hf : ∀ q, free q → A0 q) (hAX : ∀ q, q < H.size → AX q → A0 q)
    (kx : ∀ (E : String) (ce : Cell) (q9 : Addr) (u : SX) (t : State) (H1 : Heap) (locs1 : List Loc), t.heap = H1 → s.vm.Alike t.vm → px u → BX E u t → H.size ≤ H1.size → (∀ q : Nat, q < H.size → ¬ AX q → H1[q]? = H[q]?) → va_S A0 H0 H1 locs1 → H1[q9]? = some ce → ce.vm = .none → s.vm.findClass E = some ce.cls → vx_W p l e R s m args below meth c H1 locs1 (cells + mc) (slots + ms) Q (F0 m pc ls rest) q9)
    (kk : ∀ (r : UInt64) (u : S) (t : State) (H1 : Heap) (locs1 : List Loc), t.heap = H1 → s.vm.Alike t.vm → post r u → B u t → H.size ≤ H1.size → (∀ q : Nat, q < H.size → ¬ A1 q → H1[q]? = H[q]?) → va_S A0 H0 H1 locs1 → W p l e R s m args below meth c H1 locs1 (cells + mc) (slots + ms) Q (F0 m (pc + 3) ls (.double r :: rest))) : W p l e R s m args below meth c H locs cells slots Q (F0 m pc ls st0) := by
  intro T hT X
  rcases hr T hT X with ⟨v, st₀, t, T', L, h0, X', hL, e1, e2, ⟨⟨r, u, hv, hp, hb⟩, hF⟩, st⟩ | ⟨q, st₀, t, T', L, E, ce, h0, X', hL, e1, e2, ⟨u, hp, hb, hF⟩, hce, hcv, hcl, st⟩
  · cases hv
    obtain ⟨k1, k2, k3⟩ := vx_keep h0 e1 hS hA hf hL hF
    obtain ⟨t2, a1, b1⟩ := kk r u t T'.heap (locs ++ L) e1.symm (by rw [← e2]; exact X'.warmed.alike) hp hb k1 k2 k3 T' rfl X'
    exact ⟨t2, st t2 a1, b1⟩
  · obtain ⟨k1, k2, k3⟩ := vx_keep h0 e1 hS hAX hf hL hF
    obtain ⟨t2, a1, b1⟩ := kx E ce q u t T'.heap (locs ++ L) e1.symm (by rw [← e2]; exact X'.warmed.alike) hp hb k1 k2 k3 (by rw [e1]; exact hce) hcv hcl T' rfl X'
    exact ⟨t2, st.trans a1, b1⟩
theorem vx_callv {S SX : Type} {post : S → Prop} {px : SX → Prop} {B : S → State → Prop} {BX : String → SX → State → Prop} {AX : Nat → Prop} (hr : vx_Run p l e R s m args below meth c H locs cells slots mc ms (F0 m pc ls st0) rest (va_Qv post B A1 a) (vx_X px BX AX) free) (hS : va_S A0 H0 H locs) (hA : ∀ q, q < H.size → A1 q → A0 q) (hf : ∀ q, free q → A0 q) (hAX : ∀ q, q < H.size → AX q → A0 q)
    (kx : ∀ (E : String) (ce : Cell) (q9 : Addr) (u : SX) (t : State) (H1 : Heap) (locs1 : List Loc), t.heap = H1 → s.vm.Alike t.vm → px u → BX E u t → H.size ≤ H1.size → (∀ q : Nat, q < H.size → ¬ AX q → H1[q]? = H[q]?) → va_S A0 H0 H1 locs1 → H1[q9]? = some ce → ce.vm = .none → s.vm.findClass E = some ce.cls → vx_W p l e R s m args below meth c H1 locs1 (cells + mc) (slots + ms) Q (F0 m pc ls rest) q9)
    (kk : ∀ (u : S) (t : State) (H1 : Heap) (locs1 : List Loc), t.heap = H1 → s.vm.Alike t.vm → post u → B u t → H.size ≤ H1.size → (∀ q : Nat, q < H.size → ¬ A1 q → H1[q]? = H[q]?) → va_S A0 H0 H1 locs1 → W p l e R s m args below meth c H1 locs1 (cells + mc) (slots + ms) Q (F0 m (pc + 3) ls (rest))) : W p l e R s m args below meth c H locs cells slots Q (F0 m pc ls st0) := by
  intro T hT X
  rcases hr T hT X with ⟨v, st₀, t, T', L, h0, X', hL, e1, e2, ⟨⟨u, hv, hp, hb⟩, hF⟩, st⟩ | ⟨q, st₀, t, T', L, E, ce, h0, X', hL, e1, e2, ⟨u, hp, hb, hF⟩, hce, hcv, hcl, st⟩
  · cases hv
    obtain ⟨k1, k2, k3⟩ := vx_keep h0 e1 hS hA hf hL hF
    obtain ⟨t2, a1, b1⟩ := kk u t T'.heap (locs ++ L) e1.symm (by rw [← e2]; exact X'.warmed.alike) hp hb k1 k2 k3 T' rfl X'
    exact ⟨t2, st t2 a1, b1⟩
  · obtain ⟨k1, k2, k3⟩ := vx_keep h0 e1 hS hAX hf hL hF
    obtain ⟨t2, a1, b1⟩ := kx E ce q u t T'.heap (locs ++ L) e1.symm (by rw [← e2]; exact X'.warmed.alike) hp hb k1 k2 k3 (by rw [e1]; exact hce) hcv hcl T' rfl X'
    exact ⟨t2, st.trans a1, b1⟩
/-- caught by the row x of this method's table; the rows ahead don't take it -/
theorem vx_catch {own name : String} {E : String} {ce : Cell} {q : Addr} (hown : s.vm.findClass own = some m.cls) (pre : List ExceptionTableEntry) (x : ExceptionTableEntry) (suf : List ExceptionTableEntry) (hsplit : c.exceptionTable.toList = pre ++ x :: suf)
    (hpass : ∀ z ∈ pre, covers z pc = false ∨ (z.catchType ≠ 0 ∧ ∃ nm : String, (Cond.classLink own z.catchType nm).before args s = true ∧ va_Nc E nm s)) (hx : covers x pc = true) (h0 : x.catchType ≠ 0)
    (hlink : (Cond.classLink own x.catchType name).before args s = true) (hcast : (Cond.castable E name).before args s = true) (hcell : H[q]? = some ce) (hv : ce.vm = .none) (hcl : s.vm.findClass E = some ce.cls)
    (kk : W p l e R s m args below meth c H locs cells slots Q (F0 m x.handlerPc ls [.ref q])) : vx_W p l e R s m args below meth c H locs cells slots Q (F0 m pc ls rest) q := by
  intro T hT X
  have hpl : e.platform.magicAccessors = ({} : Platform).magicAccessors := by rw [X.admits.platform]
  obtain ⟨c3, c4, hc3, hc4, hasg⟩ := Cond.castable_spec hcast
  cases Option.some.inj (hc3.symm.trans hcl)
  obtain ⟨c5, hc5, hcl5⟩ := Cond.classLink_spec hown hlink e.platform hpl
  cases Option.some.inj (hc4.symm.trans hc5)
  obtain ⟨vm', X', st⟩ := X.thenCaughtThrough q (g := F0 m pc ls rest) rfl (Steps.refl _) (by rw [hT]; exact hcell) (by rw [hv]; rfl) (by obtain ⟨k9, h9, -⟩ := Vm.findClass_spec hcl; exact ⟨k9, h9⟩) pre x suf hsplit
    (fun z hz => by
      rcases hpass z hz with h | ⟨hz0, nm, hl1, hn1⟩
      · exact Or.inl h
      · obtain ⟨c6, hc6, hcl6⟩ := Cond.classLink_spec hown hl1 e.platform hpl
        obtain ⟨a8, b8, h1, h2, h3⟩ := hn1
        cases Option.some.inj (h1.symm.trans hcl)
        cases Option.some.inj (h2.symm.trans hc6)
        exact Or.inr ⟨hz0, _, hcl6, h3⟩) hx (Or.inr ⟨h0, c4, hcl5, hasg⟩)
  obtain ⟨t, a1, b1⟩ := kk (T.setVm vm') hT X'
  exact ⟨t, st.trans a1, b1⟩
end Rows
section Ends
variable {p : Program} {l : Launch} {e : Env} {R : Room} {s : State} {m : MethodId} {args : Array Value} {below : List Frame} {meth : Method} {c : Code} {H : Heap} {locs : List Loc} {cells slots : Nat} {Q : State → Prop}
variable {mc ms : Nat} {free : Addr → Prop} {A0 A1 : Nat → Prop} {H0 : Heap} {a : Array Value} {ls : Array Slot} {st0 rest : List Value}
variable {Qc : Array Value → State → Outcome → State → Prop} {XC : String → State → State → Prop}
/-- what a body that may throw owes at its end -/
def vx_MQ (below : List Frame) (Qc : Array Value → State → Outcome → State → Prop) (XC : String → State → State → Prop) (a : Array Value) (s : State) (mc ms : Nat) (free : Addr → Prop) : State → Prop := fun t =>
  ∃ o, t.status = .running ∧ Ended t below o ∧ vx_Q Qc XC mc ms free a s o t
theorem vx_ret {g : JFrame} {mc ms : Nat} (k : W p l e R s m args below meth c H locs cells slots (MQ below Qc args s mc ms free) g) : W p l e R s m args below meth c H locs cells slots (vx_MQ below Qc XC args s mc ms free) g := by
  intro T hT X
  obtain ⟨t, a1, o, b1, b2, b3, b4⟩ := k T hT X
  exact ⟨t, a1, o, b1, b2, Or.inl ⟨b3, b4⟩⟩
/-- not caught here: it goes on to the caller -/
theorem vx_widen {g : JFrame} {q : Addr} {k n : Nat} (h1 : cells ≤ k) (h2 : slots ≤ n) (kk : vx_W p l e R s m args below meth c H locs k n Q g q) : vx_W p l e R s m args below meth c H locs cells slots Q g q := fun T hT X => kk T hT (stand_widen X h1 h2)
theorem vx_out {pc : Nat} {E : String} {ce : Cell} {q : Addr} {mc ms : Nat} (hout : ∀ x ∈ c.exceptionTable.toList, covers x pc = false) (hlocks : meth.locks = false) (hcell : H[q]? = some ce) (hv : ce.vm = .none) (hcl : s.vm.findClass E = some ce.cls)
    (hx : ∀ t : State, t.heap = H → s.vm.Alike t.vm → XC E s t) (hf : ∀ z ∈ locs, free z.base) (hc : cells ≤ mc) (hs : slots ≤ ms) :
    vx_W p l e R s m args below meth c H locs cells slots (vx_MQ below Qc XC args s mc ms free) (F0 m pc ls rest) q := by
  intro T hT X
  obtain ⟨st1, hrun, hend, hW, hsm⟩ := X.leaveThrown q (g := F0 m pc ls rest) rfl rfl rfl hout hlocks
  have hcell9 : (T.setFrames (.throwing q :: below)).heap[q]? = some ce := by
    show T.heap[q]? = some ce
    rw [hT]; exact hcell
  exact ⟨_, st1, .threw q, hrun, hend, Or.inr ⟨q, rfl, E, ce, locs, hx _ hT hW.alike, hcell9, hv, hcl, hW, hsm.mono hc hs, hf⟩⟩
theorem vx_frame {U : State} {k n : Nat} (h : s.sameButNew ({ U with vm := s.vm } : State) locs k n) : s.heap.size ≤ U.heap.size ∧ ∀ q : Nat, q < s.heap.size → (∀ z ∈ locs, z.base ≠ q) → U.heap[q]? = s.heap[q]? := by
  obtain ⟨-, h2, -, -, -, h6⟩ := h
  refine ⟨h2, fun q hq hz => ?_⟩
  obtain ⟨c9, e1, e2, e3, e4⟩ := h6 q _ (Array.getElem?_eq_getElem hq)
  have hs : c9.slots = (s.heap[q]).slots := Array.ext_getElem? fun i => e4 i fun hm => hz _ hm rfl
  have h9 : c9 = s.heap[q] := by
    rw [hs] at e2
    exact e2
  have e5 : U.heap[q]? = some c9 := e1
  rw [e5, h9, Array.getElem?_eq_getElem hq]
/-- the words of a throw but the four that speak of the heap -/
def vx_no (w : Cond) : Bool := decide (w ≠ .isRef (.static Bundle.tN "UNASSIGNED_STACK" Bundle.steD)) && decide (w ≠ .isRef (.static Bundle.tN "SUPPRESSED_SENTINEL" Bundle.listD)) && decide (w ≠ .laysStatic Bundle.tN "UNASSIGNED_STACK" Bundle.steD) && decide (w ≠ .laysStatic Bundle.tN "SUPPRESSED_SENTINEL" Bundle.listD)
def vx_at0 (own : String) (ic : Nat) (X : String) (names : List String) : List Cond := (Bundle.ownAtoms0 own ic X names).filter vx_no
def vx_atS (own : String) (ic : Nat) (X : String) (names : List String) : List Cond := (Bundle.ownAtoms own ic X names).filter vx_no
/-- a word that the tables alone decide, or a good one -/
def vx_ot (w : Cond) : Bool := w.onTables || goodWord w
theorem vx_ot_at {args a' : Array Value} {s U : State} {w : Cond} (hW : s.WarmedH U.vm) (hvm : s.vm = U.vm) (hg : vx_ot w = true) (h : w.before args s = true) : w.before a' U = true := by
  simp only [vx_ot, Bool.or_eq_true] at hg
  rcases hg with hg | hg
  · exact va_tabs hg hvm h
  · exact word_at hW (good_of_word hg) h
/-- a list's words: the good ones out of the method's own list, the others by premises of their own -/
theorem vx_hat {args : Array Value} {s : State} {L B : List Cond} (h1 : ∀ w ∈ L.filter goodWord, w.before args s = true) (h2 : ∀ w ∈ L.filter (fun w => !goodWord w), w ∈ B) (h3 : ∀ w ∈ B, w.before args s = true) : ∀ w ∈ L, w.before args s = true := by
  intro w hw
  by_cases g : goodWord w = true
  · exact h1 w (List.mem_filter.mpr ⟨hw, g⟩)
  · refine h3 w (h2 w (List.mem_filter.mpr ⟨hw, ?_⟩))
    show (!goodWord w) = true
    cases hgw : goodWord w
    · rfl
    · exact absurd hgw g
theorem vx_c {args : Array Value} {s : State} {w : Cond} {B : List Cond} (h : w.before args s = true) (t : ∀ w ∈ B, w.before args s = true) : ∀ w' ∈ w :: B, w'.before args s = true := fun w' h' => (List.mem_cons.mp h').elim (fun e => by rw [e]; exact h) (t w')
theorem vx_n {args : Array Value} {s : State} : ∀ w ∈ ([] : List Cond), w.before args s = true := fun _ h => nomatch h
theorem vx_own {args : Array Value} {s : State} {L : List Cond} (h1 : ∀ w ∈ L.filter vx_no, w.before args s = true)
    (hU : (Cond.isRef (.static Bundle.tN "UNASSIGNED_STACK" Bundle.steD)).before args s = true) (hN : (Cond.isRef (.static Bundle.tN "SUPPRESSED_SENTINEL" Bundle.listD)).before args s = true)
    (lU : (Cond.laysStatic Bundle.tN "UNASSIGNED_STACK" Bundle.steD).before args s = true) (lN : (Cond.laysStatic Bundle.tN "SUPPRESSED_SENTINEL" Bundle.listD).before args s = true) : ∀ w ∈ L, w.before args s = true := by
  intro w hw
  by_cases e1 : w = .isRef (.static Bundle.tN "UNASSIGNED_STACK" Bundle.steD)
  · rw [e1]; exact hU
  · by_cases e2 : w = .isRef (.static Bundle.tN "SUPPRESSED_SENTINEL" Bundle.listD)
    · rw [e2]; exact hN
    · by_cases e3 : w = .laysStatic Bundle.tN "UNASSIGNED_STACK" Bundle.steD
      · rw [e3]; exact lU
      · by_cases e4 : w = .laysStatic Bundle.tN "SUPPRESSED_SENTINEL" Bundle.listD
        · rw [e4]; exact lN
        · exact h1 w (List.mem_filter.mpr ⟨hw, by unfold vx_no; rw [decide_eq_true e1, decide_eq_true e2, decide_eq_true e3, decide_eq_true e4]; rfl⟩)
/-- where a static field lies, its class's statics cell in H -/
def vx_L (C n d : String) (A : Nat → Prop) (U : State) (H : Heap) : Prop := ∃ (c : ClassId) (k : Class) (i : Nat) (f : Field) (a : Nat) (cell : Cell), U.vm.findClass C = some c ∧ U.fieldFound? C n d = some (c, k, i, f) ∧ f.isStatic = true ∧ k.statics = some a ∧ H[a]? = some cell ∧ cell.vm.isStatics = true ∧ cell.cls = c ∧ f.slot < cell.slots.size ∧ k.staticTypes[f.slot]? = some f.type ∧ ¬ A a
theorem vx_L.moved {C n d : String} {A : Nat → Prop} {u U : State} {H : Heap} (hvm : u.vm.Alike U.vm) (h : vx_L C n d A u H) : vx_L C n d A U H := by
  obtain ⟨c, k, i, f, a, cell, h1, h2, h3, h4, h5, h6, h7, h8, h9, h10⟩ := h
  obtain ⟨k', hi', he⟩ := State.fieldFound?_setVm hvm h2
  exact ⟨c, k', i, f, a, cell, by rw [hvm.findClass]; exact h1, hi', h3, by rw [he]; exact h4, h5, h6, h7, h8, by rw [he]; exact h9, h10⟩
theorem vx_L.kept {C n d : String} {A : Nat → Prop} {U : State} {H H1 : Heap} (h : vx_L C n d A U H) (hq : ∀ a : Nat, a < H.size → ¬ A a → H1[a]? = H[a]?) : vx_L C n d A U H1 := by
  obtain ⟨c, k, i, f, a, cell, h1, h2, h3, h4, h5, h6, h7, h8, h9, h10⟩ := h
  exact ⟨c, k, i, f, a, cell, h1, h2, h3, h4, by rw [hq a (Array.getElem?_eq_some_iff.mp h5).1 h10]; exact h5, h6, h7, h8, h9, h10⟩
theorem vx_L.narrow {C n d : String} {A B : Nat → Prop} {U : State} {H : Heap} (h : vx_L C n d A U H) (hAB : ∀ q, B q → A q) : vx_L C n d B U H := by
  obtain ⟨c, k, i, f, a, cell, h1, h2, h3, h4, h5, h6, h7, h8, h9, h10⟩ := h
  exact ⟨c, k, i, f, a, cell, h1, h2, h3, h4, h5, h6, h7, h8, h9, fun z => h10 (hAB _ z)⟩
theorem vx_L.word {C n d : String} {A : Nat → Prop} {s : State} {args : Array Value} (h : vx_L C n d A s s.heap) : (Cond.laysStatic C n d).before args s = true := by
  obtain ⟨c, k, i, f, a, cell, h1, h2, h3, h4, h5, h6, h7, h8, h9, -⟩ := h
  show (Cond.laysStatic C n d).holds args s none s [] = true
  exact Cond.laysStatic_of h1 h2 h3 h4 h5 h6 h7 h8 h9
/-- .. and what it holds: null or some reference -/
def vx_Zq (C n d : String) (A : Nat → Prop) (U : State) (H : Heap) : Prop := va_Zq C n d A U H ∧ vx_L C n d A U H
theorem vx_Zq.moved {C n d : String} {A : Nat → Prop} {u U : State} {H : Heap} (hvm : u.vm.Alike U.vm) (h : vx_Zq C n d A u H) : vx_Zq C n d A U H := ⟨va_Zq.moved hvm h.1, vx_L.moved hvm h.2⟩
theorem vx_Zq.kept {C n d : String} {A : Nat → Prop} {U : State} {H H1 : Heap} (h : vx_Zq C n d A U H) (hq : ∀ a : Nat, a < H.size → ¬ A a → H1[a]? = H[a]?) : vx_Zq C n d A U H1 := ⟨va_Zq.kept h.1 hq, vx_L.kept h.2 hq⟩
theorem vx_Zq.narrow {C n d : String} {A B : Nat → Prop} {U : State} {H : Heap} (h : vx_Zq C n d A U H) (hAB : ∀ q, B q → A q) : vx_Zq C n d B U H := ⟨va_Zq.narrow h.1 hAB, vx_L.narrow h.2 hAB⟩
theorem vx_Zqof {args : Array Value} {s : State} {C n d : String} {A : Nat → Prop} (hl : (Cond.laysStatic C n d).before args s = true) (hini : (Cond.initialized C).before args s = true) (h : (Cond.isRef (.static C n d)).before args s = true) (hA : ∀ a : Nat, a < s.heap.size → ¬ A a) : vx_Zq C n d A s s.heap := by
  refine ⟨va_Zqof hl hini h hA, ?_⟩
  obtain ⟨c, k, i, f, a, cell, h1, h2, h3, h4, h5, h6, h7, h8, h9⟩ := Cond.laysStatic_spec hl
  exact ⟨c, k, i, f, a, cell, h1, h2, h3, h4, h5, h6, h7, h8, h9, hA a (Array.getElem?_eq_some_iff.mp h5).1⟩
theorem vx_isRef {C n d : String} {v : Value} {A : Nat → Prop} {s : State} {args : Array Value} (h : va_Z C n d v A s s.heap) (hv : v.isRef = true) : (Cond.isRef (.static C n d)).before args s = true := by
  obtain ⟨cf, kf, fi, f, a, cell, h1, h2, h3, h4, h5, h6, h7, -⟩ := h
  have he : (Term.static C n d).eval args s none [] s = some v := by
    simp [Term.eval, State.fieldNamed?, h1, h2, h4, h5, h6, h7]
  simp only [Cond.before, Cond.holds, Cond.value, he]
  cases v <;> simp_all [Value.isRef]
theorem vx_isRefq {C n d : String} {A : Nat → Prop} {s : State} {args : Array Value} (h : va_Zq C n d A s s.heap) : (Cond.isRef (.static C n d)).before args s = true := by
  rcases h with h | ⟨t, h⟩
  · exact vx_isRef h rfl
  · exact vx_isRef h rfl
/-- the same frame, seen from here: as if the method were called anew in this heap -/
theorem vx_rebase {T : State} (X : Stand p l e R s m args below meth c T locs cells slots) {R' : Room} (hf : R'.frames ≤ R.frames) (hl : R'.locals ≤ R.locals) (hc : cells + R'.cells ≤ R.cells) (hs : slots + R'.slots ≤ R.slots) :
    Stand p l e R' ((T.setVm s.vm).setFrames (.invoking m args :: below)) m args below meth c T [] 0 0 := by
  have htop : (T.setVm s.vm).topJava?.isSome := X.here.top
  have hF : ((T.setVm s.vm).setFrames (.invoking m args :: below)).frames = .invoking m args :: below := State.frames_setFrames _ (State.cur_lt_of_top htop)
  obtain ⟨g₀, hg0⟩ := Option.isSome_iff_exists.mp htop
  obtain ⟨r, hr⟩ := State.topJava?_eq_some.mp hg0
  have hl9 : e.platform.stackLimits (T.setVm s.vm).me = e.platform.stackLimits s.me := X.limits
  have hb9 : (T.setVm s.vm).me.stackBytes = s.me.stackBytes := X.bytes
  refine ⟨X.admits, X.cas, X.clock, hF, ?_, X.hears, X.method, X.code, X.here, X.tail, X.warmed, ?_, ?_, ?_⟩
  · have h := X.room
    have hU : ((T.setVm s.vm).setFrames (.invoking m args :: below)).localsInUse = s.localsInUse := by
      rw [State.localsInUse_invoking hF (meth := meth) (c := c) X.method X.code, State.localsInUse_invoking X.frames X.method X.code]
    simp only [State.hasRoom, Bool.and_eq_true, decide_eq_true_eq] at h ⊢
    obtain ⟨⟨⟨⟨h1, h2, h3, h4, h5, h6⟩, h7⟩, h8⟩, h9⟩ := h
    rw [X.frames, List.length_cons] at h2 h3
    have q1 := X.heapSize
    have q2 := X.used
    simp only [hF, hU, List.length_cons, State.stackLimits_setFrames, State.stackBytes_setFrames, hl9, hb9]
    refine ⟨⟨⟨⟨by omega, by omega, by omega, by omega, by omega, h6⟩, ?_⟩, ?_⟩, X.book⟩
    · show T.heap.size + R'.cells ≤ e.platform.maxCells
      omega
    · show T.slotsUsed + R'.slots ≤ e.platform.maxSlots
      omega
  · rw [State.stackLimits_setFrames]; rfl
  · rw [State.stackBytes_setFrames]; rfl
  · refine ⟨?_, Nat.le_refl _, Nat.le_refl _, ?_, ?_, fun a c9 h9 => ⟨c9, h9, rfl, rfl, fun _ _ => rfl⟩⟩
    · obtain ⟨t, ht, -⟩ := State.frames_cons hr
      show T.setVm s.vm = { ((T.setVm s.vm).setFrames (.invoking m args :: below)).setFrames (T.setVm s.vm).frames with heap := T.heap, slotsUsed := T.slotsUsed }
      rw [State.setFrames_setFrames, State.setFrames_self ht]
      rfl
    · show T.slotsUsed = T.slotsUsed + ((T.heap.toList.drop T.heap.size).map (·.slots.size)).sum
      rw [List.drop_eq_nil_of_le (Nat.le_of_eq Array.length_toList)]
      rfl
    · show ((T.heap.toList.drop T.heap.size).map (·.slots.size)).sum ≤ 0
      rw [List.drop_eq_nil_of_le (Nat.le_of_eq Array.length_toList)]
      exact Nat.le_refl _
/-- 'throw new E()': new; dup; invokespecial; athrow -/
theorem vx_throw0 {cc : ByteArray} {pc : Nat} (hexec : p.tables.exec = Jvm.exec) (hb : c.code = cc) (hl : l.stackTraces = false) {own cls : String} {names : List String} {ik ic mc ms : Nat} {A : Nat → Prop}
    (hown : s.vm.findClass own = some m.cls) (hcls : Bundle.fit cls = true) (hnames : ∀ n ∈ names, Bundle.fit n = true)
    (hk : (Cond.classLink own ik cls).before args s = true) (hini : (Cond.initialized cls).before args s = true) (hat : ∀ w ∈ vx_at0 own ic cls names, w.before args s = true)
    (hgood : ∀ w ∈ Cond.classLink own ik cls :: Cond.initialized cls :: vx_at0 own ic cls names, vx_ot w = true)
    (hU : vx_Zq Bundle.tN "UNASSIGNED_STACK" Bundle.steD A s s.heap) (hN : vx_Zq Bundle.tN "SUPPRESSED_SENTINEL" Bundle.listD A s s.heap) (hS : va_S A s.heap H locs) (hsize : ls.size = c.maxLocals)
    (d0 : decode cc pc = .ok (.new ik, 3)) (d3 : decode cc (pc + 3) = .ok (.dup, 1)) (d4 : decode cc (pc + 4) = .ok (.invokespecial ic, 3)) (d7 : decode cc (pc + 7) = .ok (.athrow, 1))
    (hout : ∀ x ∈ c.exceptionTable.toList, covers x (pc + 7) = false)
    (hRframes : names.length + 3 < R.frames) (hRlocals : (rest.map fun v => v.category).sum + (13 * (names.length + 1) + 42) ≤ R.locals) (hRcells : cells + 1 ≤ R.cells) (hRslots : slots + 6 ≤ R.slots) (hlocks : meth.locks = false)
    (hx : ∀ t : State, s.vm.Alike t.vm → H.size ≤ t.heap.size → (∀ q : Nat, q < H.size → t.heap[q]? = H[q]?) → XC cls s t)
    (hf : ∀ z ∈ locs, free z.base) (hc : cells + 1 ≤ mc) (hs : slots + 6 ≤ ms) :
    W p l e R s m args below meth c H locs cells slots (vx_MQ below Qc XC args s mc ms free) (F0 m pc ls rest) := by
  intro T hT X
  have htr : e.platform.stackTraces = false := (show e.platform.stackTraces = l.stackTraces by rw [X.admits.platform]).trans hl
  have Y := vx_rebase X (R' := { frames := R.frames, locals := R.locals, cells := 1, slots := 6 }) (Nat.le_refl _) (Nat.le_refl _) hRcells hRslots
  obtain ⟨s', hA⟩ : ∃ z, z = (T.setVm s.vm).setFrames (.invoking m args :: below) := ⟨_, rfl⟩
  rw [← hA] at Y
  have hvm : s'.vm = s.vm := by rw [hA]; rfl
  have hhp : s'.heap = H := by rw [hA]; exact hT
  have hW0 : s.WarmedH s'.vm := by rw [hvm]; exact State.WarmedH.refl s
  have hat' : ∀ w ∈ vx_at0 own ic cls names, w.before args s' = true := fun w hw => vx_ot_at hW0 hvm.symm (hgood w (List.mem_cons_of_mem _ (List.mem_cons_of_mem _ hw))) (hat w hw)
  have hk' : (Cond.classLink own ik cls).before args s' = true := vx_ot_at hW0 hvm.symm (hgood _ List.mem_cons_self) hk
  have hini' : (Cond.initialized cls).before args s' = true := vx_ot_at hW0 hvm.symm (hgood _ (List.mem_cons_of_mem _ List.mem_cons_self)) hini
  have hU' : vx_Zq Bundle.tN "UNASSIGNED_STACK" Bundle.steD A s' s'.heap := by rw [hhp]; exact vx_Zq.moved hW0.alike (hU.kept hS.2.1)
  have hN' : vx_Zq Bundle.tN "SUPPRESSED_SENTINEL" Bundle.listD A s' s'.heap := by rw [hhp]; exact vx_Zq.moved hW0.alike (hN.kept hS.2.1)
  have h : ∀ w ∈ Bundle.ownAtoms0 own ic cls names, w.before args s' = true := vx_own hat' (vx_isRefq hU'.1) (vx_isRefq hN'.1) hU'.2.word hN'.2.word
  have hown' : s'.vm.findClass own = some m.cls := by rw [hvm]; exact hown
  have hins : (Cond.instantiable cls 6).before args s' = true := h _ (by simp [Bundle.ownAtoms0])
  obtain ⟨vm₁, cX, kX, hfX, hkX, -, -, X₁, st1⟩ := Y.newCold hexec (own := own) (C := cls) (index := ik) (n := 6) hown' hk' hins hini'
    (g := F0 m pc ls rest) rfl (by rw [hb]; exact d0) (Nat.le_refl _) (Nat.le_refl _)
  generalize hT1 : (T.setVm vm₁).pushCell { cls := cX, slots := kX.instanceTypes.map defaultValue, vm := .none } = T1 at X₁ st1
  have hcat : (Value.ref T.heap.size).category = 1 := rfl
  have hcellA : T1.heap[T.heap.size]? = some (freshCell cX kX) := by rw [← hT1]; exact State.heap_pushCell_size _ _
  have d3' : decode c.code (pc + 3) = .ok (.dup, 1) := by rw [hb]; exact d3
  obtain ⟨U, hsteps, hrun, hend, hW, hsame, ce, hce, hO⟩ := X₁.ctorThrow0 hexec htr (own := own) (cls := cls) (names := names) (ic := ic) hown' hcls hnames h (fun x hx => nomatch hx) hfX hkX hcellA (by rw [hhp, hT]; exact Nat.le_refl _)
    (g := { method := m, pc := pc + 4, locals := ls, stack := .ref T.heap.size :: .ref T.heap.size :: rest, locked := none }) rfl hsize rfl rfl (rest := rest) rfl
    (by rw [hb]; exact d4) (by rw [hb]; exact d7) hout hRframes (by simp only [List.map_cons, List.sum_cons, hcat]; omega) hlocks
  obtain ⟨f1, f2⟩ := vx_frame hsame
  rw [hhp] at f1 f2
  have hWs : s.WarmedH U.vm := State.WarmedH.trans hW0 hW
  have hcl : s.vm.findClass cls = some ce.cls := by
    have h9 := hO.cls
    rw [hvm] at h9
    exact h9
  have hall : s.sameButNew ({ U with vm := s.vm } : State) locs mc ms := by
    subst hA
    obtain ⟨e1, e2⟩ := hsame
    rw [State.setFrames_setFrames] at e1
    have h2 : (T.setVm s.vm).sameButNew ({ U with vm := s.vm } : State) [] (0 + 1) (0 + 6) := ⟨e1, e2⟩
    have h3 := X.same.trans h2
    rw [List.append_nil] at h3
    exact h3.mono hc hs
  refine ⟨U, ?_, .threw T.heap.size, hrun, hend, Or.inr ⟨T.heap.size, rfl, cls, ce, locs, hx U hWs.alike f1 (fun q hq => f2 q hq (fun z hz => nomatch hz)), hce, hO.vm, hcl, hWs, hall, hf⟩⟩
  refine st1 _ ?_
  show Steps p.tables e below (T1.setTop { method := m, pc := pc + 3, locals := ls, stack := .ref T.heap.size :: rest, locked := none }) _
  jvm_step X₁.here [X₁.here.top, hexec, d3', Value.category]
  exact hsteps
/-- 'throw new E("text")': new; dup; ldc; invokespecial; athrow -/
theorem vx_throwS {cc : ByteArray} {pc : Nat} (hexec : p.tables.exec = Jvm.exec) (hb : c.code = cc) (hl : l.stackTraces = false) {own cls text : String} {names : List String} {ik is ic mc ms sa : Nat} {A : Nat → Prop}
    (hown : s.vm.findClass own = some m.cls) (hcls : Bundle.fit cls = true) (hnames : ∀ n ∈ names, Bundle.fit n = true)
    (hk : (Cond.classLink own ik cls).before args s = true) (hini : (Cond.initialized cls).before args s = true) (hstr : vk_R own is text sa s) (hat : ∀ w ∈ vx_atS own ic cls names, w.before args s = true)
    (hgood : ∀ w ∈ Cond.classLink own ik cls :: Cond.initialized cls :: vx_atS own ic cls names, vx_ot w = true)
    (hU : vx_Zq Bundle.tN "UNASSIGNED_STACK" Bundle.steD A s s.heap) (hN : vx_Zq Bundle.tN "SUPPRESSED_SENTINEL" Bundle.listD A s s.heap) (hS : va_S A s.heap H locs) (hsize : ls.size = c.maxLocals)
    (d0 : decode cc pc = .ok (.new ik, 3)) (d3 : decode cc (pc + 3) = .ok (.dup, 1)) (d4 : decode cc (pc + 4) = .ok (.ldc is, 2)) (d6 : decode cc (pc + 6) = .ok (.invokespecial ic, 3)) (d9 : decode cc (pc + 9) = .ok (.athrow, 1))
    (hout : ∀ x ∈ c.exceptionTable.toList, covers x (pc + 9) = false)
    (hRframes : names.length + 3 < R.frames) (hRlocals : (rest.map fun v => v.category).sum + (13 * (names.length + 1) + 43) ≤ R.locals) (hRcells : cells + 1 ≤ R.cells) (hRslots : slots + 6 ≤ R.slots) (hlocks : meth.locks = false)
    (hx : ∀ t : State, s.vm.Alike t.vm → H.size ≤ t.heap.size → (∀ q : Nat, q < H.size → t.heap[q]? = H[q]?) → XC cls s t)
    (hf : ∀ z ∈ locs, free z.base) (hc : cells + 1 ≤ mc) (hs : slots + 6 ≤ ms) :
    W p l e R s m args below meth c H locs cells slots (vx_MQ below Qc XC args s mc ms free) (F0 m pc ls rest) := by
  intro T hT X
  have htr : e.platform.stackTraces = false := (show e.platform.stackTraces = l.stackTraces by rw [X.admits.platform]).trans hl
  have Y := vx_rebase X (R' := { frames := R.frames, locals := R.locals, cells := 1, slots := 6 }) (Nat.le_refl _) (Nat.le_refl _) hRcells hRslots
  obtain ⟨s', hA⟩ : ∃ z, z = (T.setVm s.vm).setFrames (.invoking m args :: below) := ⟨_, rfl⟩
  rw [← hA] at Y
  have hvm : s'.vm = s.vm := by rw [hA]; rfl
  have hhp : s'.heap = H := by rw [hA]; exact hT
  have hW0 : s.WarmedH s'.vm := by rw [hvm]; exact State.WarmedH.refl s
  have hat' : ∀ w ∈ vx_atS own ic cls names, w.before args s' = true := fun w hw => vx_ot_at hW0 hvm.symm (hgood w (List.mem_cons_of_mem _ (List.mem_cons_of_mem _ hw))) (hat w hw)
  have hk' : (Cond.classLink own ik cls).before args s' = true := vx_ot_at hW0 hvm.symm (hgood _ List.mem_cons_self) hk
  have hini' : (Cond.initialized cls).before args s' = true := vx_ot_at hW0 hvm.symm (hgood _ (List.mem_cons_of_mem _ List.mem_cons_self)) hini
  have hU' : vx_Zq Bundle.tN "UNASSIGNED_STACK" Bundle.steD A s' s'.heap := by rw [hhp]; exact vx_Zq.moved hW0.alike (hU.kept hS.2.1)
  have hN' : vx_Zq Bundle.tN "SUPPRESSED_SENTINEL" Bundle.listD A s' s'.heap := by rw [hhp]; exact vx_Zq.moved hW0.alike (hN.kept hS.2.1)
  have h : ∀ w ∈ Bundle.ownAtoms own ic cls names, w.before args s' = true := vx_own hat' (vx_isRefq hU'.1) (vx_isRefq hN'.1) hU'.2.word hN'.2.word
  have hown' : s'.vm.findClass own = some m.cls := by rw [hvm]; exact hown
  have hins : (Cond.instantiable cls 6).before args s' = true := h _ (by simp [Bundle.ownAtoms])
  obtain ⟨vm₁, cX, kX, hfX, hkX, -, -, X₁, st1⟩ := Y.newCold hexec (own := own) (C := cls) (index := ik) (n := 6) hown' hk' hins hini'
    (g := F0 m pc ls rest) rfl (by rw [hb]; exact d0) (Nat.le_refl _) (Nat.le_refl _)
  generalize hT1 : (T.setVm vm₁).pushCell { cls := cX, slots := kX.instanceTypes.map defaultValue, vm := .none } = T1 at X₁ st1
  have hcat : (Value.ref T.heap.size).category = 1 := rfl
  have hcellA : T1.heap[T.heap.size]? = some (freshCell cX kX) := by rw [← hT1]; exact State.heap_pushCell_size _ _
  have d3' : decode c.code (pc + 3) = .ok (.dup, 1) := by rw [hb]; exact d3
  have d4' : decode c.code (pc + 4) = .ok (.ldc is, 2) := by rw [hb]; exact d4
  have hstr' : vk_R own is text sa s' := vk_R.warm hW0 hstr
  obtain ⟨U, hsteps, hrun, hend, hW, hsame, ce, hce, hO⟩ := X₁.ctorThrowS hexec htr (own := own) (cls := cls) (names := names) (ic := ic) hown' hcls hnames h (fun x hx => nomatch hx) hfX hkX hcellA (by rw [hhp, hT]; exact Nat.le_refl _) (msg := .ref sa) rfl
    (g := { method := m, pc := pc + 6, locals := ls, stack := .ref sa :: .ref T.heap.size :: .ref T.heap.size :: rest, locked := none }) rfl hsize rfl rfl (rest := rest) rfl
    (by rw [hb]; exact d6) (by rw [hb]; exact d9) hout hRframes (by simp only [List.map_cons, List.sum_cons, hcat]; omega) hlocks
  obtain ⟨f1, f2⟩ := vx_frame hsame
  rw [hhp] at f1 f2
  have hWs : s.WarmedH U.vm := State.WarmedH.trans hW0 hW
  have hcl : s.vm.findClass cls = some ce.cls := by
    have h9 := hO.cls
    rw [hvm] at h9
    exact h9
  have hall : s.sameButNew ({ U with vm := s.vm } : State) locs mc ms := by
    subst hA
    obtain ⟨e1, e2⟩ := hsame
    rw [State.setFrames_setFrames] at e1
    have h2 : (T.setVm s.vm).sameButNew ({ U with vm := s.vm } : State) [] (0 + 1) (0 + 6) := ⟨e1, e2⟩
    have h3 := X.same.trans h2
    rw [List.append_nil] at h3
    exact h3.mono hc hs
  refine ⟨U, ?_, .threw T.heap.size, hrun, hend, Or.inr ⟨T.heap.size, rfl, cls, ce, locs, hx U hWs.alike f1 (fun q hq => f2 q hq (fun z hz => nomatch hz)), hce, hO.vm, hcl, hWs, hall, hf⟩⟩
  refine st1 _ ?_
  show Steps p.tables e below (T1.setTop { method := m, pc := pc + 3, locals := ls, stack := .ref T.heap.size :: rest, locked := none }) _
  jvm_step X₁.here [X₁.here.top, hexec, d3', Value.category]
  exact X₁.ldcString hexec (own := own) (text := text) (index := is) (a := sa) hown' hstr'.1 hstr'.2
    (g := { method := m, pc := pc + 4, locals := ls, stack := .ref T.heap.size :: .ref T.heap.size :: rest, locked := none }) rfl d4' _ hsteps
/-- 'throw new E("text")', the text by a wide index -/
theorem vx_throwSW {cc : ByteArray} {pc : Nat} (hexec : p.tables.exec = Jvm.exec) (hb : c.code = cc) (hl : l.stackTraces = false) {own cls text : String} {names : List String} {ik is ic mc ms sa : Nat} {A : Nat → Prop}
    (hown : s.vm.findClass own = some m.cls) (hcls : Bundle.fit cls = true) (hnames : ∀ n ∈ names, Bundle.fit n = true)
    (hk : (Cond.classLink own ik cls).before args s = true) (hini : (Cond.initialized cls).before args s = true) (hstr : vk_R own is text sa s) (hat : ∀ w ∈ vx_atS own ic cls names, w.before args s = true)
    (hgood : ∀ w ∈ Cond.classLink own ik cls :: Cond.initialized cls :: vx_atS own ic cls names, vx_ot w = true)
    (hU : vx_Zq Bundle.tN "UNASSIGNED_STACK" Bundle.steD A s s.heap) (hN : vx_Zq Bundle.tN "SUPPRESSED_SENTINEL" Bundle.listD A s s.heap) (hS : va_S A s.heap H locs) (hsize : ls.size = c.maxLocals)
    (d0 : decode cc pc = .ok (.new ik, 3)) (d3 : decode cc (pc + 3) = .ok (.dup, 1)) (d4 : decode cc (pc + 4) = .ok (.ldc_w is, 3)) (d7 : decode cc (pc + 7) = .ok (.invokespecial ic, 3)) (d10 : decode cc (pc + 10) = .ok (.athrow, 1))
    (hout : ∀ x ∈ c.exceptionTable.toList, covers x (pc + 10) = false)
    (hRframes : names.length + 3 < R.frames) (hRlocals : (rest.map fun v => v.category).sum + (13 * (names.length + 1) + 43) ≤ R.locals) (hRcells : cells + 1 ≤ R.cells) (hRslots : slots + 6 ≤ R.slots) (hlocks : meth.locks = false)
    (hx : ∀ t : State, s.vm.Alike t.vm → H.size ≤ t.heap.size → (∀ q : Nat, q < H.size → t.heap[q]? = H[q]?) → XC cls s t)
    (hf : ∀ z ∈ locs, free z.base) (hc : cells + 1 ≤ mc) (hs : slots + 6 ≤ ms) :
    W p l e R s m args below meth c H locs cells slots (vx_MQ below Qc XC args s mc ms free) (F0 m pc ls rest) := by
  intro T hT X
  have htr : e.platform.stackTraces = false := (show e.platform.stackTraces = l.stackTraces by rw [X.admits.platform]).trans hl
  have Y := vx_rebase X (R' := { frames := R.frames, locals := R.locals, cells := 1, slots := 6 }) (Nat.le_refl _) (Nat.le_refl _) hRcells hRslots
  obtain ⟨s', hA⟩ : ∃ z, z = (T.setVm s.vm).setFrames (.invoking m args :: below) := ⟨_, rfl⟩
  rw [← hA] at Y
  have hvm : s'.vm = s.vm := by rw [hA]; rfl
  have hhp : s'.heap = H := by rw [hA]; exact hT
  have hW0 : s.WarmedH s'.vm := by rw [hvm]; exact State.WarmedH.refl s
  have hat' : ∀ w ∈ vx_atS own ic cls names, w.before args s' = true := fun w hw => vx_ot_at hW0 hvm.symm (hgood w (List.mem_cons_of_mem _ (List.mem_cons_of_mem _ hw))) (hat w hw)
  have hk' : (Cond.classLink own ik cls).before args s' = true := vx_ot_at hW0 hvm.symm (hgood _ List.mem_cons_self) hk
  have hini' : (Cond.initialized cls).before args s' = true := vx_ot_at hW0 hvm.symm (hgood _ (List.mem_cons_of_mem _ List.mem_cons_self)) hini
  have hU' : vx_Zq Bundle.tN "UNASSIGNED_STACK" Bundle.steD A s' s'.heap := by rw [hhp]; exact vx_Zq.moved hW0.alike (hU.kept hS.2.1)
  have hN' : vx_Zq Bundle.tN "SUPPRESSED_SENTINEL" Bundle.listD A s' s'.heap := by rw [hhp]; exact vx_Zq.moved hW0.alike (hN.kept hS.2.1)
  have h : ∀ w ∈ Bundle.ownAtoms own ic cls names, w.before args s' = true := vx_own hat' (vx_isRefq hU'.1) (vx_isRefq hN'.1) hU'.2.word hN'.2.word
  have hown' : s'.vm.findClass own = some m.cls := by rw [hvm]; exact hown
  have hins : (Cond.instantiable cls 6).before args s' = true := h _ (by simp [Bundle.ownAtoms])
  obtain ⟨vm₁, cX, kX, hfX, hkX, -, -, X₁, st1⟩ := Y.newCold hexec (own := own) (C := cls) (index := ik) (n := 6) hown' hk' hins hini'
    (g := F0 m pc ls rest) rfl (by rw [hb]; exact d0) (Nat.le_refl _) (Nat.le_refl _)
  generalize hT1 : (T.setVm vm₁).pushCell { cls := cX, slots := kX.instanceTypes.map defaultValue, vm := .none } = T1 at X₁ st1
  have hcat : (Value.ref T.heap.size).category = 1 := rfl
  have hcellA : T1.heap[T.heap.size]? = some (freshCell cX kX) := by rw [← hT1]; exact State.heap_pushCell_size _ _
  have d3' : decode c.code (pc + 3) = .ok (.dup, 1) := by rw [hb]; exact d3
  have d4' : decode c.code (pc + 4) = .ok (.ldc_w is, 3) := by rw [hb]; exact d4
  have hstr' : vk_R own is text sa s' := vk_R.warm hW0 hstr
  obtain ⟨U, hsteps, hrun, hend, hW, hsame, ce, hce, hO⟩ := X₁.ctorThrowS hexec htr (own := own) (cls := cls) (names := names) (ic := ic) hown' hcls hnames h (fun x hx => nomatch hx) hfX hkX hcellA (by rw [hhp, hT]; exact Nat.le_refl _) (msg := .ref sa) rfl
    (g := { method := m, pc := pc + 7, locals := ls, stack := .ref sa :: .ref T.heap.size :: .ref T.heap.size :: rest, locked := none }) rfl hsize rfl rfl (rest := rest) rfl
    (by rw [hb]; exact d7) (by rw [hb]; exact d10) hout hRframes (by simp only [List.map_cons, List.sum_cons, hcat]; omega) hlocks
  obtain ⟨f1, f2⟩ := vx_frame hsame
  rw [hhp] at f1 f2
  have hWs : s.WarmedH U.vm := State.WarmedH.trans hW0 hW
  have hcl : s.vm.findClass cls = some ce.cls := by
    have h9 := hO.cls
    rw [hvm] at h9
    exact h9
  have hall : s.sameButNew ({ U with vm := s.vm } : State) locs mc ms := by
    subst hA
    obtain ⟨e1, e2⟩ := hsame
    rw [State.setFrames_setFrames] at e1
    have h2 : (T.setVm s.vm).sameButNew ({ U with vm := s.vm } : State) [] (0 + 1) (0 + 6) := ⟨e1, e2⟩
    have h3 := X.same.trans h2
    rw [List.append_nil] at h3
    exact h3.mono hc hs
  refine ⟨U, ?_, .threw T.heap.size, hrun, hend, Or.inr ⟨T.heap.size, rfl, cls, ce, locs, hx U hWs.alike f1 (fun q hq => f2 q hq (fun z hz => nomatch hz)), hce, hO.vm, hcl, hWs, hall, hf⟩⟩
  refine st1 _ ?_
  show Steps p.tables e below (T1.setTop { method := m, pc := pc + 3, locals := ls, stack := .ref T.heap.size :: rest, locked := none }) _
  jvm_step X₁.here [X₁.here.top, hexec, d3', Value.category]
  exact X₁.ldcStringW hexec (own := own) (text := text) (index := is) (a := sa) hown' hstr'.1 hstr'.2
    (g := { method := m, pc := pc + 4, locals := ls, stack := .ref T.heap.size :: .ref T.heap.size :: rest, locked := none }) rfl d4' _ hsteps
end Ends
section Bodies
variable {l : Launch}
theorem vx_ofW {y : MethodName} {ws ws' : List Cond} {rm : Room} {Pc : Array Value → State → Prop} {Qc : Array Value → State → Outcome → State → Prop} {XC : String → State → State → Prop} {mc ms : Nat} {free : Addr → Prop} {cc : ByteArray} {maxL : Nat} {ret : Option FieldType}
    (hy : plainName y.cls = true) (hw : ws = Cond.code y cc maxL ret :: ws')
    (body : ∀ p e s m args below meth c s₁, BodyLoose p l y (headSpec ws rm) cc maxL ret e s m args below meth c s₁ → c.maxLocals = maxL → (∀ x ∈ c.exceptionTable.toList, False) → Pc args s →
      W p l e (headSpec ws rm).room s m args below meth c s.heap [] 0 0 (vx_MQ below Qc XC args s mc ms free) (entryFrame m args maxL)) : vx_Met l y ws rm Pc Qc XC mc ms free := by
  refine MetFree.of_bodyS (code := cc) (maxLocals := maxL) (ret := ret) hy ?_ ?_
  · intro args s m h hn
    obtain ⟨meth, c, h1, h2, h3, h4, h5, h6, -, -⟩ := Cond.code_spec hn (atoms_spec (ws := ws) h _ (by rw [hw]; exact List.mem_cons_self))
    exact ⟨meth, c, h1, h2, h3, h4, h5, h6⟩
  · intro p e s m args below meth c s₁ B hml hP _
    have hh0 : s₁.heap = s.heap := by rw [B.state]; rfl
    have ht : ∀ x ∈ c.exceptionTable.toList, False := by
      obtain ⟨meth9, c9, h1, h2, -, -, -, -, h7, -⟩ := Cond.code_spec B.named (atoms_spec (ws := ws) B.pre _ (by rw [hw]; exact List.mem_cons_self))
      cases Option.some.inj (h1.symm.trans B.method)
      cases Option.some.inj (h2.symm.trans (Stand.of_body B).code)
      intro x hx
      rw [Array.isEmpty_iff.mp h7] at hx
      cases hx
    obtain ⟨t, a1, o, b1, b2, b3⟩ := body p e s m args below meth c s₁ B hml ht hP s₁ hh0 (Stand.of_body B)
    exact ⟨t, o, a1, b1, b2, b3⟩
/-- the table of a body with handlers -/
theorem vx_table {p : Program} {x y : MethodName} {S : Spec} {cc bytes : ByteArray} {maxL maxL' : Nat} {ret ret' : Option FieldType} {e : Env} {s s₁ : State} {m : MethodId} {args : Array Value} {below : List Frame} {meth : Method} {c : Code} {hh : List (Nat × Nat × Nat × Nat)}
    (B : BodyLoose p l y S cc maxL ret e s m args below meth c s₁) (h : (Cond.codeWith y bytes maxL' ret' hh).before args s = true) : c.exceptionTable.toList = tableOf hh := by
  obtain ⟨m9, meth9, c9, hn9, h1, h2, -, -, h6, -⟩ := Cond.codeWith_spec h
  cases Option.some.inj (hn9.symm.trans B.named)
  cases Option.some.inj (h1.symm.trans B.method)
  cases Option.some.inj (h2.symm.trans (Stand.of_body B).code)
  rw [← h6, table_eq]
end Bodies
end VXA
/-! ===== END ===== -/
/-! ===== BEGIN a static call of a method with an exception table ===== -/
section VXS
variable {p : Program} {l : Launch} {e : Env} {R : Room} {s : State} {m : MethodId} {args : Array Value} {below : List Frame} {meth : Method} {c : Code} {T : State} {H : Heap} {locs : List Loc} {cells slots : Nat}
abbrev vx_CSW (R : Room) (s : State) (args : Array Value) (own : String) (index : Nat) (y : MethodName) (bytes : ByteArray) (maxL : Nat) (ret : Option FieldType) (hh : List (Nat × Nat × Nat × Nat)) (ws : List Cond) (rm : Room) (mc ms n : Nat) : Prop :=
  (rm.cells = mc ∧ rm.slots = ms ∧ rm.frames + 1 ≤ R.frames ∧ 8 + (maxL + 11) + rm.locals ≤ R.locals ∧ (∀ w ∈ ws, ∀ (a' : Array Value) (U : State), s.WarmedH U.vm → w.before a' U = true) ∧ Cond.codeWith y bytes maxL ret hh ∈ ws) ∧
  (Cond.codeWith y bytes maxL ret hh).before args s = true ∧ (Cond.initialized y.cls).before args s = true ∧ (y.cls ≠ "java/lang/invoke/MethodHandle" ∧ y.cls ≠ "java/lang/invoke/VarHandle") ∧
  (∀ sig, parseMethodDescriptor y.desc = some sig → n = sig.parameters.length) ∧ (Cond.methodLink own index y).before args s = true ∧ (Cond.static y).before args s = true
theorem vx_cwSW {own : String} {index maxL mc ms : Nat} {y : MethodName} {bytes : ByteArray} {ret : Option FieldType} {hh : List (Nat × Nat × Nat × Nat)} {Ts ws ws' : List Cond} {rm : Room} (n : Nat) (ht : ∀ w ∈ Ts, w.before args s = true) (hT : GoodIn Ts (va_wsS own index y ws)) (hw : ws = Cond.codeWith y bytes maxL ret hh :: ws') (hrc : rm.cells = mc) (hrs : rm.slots = ms)
    (hd : y.cls ≠ "java/lang/invoke/MethodHandle" ∧ y.cls ≠ "java/lang/invoke/VarHandle" ∧ (parseMethodDescriptor y.desc).map (fun d => d.parameters.length) = some n) (hR : rm.frames + 1 ≤ R.frames ∧ 8 + (maxL + 11) + rm.locals ≤ R.locals) :
    vx_CSW R s args own index y bytes maxL ret hh ws rm mc ms n := by
  have ok : ∀ w ∈ va_wsS own index y ws, w.before args s = true := fun w h => ht w (hT w h).1
  have hG : GoodIn Ts ws := fun w h => hT w (by unfold va_wsS; exact List.mem_append_right _ h)
  have hc : Cond.codeWith y bytes maxL ret hh ∈ ws := by rw [hw]; exact List.mem_cons_self
  refine ⟨⟨hrc, hrs, hR.1, hR.2, pay_in ht hG, hc⟩, ht _ (hG _ hc).1, ok _ (by simp [va_wsS]), ⟨hd.1, hd.2.1⟩, fun sig h => ?_, ok _ (by simp [va_wsS]), ok _ (by simp [va_wsS])⟩
  have h2 := hd.2.2
  rw [h] at h2
  exact (Option.some.inj h2).symm
theorem vx_callSW (X : Stand p l e R s m args below meth c T locs cells slots) (hexec : p.tables.exec = Jvm.exec) {own : String} {index : Nat} {y : MethodName} {bytes : ByteArray} {maxL : Nat} {ret : Option FieldType} {hh : List (Nat × Nat × Nat × Nat)}
    (hown : s.vm.findClass own = some m.cls) (hlink : (Cond.methodLink own index y).before args s = true) (hstat : (Cond.static y).before args s = true) (hinit : (Cond.initialized y.cls).before args s = true)
    (hcode : (Cond.codeWith y bytes maxL ret hh).before args s = true) (hy : y.cls ≠ "java/lang/invoke/MethodHandle" ∧ y.cls ≠ "java/lang/invoke/VarHandle")
    {W9 : Nat} {Pre : Pt → Array Value → Prop} {Post : Pt → Array Value → Option Value → Pt → Prop} (hK : Back l R p e below s args y 3 W9 Pre Post)
    {g : JFrame} (hg : g.method = m) (hsize : g.locals.size = c.maxLocals) {argsL rest : List Value} (hlen : ∀ sig, parseMethodDescriptor y.desc = some sig → argsL.length = sig.parameters.length)
    (hstack : g.stack = argsL.reverse ++ rest) (hW : 2 * g.monitorRoom + (rest.map fun v => v.category).sum ≤ W9) (hdg : decode c.code g.pc = .ok (.invokestatic index, 3))
    (hpre : ∀ vm₁, s.WarmedH vm₁ → Pre ⟨T.setVm vm₁, locs, cells, slots⟩ argsL.toArray) :
    ∃ (v : Option Value) (vm₁ : Vm) (B : Pt), s.WarmedH vm₁ ∧ Stand p l e R s m args below meth c B.U B.locs B.cells B.slots ∧ Post ⟨T.setVm vm₁, locs, cells, slots⟩ argsL.toArray v B ∧
      ∀ target, Steps p.tables e below (B.U.setTop { g with pc := g.pc + 3, stack := v.toList ++ rest }) target → Steps p.tables e below (T.setTop g) target := by
  obtain ⟨mk, methM, cM, hnamed, hmethM, -, -, -, -, -, -, hsigM⟩ := Cond.codeWith_spec hcode
  have hstatic : methM.isStatic = true := Cond.static_spec hnamed hmethM hstat
  obtain ⟨kP, hkP, -⟩ := className_of_methodNamed hnamed
  have hinitP : kP.init = .initialized := Cond.initialized_spec (findClass_of_methodNamed hnamed) hkP hinit
  obtain ⟨vm₁, X₁, hstep₁⟩ := X.invokestatic hexec hown hlink hnamed hmethM hstatic hkP hinitP hy (g := g) hg (argsL := argsL) (rest := rest) (hlen _ hsigM) hstack hdg
  obtain ⟨v, B, X', hpost, hsteps⟩ := hK m meth c ⟨T.setVm vm₁, locs, cells, slots⟩ { g with stack := rest } (.invokestatic index) mk argsL.toArray X₁ hg hsize hdg hW (X₁.named hnamed) (hpre vm₁ X₁.warmed)
  exact ⟨v, vm₁, B, X₁.warmed, X', hpost, fun target h => hstep₁ _ fun acts => by rw [doInvoke_state]; exact hsteps.trans h⟩
theorem vx_runSW {y : MethodName} {bytes cc : ByteArray} {maxL nL mc ms n index : Nat} {ret : Option FieldType} {hh : List (Nat × Nat × Nat × Nat)} {ws : List Cond} {rm : Room} {Pc : Array Value → State → Prop} {Qc : Array Value → State → Outcome → State → Prop} {free : Addr → Prop} {Ts : List Cond} {own : String} {As rest : List Value} {g : JFrame}
    (S : CallFix p m c cc nL s args Ts own) (hM : Met l y ws rm Pc Qc mc ms free) (cw : vx_CSW R s args own index y bytes maxL ret hh ws rm mc ms n) (hp : PreS s H Pc As)
    (hg : g.method = m) (hn : As.length = n) (hsize : g.locals.size = nL) (hstack : g.stack = As.reverse ++ rest) (hW : 2 * g.monitorRoom + (rest.map fun v => v.category).sum ≤ 8) (hdg : decode cc g.pc = .ok (.invokestatic index, 3)) (hf : cells + mc ≤ R.cells ∧ slots + ms ≤ R.slots) :
    va_Run p l e R s m args below meth c H locs cells slots mc ms g rest (Qc As.toArray) (free) := by
  obtain ⟨⟨hrc, hrs, hfr, hlo, hws, hcw⟩, hcode, hini, hy, hlen, hl, hstt⟩ := cw
  have hK : Back l R p e below s args y 3 8 (PreOf R mc ms Pc) (PostOf Qc mc ms free) := va_backW (hh := hh) (bytes := bytes) (maxL := maxL) (ret := ret) hM hp.1 hrc hrs hfr hlo hws hcw (fun a' U hW => word_at hW (Or.inl (by first | rfl | simp [Cond.onTables, Cond.keeps, Cond.steady])) hini)
  obtain ⟨hx, hb, hml, ho, -⟩ := S
  intro T hT X
  obtain ⟨v, vm₁, ⟨U', l2, c2, s2⟩, hW₁, X', ⟨g', mk, t, L, e1, e2, hq, h1, hL, h2, h3⟩, st⟩ := vx_callSW X hx (hh := hh) (bytes := bytes) (maxL := maxL) (ret := ret) ho hl hstt hini hcode hy hK hg (hsize.trans hml.symm) (argsL := As) (rest := rest) (fun sig h => hn.trans (hlen sig h)) hstack hW (by rw [hb]; exact hdg)
    (fun vm₁ hW₁ => ⟨hf.1, hf.2, hp.2 (T.setVm vm₁) hT hW₁⟩)
  dsimp only [Pt.U, Pt.locs, Pt.cells, Pt.slots] at X' e1 e2 h1 h2 h3 st
  subst h1; subst h2; subst h3
  exact ⟨v, (T.setVm vm₁).calling g' mk As.toArray, t, U', L, hT, X', hL, e1, e2, hq, st⟩
/-- not caught here, past rows that name other classes: it goes on to the caller -/
theorem vx_outP {p : Program} {l : Launch} {e : Env} {R : Room} {s : State} {m : MethodId} {args : Array Value} {below : List Frame} {meth : Method} {c : Code} {H : Heap} {locs : List Loc} {cells slots : Nat} {free : Addr → Prop} {ls : Array Slot} {rest : List Value} {Qc : Array Value → State → Outcome → State → Prop} {XC : String → State → State → Prop}
    {pc : Nat} {own E : String} {ce : Cell} {q : Addr} {mc ms : Nat} (hown : s.vm.findClass own = some m.cls) (hlocks : meth.locks = false)
    (hpass : ∀ z ∈ c.exceptionTable.toList, covers z pc = false ∨ (z.catchType ≠ 0 ∧ ∃ nm : String, (Cond.classLink own z.catchType nm).before args s = true ∧ va_Nc E nm s)) (hcell : H[q]? = some ce) (hv : ce.vm = .none) (hcl : s.vm.findClass E = some ce.cls)
    (hx : ∀ t : State, t.heap = H → s.vm.Alike t.vm → XC E s t) (hf : ∀ z ∈ locs, free z.base) (hc : cells ≤ mc) (hs : slots ≤ ms) :
    vx_W p l e R s m args below meth c H locs cells slots (vx_MQ below Qc XC args s mc ms free) (F0 m pc ls rest) q := by
  intro T hT X
  have hpl : e.platform.magicAccessors = ({} : Platform).magicAccessors := by rw [X.admits.platform]
  obtain ⟨vm', hW', X', st⟩ := X.outThrough hlocks q (g := F0 m pc ls rest) rfl rfl rfl (cell := ce) (by rw [hT]; exact hcell) (by rw [hv]; rfl)
    (by obtain ⟨k9, h9, -⟩ := Vm.findClass_spec hcl; exact ⟨k9, h9⟩) (fun z hz => by
      rcases hpass z hz with h | ⟨hz0, nm, hl1, hn1⟩
      · exact Or.inl h
      · obtain ⟨c6, hc6, hcl6⟩ := Cond.classLink_spec hown hl1 e.platform hpl
        obtain ⟨a8, b8, h1, h2, h3⟩ := hn1
        cases Option.some.inj (h1.symm.trans hcl)
        cases Option.some.inj (h2.symm.trans hc6)
        exact Or.inr ⟨hz0, _, hcl6, h3⟩)
  obtain ⟨g₀, hfr⟩ := X'.frames_eq
  have hcell9 : ((T.setVm vm').setFrames (.throwing q :: below)).heap[q]? = some ce := by
    show T.heap[q]? = some ce
    rw [hT]; exact hcell
  have hend : Ended ((T.setVm vm').setFrames (.throwing q :: below)) below (.threw q) := State.frames_setFrames _ (State.cur_lt_of_frames hfr)
  refine ⟨(T.setVm vm').setFrames (.throwing q :: below), ?_, .threw q, X'.here.running, hend, Or.inr ⟨q, rfl, E, ce, locs, hx _ hT (X'.ends _).1.alike, hcell9, hv, hcl, (X'.ends _).1, (X'.ends _).2.mono hc hs, hf⟩⟩
  rw [X.pushThrowing_eq]
  exact st
/-- a thing of a world lies in the heap -/
theorem vx_lt {D : va_G} {cl : List vw_C} {ws : va_W} {H1 : Heap} (h : va_P D cl ws H1) {k : Nat} {q : Nat × va_E} (hk : ws[k]? = some q) : q.1 < H1.size := (h k q hk).lt
end VXS
/-! ===== END ===== -/
/-! ===== BEGIN methods with a table of their own: called by a name, returning or throwing ===== -/
section VXH
/-! vx_backW, vx_callVX, vx_callSX, vx_callVW, vx_runVW, vx_runVX, vx_runSX, vx_ofWH follow the same proofs as their sisters above (Free/Laws.lean, Shelf42/LK1.lean); vx_outP calls Shelf42/NT130.lean (outThrough). -/
section
variable {l : Launch} {R : Room} {p : Program} {e : Env} {below : List Frame} {s : State} {sargs : Array Value} {y : MethodName} {len W9 : Nat}
theorem vx_backW {ws : List Cond} {rm : Room} {Pc : Array Value → State → Prop} {Qc : Array Value → State → Outcome → State → Prop} {XC : String → State → State → Prop} {mc ms : Nat} {free : Addr → Prop} {bytes : ByteArray} {maxL : Nat} {ret : Option FieldType} {hh : List (Nat × Nat × Nat × Nat)}
    (hM : vx_Met l y ws rm Pc Qc XC mc ms free) (hblind : FrameBlind Pc) (hrc : rm.cells = mc) (hrs : rm.slots = ms)
    (hframes : rm.frames + 1 ≤ R.frames) (hlocals : W9 + (maxL + 11) + rm.locals ≤ R.locals)
    (hws : ∀ w ∈ ws, ∀ a' U, s.WarmedH U.vm → w.before a' U = true) (hcode : Cond.codeWith y bytes maxL ret hh ∈ ws) (hinit : ∀ a' U, s.WarmedH U.vm → (Cond.initialized y.cls).before a' U = true) :
    vx_Back l R p e below s sargs y len W9 (PreOf R mc ms Pc) (PostOf Qc mc ms free) (vx_Post XC mc ms free) := by
  intro m meth c A g ig mk a X hg hsize hdg hW hn hp
  have h1 : (headSpec ws rm).pre.before a A.U = true := atoms_intro fun w hw => hws w hw _ _ X.warmed
  have h2 : (Cond.codeWith y bytes maxL ret hh).before a A.U = true := hws _ hcode _ _ X.warmed
  have h3 : (Cond.initialized y.cls).before a A.U = true := hinit _ _ X.warmed
  have h4 : A.cells + (headSpec ws rm).room.cells ≤ R.cells := by rw [show (headSpec ws rm).room.cells = mc from hrc]; exact hp.1
  have h5 : A.slots + (headSpec ws rm).room.slots ≤ R.slots := by rw [show (headSpec ws rm).room.slots = ms from hrs]; exact hp.2.1
  have hPc : Pc a (A.U.calling g mk a) := hblind _ _ _ _ hp.2.2
  obtain ⟨U, Ls, c0, s0⟩ := A
  dsimp only [Pt.U, Pt.locs, Pt.cells, Pt.slots] at h1 h2 h3 h4 h5 X hn hPc ⊢
  obtain ⟨m9, methY, cY, hn9, hmY, hcY, -, hlY, -⟩ := Cond.codeWith_spec h2
  cases Option.some.inj (hn9.symm.trans hn)
  obtain ⟨kY, hkY, -⟩ := className_of_methodNamed hn
  have hinitY : kY.init = .initialized := Cond.initialized_spec (findClass_of_methodNamed hn) hkY h3
  have h : At U g.method c below := by rw [hg]; exact X.here
  have hlocals9 : W9 + (maxL + 11) + (headSpec ws rm).room.locals ≤ R.locals := hlocals
  have happ : (headSpec ws rm).appliesLoose y e.platform (U.calling g mk a) = true :=
    Spec.appliesLoose_calling (g := g) h hdg hn hkY hinitY
      (X.room_calling (g := g) (R' := (headSpec ws rm).room) hsize hmY hcY hframes (by rw [hlY]; omega) h4 h5) h1
  obtain ⟨mid, hmid⟩ := h.above
  have hfr : (U.setTop g).frames = (.java g :: mid) ++ below := by rw [State.frames_setTop' g h.top, hmid]; rfl
  obtain ⟨o, s₂, hsteps, -, hend, hq⟩ := Steps.callFree hM p X.admits X.cas X.clock (acts := []) hfr happ hPc trivial
  have hq' : vx_Q Qc XC mc ms free a (U.calling g mk a) o s₂ := hq
  rw [State.frames_setTop' g h.top] at hend
  obtain ⟨g₀, hg0⟩ := Option.isSome_iff_exists.mp h.top
  obtain ⟨r, hr⟩ := State.topJava?_eq_some.mp hg0
  have hr' : (({ U with heap := s₂.heap, slotsUsed := s₂.slotsUsed } : State).setVm s₂.vm).frames = .java g₀ :: r := hr
  rcases hq' with ⟨hqc, L, hfe, hL⟩ | ⟨q, rfl, E, ce, L, hx, hce, hcv, hcl, hW₂, hsm, hL⟩
  · obtain ⟨⟨v, rfl⟩, hW₂, e2, q2, q3, q4, q5, q6⟩ := id hfe
    have e3 : s₂ = ({ (U.calling g mk a).setFrames s₂.frames with heap := s₂.heap, slotsUsed := s₂.slotsUsed } : State).setVm s₂.vm := by
      have : s₂ = ({ s₂ with vm := (U.calling g mk a).vm } : State).setVm s₂.vm := rfl
      rw [e2] at this
      exact this
    obtain ⟨c₂, i₂, len₂, hc₂, hd₂, hf₂⟩ := hend
    have hW' : U.WarmedH s₂.vm := hW₂
    have hcc : c₂ = c := by
      have h1 : s₂.code? g.method = U.code? g.method := by
        rw [State.code?_eq, State.code?_eq, hW'.alike.method?]
      exact Option.some.inj (hc₂.symm.trans (h1.trans h.code))
    subst hcc
    have hlen : len₂ = len := by rw [hdg] at hd₂; cases hd₂; rfl
    subst hlen
    have hs₂ : s₂ = (({ U with heap := s₂.heap, slotsUsed := s₂.slotsUsed } : State).setVm s₂.vm).setTop { g with pc := g.pc + len₂, stack := v.toList ++ g.stack } := by
      refine e3.trans ?_
      rw [hf₂, State.calling_eq h.top, State.setFrames_setFrames, State.setTop_of_frames _ hr', hr]
      rfl
    have hsame : U.sameButNew ({ U with heap := s₂.heap, slotsUsed := s₂.slotsUsed } : State) L mc ms := by
      refine ⟨?_, q2, q3, q4, q5, q6⟩
      obtain ⟨t, ht, -⟩ := State.frames_cons hr
      show ({ U with heap := s₂.heap, slotsUsed := s₂.slotsUsed } : State) = { U.setFrames U.frames with heap := s₂.heap, slotsUsed := s₂.slotsUsed }
      rw [State.setFrames_self ht]
    subst hg
    refine Or.inl ⟨v, ⟨(({ U with heap := s₂.heap, slotsUsed := s₂.slotsUsed } : State).setVm s₂.vm), Ls ++ L, c0 + mc, s0 + ms⟩,
      ⟨X.admits, X.cas, X.clock, X.frames, X.room, X.hears, X.method, X.code, (X.here.setHeapUsed s₂.heap s₂.slotsUsed).setVm hW'.alike, X.tail, State.WarmedH.trans X.warmed hW', X.limits, X.bytes, X.same.trans (hsame.setVm s.vm)⟩,
      ⟨g, mk, s₂, L, rfl, rfl, hqc, rfl, hL, rfl, rfl⟩, ?_⟩
    show Steps p.tables e below _ ((({ U with heap := s₂.heap, slotsUsed := s₂.slotsUsed } : State).setVm s₂.vm).setTop { g with pc := g.pc + len₂, stack := v.toList ++ g.stack })
    rw [← hs₂]
    exact hsteps
  · obtain ⟨e2, q2, q3, q4, q5, q6⟩ := id hsm
    have e3 : s₂ = ({ (U.calling g mk a).setFrames s₂.frames with heap := s₂.heap, slotsUsed := s₂.slotsUsed } : State).setVm s₂.vm := by
      have : s₂ = ({ s₂ with vm := (U.calling g mk a).vm } : State).setVm s₂.vm := rfl
      rw [e2] at this
      exact this
    have hf₂ : s₂.frames = .throwing q :: .java g :: U.frames.tail := hend
    have hW' : U.WarmedH s₂.vm := hW₂
    have hs₂ : s₂ = ((({ U with heap := s₂.heap, slotsUsed := s₂.slotsUsed } : State).setVm s₂.vm).setTop g).pushFrame (.throwing q) := by
      refine e3.trans ?_
      rw [hf₂, State.calling_eq h.top, State.setFrames_setFrames, State.pushFrame, State.frames_setTop _ hr', State.setTop_of_frames _ hr', State.setFrames_setFrames, hr]
      rfl
    have hsame : U.sameButNew ({ U with heap := s₂.heap, slotsUsed := s₂.slotsUsed } : State) L mc ms := by
      refine ⟨?_, q2, q3, q4, q5, q6⟩
      obtain ⟨t, ht, -⟩ := State.frames_cons hr
      show ({ U with heap := s₂.heap, slotsUsed := s₂.slotsUsed } : State) = { U.setFrames U.frames with heap := s₂.heap, slotsUsed := s₂.slotsUsed }
      rw [State.setFrames_self ht]
    subst hg
    refine Or.inr ⟨q, ⟨(({ U with heap := s₂.heap, slotsUsed := s₂.slotsUsed } : State).setVm s₂.vm), Ls ++ L, c0 + mc, s0 + ms⟩,
      ⟨X.admits, X.cas, X.clock, X.frames, X.room, X.hears, X.method, X.code, (X.here.setHeapUsed s₂.heap s₂.slotsUsed).setVm hW'.alike, X.tail, State.WarmedH.trans X.warmed hW', X.limits, X.bytes, X.same.trans (hsame.setVm s.vm)⟩,
      ⟨g, mk, s₂, L, E, ce, rfl, rfl, hx, hce, hcv, hcl, rfl, hL, rfl, rfl⟩, ?_⟩
    show Steps p.tables e below _ (((({ U with heap := s₂.heap, slotsUsed := s₂.slotsUsed } : State).setVm s₂.vm).setTop g).pushFrame (.throwing q))
    rw [← hs₂]
    exact hsteps
end
variable {p : Program} {l : Launch} {e : Env} {R : Room} {s : State} {m : MethodId} {args : Array Value} {below : List Frame} {meth : Method} {c : Code} {T : State} {H : Heap} {locs : List Loc} {cells slots : Nat}
theorem vx_callVX (X : Stand p l e R s m args below meth c T locs cells slots) (hexec : p.tables.exec = Jvm.exec) {own C : String} {index : Nat} {y : MethodName} {bytes : ByteArray} {maxL : Nat} {ret : Option FieldType} {hh : List (Nat × Nat × Nat × Nat)}
    (hown : s.vm.findClass own = some m.cls) (hlink : (Cond.methodLink own index y).before args s = true) (hinst : (Cond.instanceMethod y).before args s = true) (hsel : (Cond.selects C y y).before args s = true)
    (hcode : (Cond.codeWith y bytes maxL ret hh).before args s = true) (hy : y.cls ≠ "java/lang/invoke/MethodHandle" ∧ y.cls ≠ "java/lang/invoke/VarHandle")
    {W9 : Nat} {Pre : Pt → Array Value → Prop} {Post : Pt → Array Value → Option Value → Pt → Prop} {PostX : Pt → Array Value → Addr → Pt → Prop} (hK : vx_Back l R p e below s args y 3 W9 Pre Post PostX)
    {b : Addr} {cellB : Cell} (hcell : T.heap[b]? = some cellB) (hobj : cellB.vm.isStatics = false) (hcls : s.vm.findClass C = some cellB.cls)
    {g : JFrame} (hg : g.method = m) (hsize : g.locals.size = c.maxLocals) {argsL rest : List Value} (hlen : ∀ sig, parseMethodDescriptor y.desc = some sig → argsL.length = sig.parameters.length)
    (hstack : g.stack = argsL.reverse ++ .ref b :: rest) (hW : 2 * g.monitorRoom + (rest.map fun v => v.category).sum ≤ W9) (hdg : decode c.code g.pc = .ok (.invokevirtual index, 3))
    (hpre : ∀ vm₁, s.WarmedH vm₁ → Pre ⟨T.setVm vm₁, locs, cells, slots⟩ (Value.ref b :: argsL).toArray) :
    (∃ (v : Option Value) (vm₁ : Vm) (B : Pt), s.WarmedH vm₁ ∧ Stand p l e R s m args below meth c B.U B.locs B.cells B.slots ∧ Post ⟨T.setVm vm₁, locs, cells, slots⟩ (Value.ref b :: argsL).toArray v B ∧
      ∀ target, Steps p.tables e below (B.U.setTop { g with pc := g.pc + 3, stack := v.toList ++ rest }) target → Steps p.tables e below (T.setTop g) target) ∨
    (∃ (q : Addr) (vm₁ : Vm) (B : Pt), s.WarmedH vm₁ ∧ Stand p l e R s m args below meth c B.U B.locs B.cells B.slots ∧ PostX ⟨T.setVm vm₁, locs, cells, slots⟩ (Value.ref b :: argsL).toArray q B ∧
      Steps p.tables e below (T.setTop g) ((B.U.setTop { g with stack := rest }).pushFrame (.throwing q))) := by
  obtain ⟨mk, methM, hnamed, hmethM, hstM, habM⟩ := Cond.instanceMethod_spec hinst
  obtain ⟨m8, methM', cM, hn8, hmethM', -, -, -, -, -, -, hsigM⟩ := Cond.codeWith_spec hcode
  cases Option.some.inj (hn8.symm.trans hnamed)
  cases hmethM.symm.trans hmethM'
  obtain ⟨c2, r2, m2, q1, q2, q3, q4, kP, hkP, hkPi⟩ := Cond.selects_spec hsel
  cases hcls.symm.trans q1
  cases (State.methodFound?_of_named hnamed hy).symm.trans q2
  cases hnamed.symm.trans q3
  have hselP : selectMethod e.platform s.vm cellB.cls mk = .method mk := by rw [Launch.admits_selectMethod X.admits]; exact q4
  obtain ⟨vm₁, X₁, hstep₁⟩ := X.invokevirtual hexec hown hlink hnamed hmethM hstM hkP hkPi hy (a := b) (cell := cellB) hcell
    (fun z h => by rw [h] at hobj; cases hobj) hselP hmethM habM hkP hkPi (g := g) hg (argsL := argsL) (rest := rest) (hlen _ hsigM) hstack hdg
  rcases hK m meth c ⟨T.setVm vm₁, locs, cells, slots⟩ { g with stack := rest } (.invokevirtual index) mk (Value.ref b :: argsL).toArray X₁ hg hsize hdg hW (X₁.named hnamed) (hpre vm₁ X₁.warmed) with ⟨v, B, X', hpost, hsteps⟩ | ⟨q, B, X', hpost, hsteps⟩
  · exact Or.inl ⟨v, vm₁, B, X₁.warmed, X', hpost, fun target h => hstep₁ _ fun acts => by rw [doInvoke_state]; exact hsteps.trans h⟩
  · exact Or.inr ⟨q, vm₁, B, X₁.warmed, X', hpost, hstep₁ _ fun acts => by rw [doInvoke_state]; exact hsteps⟩
theorem vx_callSX (X : Stand p l e R s m args below meth c T locs cells slots) (hexec : p.tables.exec = Jvm.exec) {own : String} {index : Nat} {y : MethodName} {bytes : ByteArray} {maxL : Nat} {ret : Option FieldType} {hh : List (Nat × Nat × Nat × Nat)}
    (hown : s.vm.findClass own = some m.cls) (hlink : (Cond.methodLink own index y).before args s = true) (hstat : (Cond.static y).before args s = true) (hinit : (Cond.initialized y.cls).before args s = true)
    (hcode : (Cond.codeWith y bytes maxL ret hh).before args s = true) (hy : y.cls ≠ "java/lang/invoke/MethodHandle" ∧ y.cls ≠ "java/lang/invoke/VarHandle")
    {W9 : Nat} {Pre : Pt → Array Value → Prop} {Post : Pt → Array Value → Option Value → Pt → Prop} {PostX : Pt → Array Value → Addr → Pt → Prop} (hK : vx_Back l R p e below s args y 3 W9 Pre Post PostX)
    {g : JFrame} (hg : g.method = m) (hsize : g.locals.size = c.maxLocals) {argsL rest : List Value} (hlen : ∀ sig, parseMethodDescriptor y.desc = some sig → argsL.length = sig.parameters.length)
    (hstack : g.stack = argsL.reverse ++ rest) (hW : 2 * g.monitorRoom + (rest.map fun v => v.category).sum ≤ W9) (hdg : decode c.code g.pc = .ok (.invokestatic index, 3))
    (hpre : ∀ vm₁, s.WarmedH vm₁ → Pre ⟨T.setVm vm₁, locs, cells, slots⟩ argsL.toArray) :
    (∃ (v : Option Value) (vm₁ : Vm) (B : Pt), s.WarmedH vm₁ ∧ Stand p l e R s m args below meth c B.U B.locs B.cells B.slots ∧ Post ⟨T.setVm vm₁, locs, cells, slots⟩ argsL.toArray v B ∧
      ∀ target, Steps p.tables e below (B.U.setTop { g with pc := g.pc + 3, stack := v.toList ++ rest }) target → Steps p.tables e below (T.setTop g) target) ∨
    (∃ (q : Addr) (vm₁ : Vm) (B : Pt), s.WarmedH vm₁ ∧ Stand p l e R s m args below meth c B.U B.locs B.cells B.slots ∧ PostX ⟨T.setVm vm₁, locs, cells, slots⟩ argsL.toArray q B ∧
      Steps p.tables e below (T.setTop g) ((B.U.setTop { g with stack := rest }).pushFrame (.throwing q))) := by
  obtain ⟨mk, methM, cM, hnamed, hmethM, -, -, -, -, -, -, hsigM⟩ := Cond.codeWith_spec hcode
  have hstatic : methM.isStatic = true := Cond.static_spec hnamed hmethM hstat
  obtain ⟨kP, hkP, -⟩ := className_of_methodNamed hnamed
  have hinitP : kP.init = .initialized := Cond.initialized_spec (findClass_of_methodNamed hnamed) hkP hinit
  obtain ⟨vm₁, X₁, hstep₁⟩ := X.invokestatic hexec hown hlink hnamed hmethM hstatic hkP hinitP hy (g := g) hg (argsL := argsL) (rest := rest) (hlen _ hsigM) hstack hdg
  rcases hK m meth c ⟨T.setVm vm₁, locs, cells, slots⟩ { g with stack := rest } (.invokestatic index) mk argsL.toArray X₁ hg hsize hdg hW (X₁.named hnamed) (hpre vm₁ X₁.warmed) with ⟨v, B, X', hpost, hsteps⟩ | ⟨q, B, X', hpost, hsteps⟩
  · exact Or.inl ⟨v, vm₁, B, X₁.warmed, X', hpost, fun target h => hstep₁ _ fun acts => by rw [doInvoke_state]; exact hsteps.trans h⟩
  · exact Or.inr ⟨q, vm₁, B, X₁.warmed, X', hpost, hstep₁ _ fun acts => by rw [doInvoke_state]; exact hsteps⟩
theorem vx_callVW (X : Stand p l e R s m args below meth c T locs cells slots) (hexec : p.tables.exec = Jvm.exec) {own C : String} {index : Nat} {y : MethodName} {bytes : ByteArray} {maxL : Nat} {ret : Option FieldType} {hh : List (Nat × Nat × Nat × Nat)}
    (hown : s.vm.findClass own = some m.cls) (hlink : (Cond.methodLink own index y).before args s = true) (hinst : (Cond.instanceMethod y).before args s = true) (hsel : (Cond.selects C y y).before args s = true)
    (hcode : (Cond.codeWith y bytes maxL ret hh).before args s = true) (hy : y.cls ≠ "java/lang/invoke/MethodHandle" ∧ y.cls ≠ "java/lang/invoke/VarHandle")
    {W9 : Nat} {Pre : Pt → Array Value → Prop} {Post : Pt → Array Value → Option Value → Pt → Prop} (hK : Back l R p e below s args y 3 W9 Pre Post)
    {b : Addr} {cellB : Cell} (hcell : T.heap[b]? = some cellB) (hobj : cellB.vm.isStatics = false) (hcls : s.vm.findClass C = some cellB.cls)
    {g : JFrame} (hg : g.method = m) (hsize : g.locals.size = c.maxLocals) {argsL rest : List Value} (hlen : ∀ sig, parseMethodDescriptor y.desc = some sig → argsL.length = sig.parameters.length)
    (hstack : g.stack = argsL.reverse ++ .ref b :: rest) (hW : 2 * g.monitorRoom + (rest.map fun v => v.category).sum ≤ W9) (hdg : decode c.code g.pc = .ok (.invokevirtual index, 3))
    (hpre : ∀ vm₁, s.WarmedH vm₁ → Pre ⟨T.setVm vm₁, locs, cells, slots⟩ (Value.ref b :: argsL).toArray) :
    ∃ (v : Option Value) (vm₁ : Vm) (B : Pt), s.WarmedH vm₁ ∧ Stand p l e R s m args below meth c B.U B.locs B.cells B.slots ∧ Post ⟨T.setVm vm₁, locs, cells, slots⟩ (Value.ref b :: argsL).toArray v B ∧
      ∀ target, Steps p.tables e below (B.U.setTop { g with pc := g.pc + 3, stack := v.toList ++ rest }) target → Steps p.tables e below (T.setTop g) target := by
  obtain ⟨mk, methM, hnamed, hmethM, hstM, habM⟩ := Cond.instanceMethod_spec hinst
  obtain ⟨m8, methM', cM, hn8, hmethM', -, -, -, -, -, -, hsigM⟩ := Cond.codeWith_spec hcode
  cases Option.some.inj (hn8.symm.trans hnamed)
  cases hmethM.symm.trans hmethM'
  obtain ⟨c2, r2, m2, q1, q2, q3, q4, kP, hkP, hkPi⟩ := Cond.selects_spec hsel
  cases hcls.symm.trans q1
  cases (State.methodFound?_of_named hnamed hy).symm.trans q2
  cases hnamed.symm.trans q3
  have hselP : selectMethod e.platform s.vm cellB.cls mk = .method mk := by rw [Launch.admits_selectMethod X.admits]; exact q4
  obtain ⟨vm₁, X₁, hstep₁⟩ := X.invokevirtual hexec hown hlink hnamed hmethM hstM hkP hkPi hy (a := b) (cell := cellB) hcell
    (fun z h => by rw [h] at hobj; cases hobj) hselP hmethM habM hkP hkPi (g := g) hg (argsL := argsL) (rest := rest) (hlen _ hsigM) hstack hdg
  obtain ⟨v, B, X', hpost, hsteps⟩ := hK m meth c ⟨T.setVm vm₁, locs, cells, slots⟩ { g with stack := rest } (.invokevirtual index) mk (Value.ref b :: argsL).toArray X₁ hg hsize hdg hW (X₁.named hnamed) (hpre vm₁ X₁.warmed)
  exact ⟨v, vm₁, B, X₁.warmed, X', hpost, fun target h => hstep₁ _ fun acts => by rw [doInvoke_state]; exact hsteps.trans h⟩
abbrev vx_CVW (R : Room) (s : State) (args : Array Value) (own C : String) (index : Nat) (y : MethodName) (bytes : ByteArray) (maxL : Nat) (ret : Option FieldType) (hh : List (Nat × Nat × Nat × Nat)) (ws : List Cond) (rm : Room) (mc ms n : Nat) : Prop :=
  (rm.cells = mc ∧ rm.slots = ms ∧ rm.frames + 1 ≤ R.frames ∧ 8 + (maxL + 11) + rm.locals ≤ R.locals ∧ (∀ w ∈ ws, ∀ (a' : Array Value) (U : State), s.WarmedH U.vm → w.before a' U = true) ∧ Cond.codeWith y bytes maxL ret hh ∈ ws) ∧
  (Cond.codeWith y bytes maxL ret hh).before args s = true ∧ (Cond.initialized y.cls).before args s = true ∧ (y.cls ≠ "java/lang/invoke/MethodHandle" ∧ y.cls ≠ "java/lang/invoke/VarHandle") ∧
  (∀ sig, parseMethodDescriptor y.desc = some sig → n = sig.parameters.length) ∧ (Cond.methodLink own index y).before args s = true ∧ (Cond.instanceMethod y).before args s = true ∧ (Cond.selects C y y).before args s = true
theorem vx_cwVW {own C : String} {index maxL mc ms : Nat} {y : MethodName} {bytes : ByteArray} {ret : Option FieldType} {hh : List (Nat × Nat × Nat × Nat)} {Ts ws ws' : List Cond} {rm : Room} (n : Nat) (ht : ∀ w ∈ Ts, w.before args s = true) (hT : GoodIn Ts (wsV own index C y ws)) (hw : ws = Cond.codeWith y bytes maxL ret hh :: ws') (hrc : rm.cells = mc) (hrs : rm.slots = ms)
    (hd : y.cls = C ∧ y.cls ≠ "java/lang/invoke/MethodHandle" ∧ y.cls ≠ "java/lang/invoke/VarHandle" ∧ (parseMethodDescriptor y.desc).map (fun d => d.parameters.length) = some n) (hR : rm.frames + 1 ≤ R.frames ∧ 8 + (maxL + 11) + rm.locals ≤ R.locals) :
    vx_CVW R s args own C index y bytes maxL ret hh ws rm mc ms n := by
  obtain ⟨hC, hd⟩ := hd
  subst hC
  have ok : ∀ w ∈ wsV own index y.cls y ws, w.before args s = true := fun w h => ht w (hT w h).1
  have hG : GoodIn Ts ws := fun w h => hT w (by unfold wsV; exact List.mem_append_right _ h)
  have hc : Cond.codeWith y bytes maxL ret hh ∈ ws := by rw [hw]; exact List.mem_cons_self
  refine ⟨⟨hrc, hrs, hR.1, hR.2, pay_in ht hG, hc⟩, ht _ (hG _ hc).1, ok _ (by simp [wsV]), ⟨hd.1, hd.2.1⟩, fun sig h => ?_, ok _ (by simp [wsV]), ok _ (by simp [wsV]), ok _ (by simp [wsV])⟩
  have h2 := hd.2.2
  rw [h] at h2
  exact (Option.some.inj h2).symm
theorem vx_runVW {y : MethodName} {bytes cc : ByteArray} {maxL nL mc ms n index : Nat} {ret : Option FieldType} {hh : List (Nat × Nat × Nat × Nat)} {ws : List Cond} {rm : Room} {Pc : Array Value → State → Prop} {Qc : Array Value → State → Outcome → State → Prop} {free : Addr → Prop} {Ts : List Cond} {own C : String} {b : Addr} {As rest : List Value} {g : JFrame}
    (S : CallFix p m c cc nL s args Ts own) (hM : Met l y ws rm Pc Qc mc ms free) (cw : vx_CVW R s args own C index y bytes maxL ret hh ws rm mc ms n) (hp : PreV s H C b Pc As)
    (hg : g.method = m) (hn : As.length = n) (hsize : g.locals.size = nL) (hstack : g.stack = As.reverse ++ .ref b :: rest) (hW : 2 * g.monitorRoom + (rest.map fun v => v.category).sum ≤ 8) (hdg : decode cc g.pc = .ok (.invokevirtual index, 3)) (hf : cells + mc ≤ R.cells ∧ slots + ms ≤ R.slots) :
    va_Run p l e R s m args below meth c H locs cells slots mc ms g rest (Qc (Value.ref b :: As).toArray) free := by
  obtain ⟨⟨hrc, hrs, hfr, hlo, hws, hcw⟩, hcode, hini, hy, hlen, hl, hin, hse⟩ := cw
  have hK : Back l R p e below s args y 3 8 (PreOf R mc ms Pc) (PostOf Qc mc ms free) := va_backW (hh := hh) (bytes := bytes) (maxL := maxL) (ret := ret) hM hp.1 hrc hrs hfr hlo hws hcw (fun a' U hW => word_at hW (Or.inl (by first | rfl | simp [Cond.onTables, Cond.keeps, Cond.steady])) hini)
  obtain ⟨hx, hb, hml, ho, -⟩ := S
  obtain ⟨-, ⟨cellB, hcB, hoB, hclB⟩, hPc⟩ := hp
  intro T hT X
  obtain ⟨v, vm₁, ⟨U', l2, c2, s2⟩, hW₁, X', ⟨g', mk, t, L, e1, e2, hq, h1, hL, h2, h3⟩, st⟩ := vx_callVW X hx (C := C) (hh := hh) (bytes := bytes) (maxL := maxL) (ret := ret) ho hl hin hse hcode hy hK (by rw [hT]; exact hcB) hoB hclB hg (hsize.trans hml.symm) (argsL := As) (rest := rest) (fun sig h => hn.trans (hlen sig h)) hstack hW (by rw [hb]; exact hdg)
    (fun vm₁ hW₁ => ⟨hf.1, hf.2, hPc (T.setVm vm₁) hT hW₁⟩)
  dsimp only [Pt.U, Pt.locs, Pt.cells, Pt.slots] at X' e1 e2 h1 h2 h3 st
  subst h1; subst h2; subst h3
  exact ⟨v, (T.setVm vm₁).calling g' mk (Value.ref b :: As).toArray, t, U', L, hT, X', hL, e1, e2, hq, st⟩
section
variable {y : MethodName} {bytes cc : ByteArray} {maxL nL mc ms n index : Nat} {ret : Option FieldType} {ws : List Cond} {rm : Room} {Pc : Array Value → State → Prop} {Qc : Array Value → State → Outcome → State → Prop} {XC : String → State → State → Prop} {free : Addr → Prop} {Ts : List Cond} {own C : String} {b : Addr} {As rest : List Value} {g : JFrame}
theorem vx_runVX {hh : List (Nat × Nat × Nat × Nat)} (S : CallFix p m c cc nL s args Ts own) (hM : vx_Met l y ws rm Pc Qc XC mc ms free) (cw : vx_CVW R s args own C index y bytes maxL ret hh ws rm mc ms n) (hp : PreV s H C b Pc As)
    (hg : g.method = m) (hn : As.length = n) (hsize : g.locals.size = nL) (hstack : g.stack = As.reverse ++ .ref b :: rest) (hW : 2 * g.monitorRoom + (rest.map fun v => v.category).sum ≤ 8) (hdg : decode cc g.pc = .ok (.invokevirtual index, 3)) (hf : cells + mc ≤ R.cells ∧ slots + ms ≤ R.slots) :
    vx_Run p l e R s m args below meth c H locs cells slots mc ms g rest (Qc (Value.ref b :: As).toArray) XC free := by
  obtain ⟨⟨hrc, hrs, hfr, hlo, hws, hcw⟩, hcode, hini, hy, hlen, hl, hin, hse⟩ := cw
  have hK : vx_Back l R p e below s args y 3 8 (PreOf R mc ms Pc) (PostOf Qc mc ms free) (vx_Post XC mc ms free) := vx_backW (hh := hh) (bytes := bytes) (maxL := maxL) (ret := ret) hM hp.1 hrc hrs hfr hlo hws hcw (fun a' U hW => word_at hW (Or.inl (by first | rfl | simp [Cond.onTables, Cond.keeps, Cond.steady])) hini)
  obtain ⟨hx, hb, hml, ho, -⟩ := S
  obtain ⟨-, ⟨cellB, hcB, hoB, hclB⟩, hPc⟩ := hp
  intro T hT X
  rcases vx_callVX X hx (C := C) (hh := hh) (bytes := bytes) (maxL := maxL) (ret := ret) ho hl hin hse hcode hy hK (by rw [hT]; exact hcB) hoB hclB hg (hsize.trans hml.symm) (argsL := As) (rest := rest) (fun sig h => hn.trans (hlen sig h)) hstack hW (by rw [hb]; exact hdg)
    (fun vm₁ hW₁ => ⟨hf.1, hf.2, hPc (T.setVm vm₁) hT hW₁⟩) with ⟨v, vm₁, ⟨U', l2, c2, s2⟩, hW₁, X', ⟨g', mk, t, L, e1, e2, hq, h1, hL, h2, h3⟩, st⟩ | ⟨q, vm₁, ⟨U', l2, c2, s2⟩, hW₁, X', ⟨g', mk, t, L, E, ce, e1, e2, hq, hce, hcv, hcl, h1, hL, h2, h3⟩, st⟩
  · dsimp only [Pt.U, Pt.locs, Pt.cells, Pt.slots] at X' e1 e2 h1 h2 h3 st
    subst h1; subst h2; subst h3
    exact Or.inl ⟨v, (T.setVm vm₁).calling g' mk (Value.ref b :: As).toArray, t, U', L, hT, X', hL, e1, e2, hq, st⟩
  · dsimp only [Pt.U, Pt.locs, Pt.cells, Pt.slots] at X' e1 e2 h1 h2 h3 st hcl
    subst h1; subst h2; subst h3
    exact Or.inr ⟨q, (T.setVm vm₁).calling g' mk (Value.ref b :: As).toArray, t, U', L, E, ce, hT, X', hL, e1, e2, hq, hce, hcv, vx_cls hW₁ hcl, st⟩
theorem vx_runSX {hh : List (Nat × Nat × Nat × Nat)} (S : CallFix p m c cc nL s args Ts own) (hM : vx_Met l y ws rm Pc Qc XC mc ms free) (cw : vx_CSW R s args own index y bytes maxL ret hh ws rm mc ms n) (hp : PreS s H Pc As)
    (hg : g.method = m) (hn : As.length = n) (hsize : g.locals.size = nL) (hstack : g.stack = As.reverse ++ rest) (hW : 2 * g.monitorRoom + (rest.map fun v => v.category).sum ≤ 8) (hdg : decode cc g.pc = .ok (.invokestatic index, 3)) (hf : cells + mc ≤ R.cells ∧ slots + ms ≤ R.slots) :
    vx_Run p l e R s m args below meth c H locs cells slots mc ms g rest (Qc As.toArray) XC free := by
  obtain ⟨⟨hrc, hrs, hfr, hlo, hws, hcw⟩, hcode, hini, hy, hlen, hl, hstt⟩ := cw
  have hK : vx_Back l R p e below s args y 3 8 (PreOf R mc ms Pc) (PostOf Qc mc ms free) (vx_Post XC mc ms free) := vx_backW (hh := hh) (bytes := bytes) (maxL := maxL) (ret := ret) hM hp.1 hrc hrs hfr hlo hws hcw (fun a' U hW => word_at hW (Or.inl (by first | rfl | simp [Cond.onTables, Cond.keeps, Cond.steady])) hini)
  obtain ⟨hx, hb, hml, ho, -⟩ := S
  intro T hT X
  rcases vx_callSX X hx (hh := hh) (bytes := bytes) (maxL := maxL) (ret := ret) ho hl hstt hini hcode hy hK hg (hsize.trans hml.symm) (argsL := As) (rest := rest) (fun sig h => hn.trans (hlen sig h)) hstack hW (by rw [hb]; exact hdg)
    (fun vm₁ hW₁ => ⟨hf.1, hf.2, hp.2 (T.setVm vm₁) hT hW₁⟩) with ⟨v, vm₁, ⟨U', l2, c2, s2⟩, hW₁, X', ⟨g', mk, t, L, e1, e2, hq, h1, hL, h2, h3⟩, st⟩ | ⟨q, vm₁, ⟨U', l2, c2, s2⟩, hW₁, X', ⟨g', mk, t, L, E, ce, e1, e2, hq, hce, hcv, hcl, h1, hL, h2, h3⟩, st⟩
  · dsimp only [Pt.U, Pt.locs, Pt.cells, Pt.slots] at X' e1 e2 h1 h2 h3 st
    subst h1; subst h2; subst h3
    exact Or.inl ⟨v, (T.setVm vm₁).calling g' mk As.toArray, t, U', L, hT, X', hL, e1, e2, hq, st⟩
  · dsimp only [Pt.U, Pt.locs, Pt.cells, Pt.slots] at X' e1 e2 h1 h2 h3 st hcl
    subst h1; subst h2; subst h3
    exact Or.inr ⟨q, (T.setVm vm₁).calling g' mk As.toArray, t, U', L, E, ce, hT, X', hL, e1, e2, hq, hce, hcv, vx_cls hW₁ hcl, st⟩
end
end VXH
theorem vx_ofWH {l : Launch} {y : MethodName} {ws ws' : List Cond} {rm : Room} {Pc : Array Value → State → Prop} {Qc : Array Value → State → Outcome → State → Prop} {XC : String → State → State → Prop} {mc ms : Nat} {free : Addr → Prop} {cc : ByteArray} {maxL : Nat} {ret : Option FieldType} {hh : List (Nat × Nat × Nat × Nat)}
    (hy : plainName y.cls = true) (hw : ws = Cond.codeWith y cc maxL ret hh :: ws')
    (body : ∀ p e s m args below meth c s₁, BodyLoose p l y (headSpec ws rm) cc maxL ret e s m args below meth c s₁ → c.maxLocals = maxL → Pc args s →
      W p l e (headSpec ws rm).room s m args below meth c s.heap [] 0 0 (vx_MQ below Qc XC args s mc ms free) (entryFrame m args maxL)) : vx_Met l y ws rm Pc Qc XC mc ms free := by
  refine MetFree.of_bodyS (code := cc) (maxLocals := maxL) (ret := ret) hy ?_ ?_
  · intro args s m h hn
    obtain ⟨m9, meth, c, hn9, h1, h2, h3, h4, -, h5, h6, -⟩ := Cond.codeWith_spec (atoms_spec (ws := ws) h _ (by rw [hw]; exact List.mem_cons_self))
    cases hn.symm.trans hn9
    exact ⟨meth, c, h1, h2, h3, h4, h5, h6⟩
  · intro p e s m args below meth c s₁ B hml hP _
    have hh0 : s₁.heap = s.heap := by rw [B.state]; rfl
    obtain ⟨t, a1, o, b1, b2, b3⟩ := body p e s m args below meth c s₁ B hml hP s₁ hh0 (Stand.of_body B)
    exact ⟨t, o, a1, b1, b2, b3⟩
/-! ===== END ===== -/

/-! ===== BEGIN what the machine throws by itself, no traces kept ===== -/
section VXM
set_option maxHeartbeats 1000000 in
/-- the machine throws cls with the message text, no traces kept: from its note over the frame g to 'throwing' over the same frame (follows the proofs of Stand.vmThrowsMessage, Shelf/KitTracedVmS.lean, and Stand.throwsMessageColdBareV, StandMessageColdV.lean, without the step out of the frame) -/
theorem vx_vmAt {p : Program} {l : Launch} {e : Env} {R : Room} {s : State} {m₀ : MethodId} {args : Array Value} {below : List Frame} {meth : Method} {c : Code} {W : State} {locs : List Loc} {cells slots : Nat}
    (X : Stand p l e R s m₀ args below meth c W locs cells slots) (hexec : p.tables.exec = Jvm.exec) (htr : e.platform.stackTraces = false) {cls : String} {names : List String} {text : String}
    (hcls : Bundle.fit cls = true) (hnames : ∀ n ∈ names, Bundle.fit n = true) (hsoe : (cls == "java/lang/StackOverflowError") = false) (hoom : (cls == "java/lang/OutOfMemoryError") = false)
    (h : ∀ a ∈ Bundle.messageArmAtoms cls names, a.before args s = true)
    (hlocs : ∀ x ∈ locs, ∀ cell, s.heap[x.base]? = some cell → cell.vm.isStatics = false)
    (htext : (text == notModelled) = false) (hlimit : ¬ (stringBytes (stringToUtf16 text)).size > e.platform.arrayLengthLimit) (hheap : ¬ (stringBytes (stringToUtf16 text)).size * componentBytes .byte > e.platform.maxHeapBytes)
    {g : JFrame} (hg : g.method = m₀) (hsize : g.locals.size = c.maxLocals)
    (hRframes : names.length + 4 < R.frames) (hRlocals : 2 * g.monitorRoom + (g.stack.map fun v => v.category).sum + 10240 ≤ R.locals) (hshort : 13 * names.length + 55 ≤ 10240)
    (hRcells : cells + 3 ≤ R.cells) (hRslots : slots + ((stringBytes (stringToUtf16 text)).size + 4 + 6) ≤ R.slots) (hlocks : meth.locks = false) :
    ∃ (S : State) (q : Addr) (ce : Cell), (∀ target, Steps p.tables e below ((S.setTop g).pushFrame (.throwing q)) target → Steps p.tables e below ((W.setTop g).pushFrame (.throwNew cls (some text) none)) target) ∧
      Stand p l e R s m₀ args below meth c S locs (cells + 3) (slots + ((stringBytes (stringToUtf16 text)).size + 4 + 6)) ∧ S.heap[q]? = some ce ∧ s.vm.findClass cls = some ce.cls ∧ ce.vm = .none := by
  have howns : e.platform.frameOwnsMonitors = true := by rw [X.admits.platform]
  have hfin : e.platform.finalization = false := by rw [X.admits.platform]
  have hpl : e.platform.magicAccessors = ({} : Platform).magicAccessors := by rw [X.admits.platform]
  have a : ∀ x, x ∈ Bundle.messageArmAtoms cls names → x.holds args s none s [] = true := fun x hx => h x hx
  obtain ⟨T, Z0, L, -, Y⟩ := ThrowableC.of_atoms (args := args) howns hfin hpl (fun x hx => h x (by simp [Bundle.messageArmAtoms, hx]))
  obtain ⟨Z, M, LZ, LM, hnZ⟩ := Init0T.ofS_atoms (args := args) hpl L Y (fun x hx => h x (by simp [Bundle.messageArmAtoms, hx]))
  obtain ⟨P1, Ps, hlen, L1, hL, hP1m, hlink1, hlink⟩ := Bundle.chainS (args := args) hpl hnZ names cls hcls hnames (fun x hx => h x (by simp [Bundle.messageArmAtoms, hx]))
  obtain ⟨Zs, LZs, hn4, hfitv, hfitc⟩ := StringT.of_atoms (args := args) (fun x hx => h x (by simp [Bundle.messageArmAtoms, hx]))
  have hfound : s.vm.findClass cls = some P1.m.cls := findClass_of_methodNamed hP1m
  obtain ⟨c1, kX, hc1, hk, hord, -, -, hn6⟩ := Cond.instantiable_spec (a (.instantiable cls 6) (by simp [Bundle.messageArmAtoms]))
  cases Option.some.inj (hc1.symm.trans hfound)
  have hinit := Cond.initialized_spec hfound hk (a (.initialized cls) (by simp [Bundle.messageArmAtoms]))
  have hctor : kX.findMethod "<init>" "(Ljava/lang/String;)V" = some P1.m.idx := findMethod_of_methodNamed hP1m hk
  have hsel0 : selectMethod e.platform s.vm P1.m.cls T.fill0 = .method T.fill0 := by
    obtain ⟨c2, r2, m2, q1, q2, q3, q4, -⟩ := Cond.selects_spec (a (.selects cls Bundle.tFill0 Bundle.tFill0) (by simp [Bundle.messageArmAtoms]))
    cases Option.some.inj (q1.symm.trans hfound)
    cases Option.some.inj (q2.symm.trans (State.methodFound?_of_named Y.fill0 (by decide)))
    cases Option.some.inj (q3.symm.trans Y.fill0)
    rw [Launch.admits_selectMethod X.admits]; exact q4
  have hselF : selectMethod e.platform s.vm P1.m.cls T.fill = .method T.fill := by
    obtain ⟨c2, r2, m2, q1, q2, q3, q4, -⟩ := Cond.selects_spec (a (.selects cls Bundle.tFill Bundle.tFill) (by simp [Bundle.messageArmAtoms]))
    cases Option.some.inj (q1.symm.trans hfound)
    cases Option.some.inj (q2.symm.trans (State.methodFound?_of_named Y.fill (by decide)))
    cases Option.some.inj (q3.symm.trans Y.fill)
    rw [Launch.admits_selectMethod X.admits]; exact q4
  obtain ⟨cellS0, hcS0, hiss⟩ := Y.statics
  obtain ⟨u0, hu0⟩ := Cond.staticRefV Y.unassigned L.unassignedStatic L.statics hcS0 hiss (a (.isRef (.static Bundle.tN "UNASSIGNED_STACK" Bundle.steD)) (by simp [Bundle.messageArmAtoms]))
  obtain ⟨sen, hsen⟩ := Cond.staticRefV Y.sentinel L.sentinelStatic L.statics hcS0 hiss (a (.isRef (.static Bundle.tN "SUPPRESSED_SENTINEL" Bundle.listD)) (by simp [Bundle.messageArmAtoms]))
  obtain ⟨ci198, i198, fB, hk198, hg198, ha198, hsB, -, hnB, htB, hffB⟩ := Cond.ownField (t := .object "java/lang/Object") Y.found L.cls (by decide +kernel) (a (.fieldLink Bundle.tN 198 Bundle.tN "backtrace" "Ljava/lang/Object;") (by simp [Bundle.messageArmAtoms])) (a (.lays Bundle.tN Bundle.tN "backtrace" "Ljava/lang/Object;") (by simp [Bundle.messageArmAtoms])) e.platform hpl
  obtain ⟨cellS, hcS', heS, -, hkeep⟩ := X.same.2.2.2.2.2 T.aS cellS0 hcS0
  have hcellS : W.heap[T.aS]? = some cellS := hcS'
  have hout' : ∀ i, (⟨T.aS, i⟩ : Loc) ∉ locs := fun i hmem => by
    have := hlocs _ hmem cellS0 hcS0
    rw [hiss] at this; cases this
  have hknownS : cellS.vm ≠ .unknown := by
    rw [heS]; intro hu
    rw [show cellS0.vm = .unknown from hu] at hiss
    cases hiss
  have hvU : cellS.slots[T.fUnassigned.slot]? = some u0.v := by rw [hkeep _ (hout' _)]; exact hu0
  have hvSen : cellS.slots[T.fSentinel.slot]? = some sen.v := by rw [hkeep _ (hout' _)]; exact hsen
  obtain ⟨iM, hffM⟩ := Y.msg
  obtain ⟨tyC, dC, hdC, hdnC⟩ := Cond.laysAt hfound hk Y.cause (a (.lays cls Bundle.tN "cause" "Ljava/lang/Throwable;") (by simp [Bundle.messageArmAtoms]))
  obtain ⟨tyS, dS, hdS, hdnS⟩ := Cond.laysAt hfound hk Y.stack (a (.lays cls Bundle.tN "stackTrace" Bundle.steD) (by simp [Bundle.messageArmAtoms]))
  obtain ⟨tyP, dP, hdP, hdnP⟩ := Cond.laysAt hfound hk Y.supp (a (.lays cls Bundle.tN "suppressedExceptions" Bundle.listD) (by simp [Bundle.messageArmAtoms]))
  obtain ⟨tyM, dM, hdM, hdnM⟩ := Cond.laysAt hfound hk hffM (a (.lays cls Bundle.tN "detailMessage" "Ljava/lang/String;") (by simp [Bundle.messageArmAtoms]))
  obtain ⟨tyB, dB, hdB, hdnB⟩ := Cond.laysAt hfound hk hffB (a (.lays cls Bundle.tN "backtrace" "Ljava/lang/Object;") (by simp [Bundle.messageArmAtoms]))
  have bC := Cond.laysApart hdB hdC hdnB hdnC (by rw [hnB, Y.causeName]; decide)
  have bS := Cond.laysApart hdB hdS hdnB hdnS (by rw [hnB, Y.stackName]; decide)
  have bP := Cond.laysApart hdB hdP hdnB hdnP (by rw [hnB, Y.suppName]; decide)
  have hbk : ((preparedCellV T.toThrowableT (freshCell P1.m.cls kX) (W.heap.size + 2) u0 sen).withEntry W.cur).slots[fB.slot]? = some .null := by
    have := fresh_default (c := P1.m.cls) tyB
    rw [htB] at this
    simpa [preparedCellV, Cell.setSlot, Cell.withEntry, Array.getElem?_setIfInBounds, bC, bS, bP, bC.symm, bS.symm, bP.symm, defaultValue] using this
  have tkC := Takes.of_laid (v := .ref (W.heap.size + 2)) hk hord tyC (by rw [Y.causeType]; rfl)
  have tkS := Takes.of_laid (v := u0.v) hk hord tyS (by rw [Y.stackType]; exact fits_refV_array _ u0)
  have tkP := Takes.of_laid (v := sen.v) hk hord tyP (by rw [Y.suppType]; exact fits_refV_object _ sen)
  have tkM := Takes.of_laid (v := .ref (W.heap.size + 1)) hk hord tyM (by rw [Y.msgType]; rfl)
  have hskip : SkipFacts T e.platform s (fun u => u) u0 ((preparedCellV T.toThrowableT (freshCell P1.m.cls kX) (W.heap.size + 2) u0 sen).withEntry W.cur) := ⟨{ ci198 := ci198, i198 := i198, fBack := fB }, ⟨hk198, hg198, ha198, hsB⟩, hbk, fun _ _ => rfl⟩
  have h0 : At W g.method c below := by rw [hg]; exact X.here
  obtain ⟨hbeyond, hfreeW⟩ := X.vmMayThrow hsize (.throwNew cls (some text) none) (fun f hf => by cases hf) rfl hRlocals
  have hfr' : W.frames.length + Ps.length + 4 < (e.platform.stackLimits W.me).1 := by have := X.framesAbove hRframes; omega
  have hwd' : (stackUse (.java g :: W.frames.tail)).2 + 13 * Ps.length + 55 ≤ (e.platform.stackLimits W.me).2 := by have := X.stackAbove hsize (K := 13 * Ps.length + 55) (by omega); omega
  have hslots : W.slotsUsed + (stringBytes (stringToUtf16 text)).size + Zs.kS.instanceTypes.size + kX.instanceTypes.size ≤ e.platform.maxSlots := by
    have := X.slotsAbove hRslots
    rw [hn4, hn6]
    omega
  obtain ⟨vm', hW', st⟩ := Steps.vmThrowsMessageColdByV p (s₀ := s) (S := W) (g := g) h0 hexec T L Z LZ M LM X.warmed (t := W.cur) rfl Zs LZs P1 L1 Ps hL hlink1 hlink hsoe hoom hfound hk hinit hord hctor
    (Launch.admits_hotImplicitExceptions X.admits) hbeyond hfreeW htext hlimit hheap (X.cellsAbove hRcells) hslots (hfitv _) (hfitc _)
    (Nn := fun u => u) heapOnly_id (fun _ _ => rfl) (fun _ => rfl) (fun u x y => setCell_twice _ _ _ _) (fun _ => Nat.le_refl _) (cN := ((preparedCellV T.toThrowableT (freshCell P1.m.cls kX) (W.heap.size + 2) u0 sen).withEntry W.cur))
    hsel0 hcellS hknownS hvU tkS (fun _ hu => hu) (fun _ hu => hu) rfl rfl rfl (by simp [preparedCellV, Cell.setSlot, Cell.withEntry]) hskip (fun _ _ hA hW _ hroom _ hrest => L.nativeOff p htr hA hW hroom hrest) hselF hvSen tkC tkP tkM Y.objLocals rfl hfr' hwd'
  rw [plainBareV_eq T.toThrowableT (W.heap.size + 2) u0 sen (.ref (W.heap.size + 1)) W.cur rfl rfl] at st
  obtain ⟨-, -, w3, w4, -, -, -⟩ := withThrown_facts e.platform W Zs text P1.m.cls kX
  have X3 := ((X.pushed (bytesOf Zs.cB (stringToUtf16 text))).pushed (stringAt Zs.cS Zs.kS Zs.fv Zs.fc (stringToUtf16 text) W.heap.size)).pushed (freshCell P1.m.cls kX)
  rw [← withString_eq] at X3
  have X4 := X3.noted hW'
  have ha : (W.heap.size + 2) < ((withThrown W Zs text P1.m.cls kX).setVm vm').heap.size := by show _ < (withThrown W Zs text P1.m.cls kX).heap.size; rw [w3]; omega
  have hcell : ((withThrown W Zs text P1.m.cls kX).setVm vm').heap[(W.heap.size + 2)]? = some (freshCell P1.m.cls kX) := w4
  have X5 := ((((X4.stored hcell T.fCause.slot (.ref (W.heap.size + 2))).storedAgain ha T.fStack.slot u0.v).storedAgain ha T.fSupp.slot sen.v).storedAgain ha T.fStack.slot u0.v).storedAgain ha T.fMsg.slot (.ref (W.heap.size + 1))
  obtain ⟨g₁, hfrM⟩ := X5.frames_eq
  have hU : ((((withThrown W Zs text P1.m.cls kX).setVm vm').setCell (W.heap.size + 2) (plainBareV T.toThrowableT (freshCell P1.m.cls kX) (W.heap.size + 2) u0 sen (.ref (W.heap.size + 1)))).setTop g).pushFrame (.throwing (W.heap.size + 2)) = (((withThrown W Zs text P1.m.cls kX).setVm vm').setCell (W.heap.size + 2) (plainBareV T.toThrowableT (freshCell P1.m.cls kX) (W.heap.size + 2) u0 sen (.ref (W.heap.size + 1)))).setFrames (.throwing (W.heap.size + 2) :: .java g :: below) := by
    rw [State.pushFrame, State.frames_setTop _ hfrM, State.setTop_of_frames _ hfrM, State.setFrames_setFrames]
  have b1 : (bytesOf Zs.cB (stringToUtf16 text)).slots.size = (stringBytes (stringToUtf16 text)).size := by
    rw [(Cell.writeAll_facts _ _).2.2]; simp [bytes0]
  have b2 : (stringAt Zs.cS Zs.kS Zs.fv Zs.fc (stringToUtf16 text) W.heap.size).slots.size = 4 := by simp [string0, Cell.setSlot, hn4]
  have b3 : (freshCell P1.m.cls kX).slots.size = 6 := by simp [hn6]
  rw [b1, b2, b3] at X5
  have e9 : slots + (stringBytes (stringToUtf16 text)).size + 4 + 6 = slots + ((stringBytes (stringToUtf16 text)).size + 4 + 6) := by omega
  rw [e9] at X5
  simp only [List.append_assoc, List.cons_append, List.nil_append] at X5
  refine ⟨((withThrown W Zs text P1.m.cls kX).setVm vm').setCell (W.heap.size + 2) (plainBareV T.toThrowableT (freshCell P1.m.cls kX) (W.heap.size + 2) u0 sen (.ref (W.heap.size + 1))), W.heap.size + 2, _, fun target ht => st _ (by rw [X.tail, ← hU]; exact ht),
    X5.forget (fun y hy => ?_), heapAt_setCell_self _ ha, hfound, rfl⟩
  simp only [List.mem_cons, List.not_mem_nil, or_false] at hy
  have hge : s.heap.size ≤ W.heap.size := X.same.2.1
  rcases hy with rfl | rfl | rfl | rfl | rfl <;> exact Nat.le_trans hge (Nat.le_add_right _ 2)
set_option maxHeartbeats 1000000 in
/-- the machine throws NullPointerException, no traces kept: from its note over the frame g to 'throwing' over the same frame (follows the proof of Stand.vmThrowsNpe, Shelf42/KT2.lean; throwsNpeColdBareVAt, Shelf42/NT91.lean, called) -/
theorem vx_npeAt {p : Program} {l : Launch} {e : Env} {R : Room} {s : State} {m₀ : MethodId} {args : Array Value} {below : List Frame} {meth : Method} {c : Code} {W : State} {locs : List Loc} {cells slots : Nat}
    (X : Stand p l e R s m₀ args below meth c W locs cells slots) (hexec : p.tables.exec = Jvm.exec) (htr : e.platform.stackTraces = false) {n : Nat}
    (h : ∀ a ∈ Bundle.npeArmAtoms n, a.before args s = true)
    (hlocs : ∀ x ∈ locs, ∀ cell, s.heap[x.base]? = some cell → cell.vm.isStatics = false)
    {g : JFrame} (hg : g.method = m₀) (hsize : g.locals.size = c.maxLocals)
    (hRframes : 7 < R.frames) (hRlocals : 2 * g.monitorRoom + (g.stack.map fun v => v.category).sum + 10240 ≤ R.locals)
    (hRcells : cells + 1 ≤ R.cells) (hRslots : slots + n ≤ R.slots) (hlocks : meth.locks = false) :
    ∃ (S : State) (q : Addr) (ce : Cell), (∀ target, Steps p.tables e below ((S.setTop g).pushFrame (.throwing q)) target → Steps p.tables e below ((W.setTop g).pushFrame (.throwNew "java/lang/NullPointerException" none none)) target) ∧
      Stand p l e R s m₀ args below meth c S locs (cells + 1) (slots + n) ∧ S.heap[q]? = some ce ∧ s.vm.findClass "java/lang/NullPointerException" = some ce.cls ∧ ce.vm = .none := by
  have howns : e.platform.frameOwnsMonitors = true := by rw [X.admits.platform]
  have hfin : e.platform.finalization = false := by rw [X.admits.platform]
  have hpl : e.platform.magicAccessors = ({} : Platform).magicAccessors := by rw [X.admits.platform]
  have hpl2 : e.platform.arrayCloneIsPublic = true := by rw [X.admits.platform]
  have a' : ∀ x, x ∈ Bundle.npeArmAtoms n → x.holds args s none s [] = true := fun x hx => h x hx
  obtain ⟨T, Z, L, LZ, Y⟩ := ThrowableC.of_atoms (args := args) howns hfin hpl (fun x hx => h x (by simp [Bundle.npeArmAtoms, hx]))
  obtain ⟨N, LN, hcN, hnNF, hordN, hffS⟩ := NpeC.of_atoms (args := args) hpl hpl2 L Y (fun x hx => h x (by simp [Bundle.npeArmAtoms, hx]))
  obtain ⟨P1, L1, hP1m, hP1s⟩ := PassC.of_atoms (args := args) (s := s) hpl (X := Bundle.nN) (Y := Bundle.rN) (by decide) (by decide) LibCode.NullPointerException.Init0.at_0 LibCode.NullPointerException.Init0.at_1 LibCode.NullPointerException.Init0.at_4 (fun x hx => h x (by simp [Bundle.npeArmAtoms, hx]))
  obtain ⟨PR, LR, hPRm, hPRs⟩ := PassC.of_atoms (args := args) (s := s) hpl (X := Bundle.rN) (Y := Bundle.eN) (by decide) (by decide) LibCode.RuntimeException.Init0.at_0 LibCode.RuntimeException.Init0.at_1 LibCode.RuntimeException.Init0.at_4 (fun x hx => h x (by simp [Bundle.npeArmAtoms, hx]))
  obtain ⟨PE, LEx, hPEm, hPEs⟩ := PassC.of_atoms (args := args) (s := s) hpl (X := Bundle.eN) (Y := Bundle.tN) (by decide) (by decide) LibCode.Exception.Init0.at_0 LibCode.Exception.Init0.at_1 LibCode.Exception.Init0.at_4 (fun x hx => h x (by simp [Bundle.npeArmAtoms, hx]))
  have hfound : s.vm.findClass Bundle.nN = some P1.m.cls := findClass_of_methodNamed hP1m
  have ecls : N.cN = P1.m.cls := Option.some.inj (hcN.symm.trans hfound)
  have hk : s.vm.classes[P1.m.cls]? = some N.kN := by rw [← ecls]; exact LN.cls
  have hinit := Cond.initialized_spec hfound hk (a' (.initialized Bundle.nN) (by simp [Bundle.npeArmAtoms]))
  have hctor : N.kN.findMethod "<init>" "()V" = some P1.m.idx := findMethod_of_methodNamed hP1m hk
  obtain ⟨c1, k1, hc1, hk1, -, -, -, hn⟩ := Cond.instantiable_spec (a' (.instantiable Bundle.nN n) (by simp [Bundle.npeArmAtoms]))
  cases Option.some.inj (hc1.symm.trans hfound)
  cases Option.some.inj (hk1.symm.trans hk)
  have hfsz : (freshCell P1.m.cls N.kN).slots.size = n := by simp [hn]
  have hlink1 : P1.sup = PR.m := Option.some.inj (hP1s.symm.trans hPRm)
  have hlinkR : PR.sup = PE.m := Option.some.inj (hPRs.symm.trans hPEm)
  have hlinkE : PE.sup = Z.m T.toThrowableT := Option.some.inj (hPEs.symm.trans Y.init0)
  have hLs : ∀ P, P ∈ [PR, PE] → P.Links0 e.platform s := fun P hP => by
    simp only [List.mem_cons, List.not_mem_nil, or_false] at hP
    rcases hP with rfl | rfl
    · exact LR
    · exact LEx
  have hsel0 : selectMethod e.platform s.vm P1.m.cls T.fill0 = .method T.fill0 := by
    obtain ⟨c2, r2, m2, q1, q2, q3, q4, -⟩ := Cond.selects_spec (a' (.selects Bundle.nN Bundle.tFill0 Bundle.tFill0) (by simp [Bundle.npeArmAtoms]))
    cases Option.some.inj (q1.symm.trans hfound)
    cases Option.some.inj (q2.symm.trans (State.methodFound?_of_named Y.fill0 (by decide)))
    cases Option.some.inj (q3.symm.trans Y.fill0)
    rw [Launch.admits_selectMethod X.admits]; exact q4
  have hselF : selectMethod e.platform s.vm P1.m.cls T.fill = .method N.fill := by
    obtain ⟨c2, r2, m2, q1, q2, q3, q4, -⟩ := Cond.selects_spec (a' (.selects Bundle.nN Bundle.tFill Bundle.nFill) (by simp [Bundle.npeArmAtoms]))
    cases Option.some.inj (q1.symm.trans hfound)
    cases Option.some.inj (q2.symm.trans (State.methodFound?_of_named Y.fill (by decide)))
    cases Option.some.inj (q3.symm.trans hnNF)
    rw [Launch.admits_selectMethod X.admits]; exact q4
  obtain ⟨cellS0, hcS0, hiss⟩ := Y.statics
  obtain ⟨u0, hu0⟩ := Cond.staticRefV Y.unassigned L.unassignedStatic L.statics hcS0 hiss (a' (.isRef (.static Bundle.tN "UNASSIGNED_STACK" Bundle.steD)) (by simp [Bundle.npeArmAtoms]))
  obtain ⟨sen, hsen⟩ := Cond.staticRefV Y.sentinel L.sentinelStatic L.statics hcS0 hiss (a' (.isRef (.static Bundle.tN "SUPPRESSED_SENTINEL" Bundle.listD)) (by simp [Bundle.npeArmAtoms]))
  obtain ⟨ci198, i198, fB, hk198, hg198, ha198, hsB, -, hnB, htB, hffB⟩ := Cond.ownField (t := .object "java/lang/Object") Y.found L.cls (by decide +kernel) (a' (.fieldLink Bundle.tN 198 Bundle.tN "backtrace" Bundle.objD) (by simp [Bundle.npeArmAtoms])) (a' (.lays Bundle.tN Bundle.tN "backtrace" Bundle.objD) (by simp [Bundle.npeArmAtoms])) e.platform hpl
  obtain ⟨cellS, hcS', heS, -, hkeep⟩ := X.same.2.2.2.2.2 T.aS cellS0 hcS0
  have hcellS : W.heap[T.aS]? = some cellS := hcS'
  have hout' : ∀ i, (⟨T.aS, i⟩ : Loc) ∉ locs := fun i hmem => by
    have := hlocs _ hmem cellS0 hcS0
    rw [hiss] at this; cases this
  have hknownS : cellS.vm ≠ .unknown := by
    rw [heS]; intro hu
    rw [show cellS0.vm = .unknown from hu] at hiss
    cases hiss
  have hvU : cellS.slots[T.fUnassigned.slot]? = some u0.v := by rw [hkeep _ (hout' _)]; exact hu0
  have hvSen : cellS.slots[T.fSentinel.slot]? = some sen.v := by rw [hkeep _ (hout' _)]; exact hsen
  obtain ⟨tyC, dC, hdC, hdnC⟩ := Cond.laysAt hfound hk Y.cause (a' (.lays Bundle.nN Bundle.tN "cause" "Ljava/lang/Throwable;") (by simp [Bundle.npeArmAtoms]))
  obtain ⟨tyS, dS, hdS, hdnS⟩ := Cond.laysAt hfound hk Y.stack (a' (.lays Bundle.nN Bundle.tN "stackTrace" Bundle.steD) (by simp [Bundle.npeArmAtoms]))
  obtain ⟨tyP, dP, hdP, hdnP⟩ := Cond.laysAt hfound hk Y.supp (a' (.lays Bundle.nN Bundle.tN "suppressedExceptions" Bundle.listD) (by simp [Bundle.npeArmAtoms]))
  obtain ⟨tyX, dX, hdX, hdnX⟩ := Cond.laysAt hfound hk hffS (a' (.lays Bundle.nN Bundle.nN "extendedMessageState" "I") (by simp [Bundle.npeArmAtoms, Bundle.npeAtoms]))
  obtain ⟨hnX, htX⟩ := State.fieldFound?_type hffS (t := .int) (by decide +kernel)
  have xC := Cond.laysApart hdC hdX hdnC hdnX (by rw [hnX, Y.causeName]; decide)
  have xS := Cond.laysApart hdS hdX hdnS hdnX (by rw [hnX, Y.stackName]; decide)
  have xP := Cond.laysApart hdP hdX hdnP hdnX (by rw [hnX, Y.suppName]; decide)
  have hv0 : (freshCell P1.m.cls N.kN).slots[N.fState.slot]? = some (.int 0) := by
    have := fresh_default (c := P1.m.cls) tyX
    rw [htX] at this; exact this
  obtain ⟨tyB, dB, hdB, hdnB⟩ := Cond.laysAt hfound hk hffB (a' (.lays Bundle.nN Bundle.tN "backtrace" Bundle.objD) (by simp [Bundle.npeArmAtoms]))
  have bC := Cond.laysApart hdB hdC hdnB hdnC (by rw [hnB, Y.causeName]; decide)
  have bS := Cond.laysApart hdB hdS hdnB hdnS (by rw [hnB, Y.stackName]; decide)
  have bP := Cond.laysApart hdB hdP hdnB hdnP (by rw [hnB, Y.suppName]; decide)
  have bX := Cond.laysApart hdB hdX hdnB hdnX (by rw [hnB, hnX]; decide)
  have hbk : ((npeCell N.toNpeT (preparedCellV T.toThrowableT (freshCell P1.m.cls N.kN) W.heap.size u0 sen) W.cur).withEntry W.cur).slots[fB.slot]? = some .null := by
    have := fresh_default (c := P1.m.cls) tyB
    rw [htB] at this
    simpa [npeCell, preparedCellV, Cell.setSlot, Cell.withEntry, Array.getElem?_setIfInBounds, bC, bS, bP, bX, bC.symm, bS.symm, bP.symm, bX.symm, defaultValue] using this
  have tkC := Takes.of_laid (v := .ref W.heap.size) hk hordN tyC (by rw [Y.causeType]; rfl)
  have tkS := Takes.of_laid (v := u0.v) hk hordN tyS (by rw [Y.stackType]; exact fits_refV_array _ u0)
  have tkP := Takes.of_laid (v := sen.v) hk hordN tyP (by rw [Y.suppType]; exact fits_refV_object _ sen)
  have tkX := Takes.of_laid (v := .int 1) hk hordN tyX (by rw [htX]; rfl)
  have hskip : SkipFacts T e.platform s (fun u => u) u0 ((npeCell N.toNpeT (preparedCellV T.toThrowableT (freshCell P1.m.cls N.kN) W.heap.size u0 sen) W.cur).withEntry W.cur) := ⟨{ ci198 := ci198, i198 := i198, fBack := fB }, ⟨hk198, hg198, ha198, hsB⟩, hbk, fun _ _ => rfl⟩
  obtain ⟨vm', X3, st, -⟩ := X.throwsNpeColdBareVAt hexec hg hsize T L Z LZ N LN P1 L1 [PR, PE] hLs hlink1 ⟨hlinkR, hlinkE, trivial⟩ hfound hk hinit hordN hctor hsel0 hselF hcellS hknownS hvU hvSen
    hv0 xC xS xP tkC tkS tkP tkX Y.objLocals hskip (fun _ _ hA hW _ hroom _ hrest => L.nativeOff p htr hA hW hroom hrest) (by simpa using hRframes) hRlocals (by simp) hRcells (by rw [hn]; exact hRslots)
  have hlt : W.heap.size < ((W.pushCell (freshCell P1.m.cls N.kN)).setVm vm').heap.size := by
    show W.heap.size < (W.pushCell (freshCell P1.m.cls N.kN)).heap.size
    rw [State.heap_size_pushCell]; omega
  rw [hfsz] at X3
  obtain ⟨g₁, hfrM⟩ := X3.frames_eq
  have hU : ((((W.pushCell (freshCell P1.m.cls N.kN)).setVm vm').setCell W.heap.size (npeBareV T.toThrowableT N.toNpeT (freshCell P1.m.cls N.kN) W.heap.size u0 sen)).setTop g).pushFrame (.throwing W.heap.size) = (((W.pushCell (freshCell P1.m.cls N.kN)).setVm vm').setCell W.heap.size (npeBareV T.toThrowableT N.toNpeT (freshCell P1.m.cls N.kN) W.heap.size u0 sen)).setFrames (.throwing W.heap.size :: .java g :: below) := by
    rw [State.pushFrame, State.frames_setTop _ hfrM, State.setTop_of_frames _ hfrM, State.setFrames_setFrames]
  refine ⟨_, W.heap.size, _, fun target ht => st.trans (by rw [← hU]; exact ht), X3.forget (fun y hy => ?_), heapAt_setCell_self _ hlt, hfound, rfl⟩
  simp only [List.mem_cons, List.not_mem_nil, or_false] at hy
  have hge : s.heap.size ≤ W.heap.size := X.same.2.1
  rcases hy with rfl | rfl | rfl | rfl | rfl <;> exact hge
/-- the words of a machine's NullPointerException, but the four that speak of the heap -/
def vx_atN (n : Nat) : List Cond := (Bundle.npeArmAtoms n).filter vx_no
/-- the words of a machine's throw with a message, but the four that speak of the heap -/
def vx_atM (X : String) (names : List String) : List Cond := (Bundle.messageArmAtoms X names).filter vx_no
section
variable {p : Program} {l : Launch} {e : Env} {R : Room} {s : State} {m : MethodId} {args : Array Value} {below : List Frame} {meth : Method} {c : Code} {H : Heap} {locs : List Loc} {cells slots : Nat}
/-- a frame seen from a rebased start, seen from the first start again -/
theorem vx_back9 {T S : State} {R' : Room} {k n : Nat} (X : Stand p l e R s m args below meth c T locs cells slots) (Y : Stand p l e R' ((T.setVm s.vm).setFrames (.invoking m args :: below)) m args below meth c T [] 0 0) (Z : Stand p l e R' ((T.setVm s.vm).setFrames (.invoking m args :: below)) m args below meth c S [] k n) :
    Stand p l e R s m args below meth c S locs (cells + k) (slots + n) := by
  have hW0 : s.WarmedH ((T.setVm s.vm).setFrames (.invoking m args :: below)).vm := State.WarmedH.refl s
  refine { admits := X.admits, cas := X.cas, clock := X.clock, frames := X.frames, room := X.room, hears := X.hears, method := X.method, code := X.code, here := Z.here, tail := Z.tail, warmed := State.WarmedH.trans hW0 Z.warmed, limits := Z.limits.trans (Y.limits.symm.trans X.limits), bytes := Z.bytes.trans (Y.bytes.symm.trans X.bytes), same := ?_ }
  obtain ⟨e1, e2⟩ := Z.same
  rw [State.setFrames_setFrames] at e1
  have h2 : (T.setVm s.vm).sameButNew (S.setVm s.vm) [] k n := ⟨e1, e2⟩
  have h3 := X.same.trans h2
  rw [List.append_nil] at h3
  exact h3
/-- from the machine's note that E is thrown here with this text -/
def vx_Note (p : Program) (l : Launch) (e : Env) (R : Room) (s : State) (m : MethodId) (args : Array Value) (below : List Frame) (meth : Method) (c : Code) (H : Heap) (locs : List Loc) (cells slots : Nat) (Q : State → Prop) (g : JFrame) (E text : String) : Prop :=
  ∀ T : State, T.heap = H → Stand p l e R s m args below meth c T locs cells slots → ∃ t, Steps p.tables e below ((T.setTop g).pushFrame (.throwNew E (some text) none)) t ∧ Q t
theorem vx_vm {pc : Nat} {ls : Array Slot} {rest : List Value} {Q : State → Prop} (hexec : p.tables.exec = Jvm.exec) (hl : l.stackTraces = false) {cls text : String} {names : List String} {nb : Nat} {A : Nat → Prop}
    (hcls : Bundle.fit cls = true) (hnames : ∀ n ∈ names, Bundle.fit n = true) (hsoe : (cls == "java/lang/StackOverflowError") = false) (hoom : (cls == "java/lang/OutOfMemoryError") = false)
    (hat : ∀ w ∈ vx_atM cls names, w.before args s = true) (hgood : ∀ w ∈ vx_atM cls names, vx_ot w = true)
    (hU : vx_Zq Bundle.tN "UNASSIGNED_STACK" Bundle.steD A s s.heap) (hN : vx_Zq Bundle.tN "SUPPRESSED_SENTINEL" Bundle.listD A s s.heap) (hS : va_S A s.heap H locs) (hsize : ls.size = c.maxLocals)
    (htext : (text == notModelled) = false) (hnb : (stringBytes (stringToUtf16 text)).size ≤ nb) (hnb1 : nb ≤ 1000)
    (hRframes : names.length + 4 < R.frames) (hRlocals : (rest.map fun v => v.category).sum + 10240 ≤ R.locals) (hshort : 13 * names.length + 55 ≤ 10240) (hRcells : cells + 3 ≤ R.cells) (hRslots : slots + (nb + 10) ≤ R.slots) (hlocks : meth.locks = false)
    (k : ∀ (H1 : Heap) (q9 : Addr) (ce : Cell), H.size ≤ H1.size → (∀ q : Nat, q < H.size → H1[q]? = H[q]?) → va_S A s.heap H1 locs → H1[q9]? = some ce → ce.vm = .none → s.vm.findClass cls = some ce.cls → vx_W p l e R s m args below meth c H1 locs (cells + 3) (slots + (nb + 10)) Q (F0 m pc ls rest) q9) :
    vx_Note p l e R s m args below meth c H locs cells slots Q (F0 m pc ls rest) cls text := by
  intro T hT X
  have htr : e.platform.stackTraces = false := (show e.platform.stackTraces = l.stackTraces by rw [X.admits.platform]).trans hl
  have Y := vx_rebase X (R' := { frames := R.frames, locals := R.locals, cells := 3, slots := nb + 10 }) (Nat.le_refl _) (Nat.le_refl _) hRcells hRslots
  have hhp : ((T.setVm s.vm).setFrames (.invoking m args :: below)).heap = H := hT
  have hW0 : s.WarmedH ((T.setVm s.vm).setFrames (.invoking m args :: below)).vm := State.WarmedH.refl s
  have hat' : ∀ w ∈ vx_atM cls names, w.before args ((T.setVm s.vm).setFrames (.invoking m args :: below)) = true := fun w hw => vx_ot_at hW0 rfl (hgood w hw) (hat w hw)
  have hU' : vx_Zq Bundle.tN "UNASSIGNED_STACK" Bundle.steD A ((T.setVm s.vm).setFrames (.invoking m args :: below)) ((T.setVm s.vm).setFrames (.invoking m args :: below)).heap := by rw [hhp]; exact vx_Zq.moved hW0.alike (hU.kept hS.2.1)
  have hN' : vx_Zq Bundle.tN "SUPPRESSED_SENTINEL" Bundle.listD A ((T.setVm s.vm).setFrames (.invoking m args :: below)) ((T.setVm s.vm).setFrames (.invoking m args :: below)).heap := by rw [hhp]; exact vx_Zq.moved hW0.alike (hN.kept hS.2.1)
  obtain ⟨S, q, ce, st, Z, hce, hcl', hv⟩ := vx_vmAt Y hexec htr (cls := cls) (names := names) (text := text) hcls hnames hsoe hoom (vx_own hat' (vx_isRefq hU'.1) (vx_isRefq hN'.1) hU'.2.word hN'.2.word) (fun x hx => nomatch hx) htext
    (by rw [Launch.admits_arrayLengthLimit X.admits]; omega) (by rw [Launch.admits_maxHeapBytes X.admits]; simp only [componentBytes]; omega)
    (g := F0 m pc ls rest) rfl hsize hRframes (by show 2 * 0 + (rest.map fun v => v.category).sum + 10240 ≤ R.locals; omega) hshort (by show 0 + 3 ≤ 3; omega) (by show 0 + (_ + 4 + 6) ≤ nb + 10; omega) hlocks
  obtain ⟨f1, f2⟩ := vx_frame Z.same
  have f1' : H.size ≤ S.heap.size := by rw [← hT]; exact f1
  have f2' : ∀ q : Nat, q < H.size → S.heap[q]? = H[q]? := fun q hq => by
    rw [← hT]
    exact f2 q (by rw [← hT] at hq; exact hq) (fun z hz => nomatch hz)
  have X5 := vx_back9 X Y Z
  have X6 : Stand p l e R s m args below meth c S locs (cells + 3) (slots + (nb + 10)) := { X5 with same := X5.same.mono (by omega) (by omega) }
  obtain ⟨t, a1, b1⟩ := k S.heap q ce f1' f2' ⟨Nat.le_trans hS.1 f1', fun q h1 h2 => (f2' q (Nat.lt_of_lt_of_le h1 hS.1)).trans (hS.2.1 q h1 h2), hS.2.2⟩ hce hv hcl' S rfl X6
  exact ⟨t, st t a1, b1⟩
/-- from the machine's note that NullPointerException is thrown here -/
def vx_NoteN (p : Program) (l : Launch) (e : Env) (R : Room) (s : State) (m : MethodId) (args : Array Value) (below : List Frame) (meth : Method) (c : Code) (H : Heap) (locs : List Loc) (cells slots : Nat) (Q : State → Prop) (g : JFrame) : Prop :=
  ∀ T : State, T.heap = H → Stand p l e R s m args below meth c T locs cells slots → ∃ t, Steps p.tables e below ((T.setTop g).pushFrame (.throwNew "java/lang/NullPointerException" none none)) t ∧ Q t
theorem vx_npe {pc : Nat} {ls : Array Slot} {rest : List Value} {Q : State → Prop} (hexec : p.tables.exec = Jvm.exec) (hl : l.stackTraces = false) {nb : Nat} {A : Nat → Prop}
    (hat : ∀ w ∈ vx_atN nb, w.before args s = true) (hgood : ∀ w ∈ vx_atN nb, vx_ot w = true)
    (hU : vx_Zq Bundle.tN "UNASSIGNED_STACK" Bundle.steD A s s.heap) (hN : vx_Zq Bundle.tN "SUPPRESSED_SENTINEL" Bundle.listD A s s.heap) (hS : va_S A s.heap H locs) (hsize : ls.size = c.maxLocals)
    (hRframes : 7 < R.frames) (hRlocals : (rest.map fun v => v.category).sum + 10240 ≤ R.locals) (hRcells : cells + 1 ≤ R.cells) (hRslots : slots + nb ≤ R.slots) (hlocks : meth.locks = false)
    (k : ∀ (H1 : Heap) (q9 : Addr) (ce : Cell), H.size ≤ H1.size → (∀ q : Nat, q < H.size → H1[q]? = H[q]?) → va_S A s.heap H1 locs → H1[q9]? = some ce → ce.vm = .none → s.vm.findClass "java/lang/NullPointerException" = some ce.cls → vx_W p l e R s m args below meth c H1 locs (cells + 1) (slots + nb) Q (F0 m pc ls rest) q9) :
    vx_NoteN p l e R s m args below meth c H locs cells slots Q (F0 m pc ls rest) := by
  intro T hT X
  have htr : e.platform.stackTraces = false := (show e.platform.stackTraces = l.stackTraces by rw [X.admits.platform]).trans hl
  have Y := vx_rebase X (R' := { frames := R.frames, locals := R.locals, cells := 1, slots := nb }) (Nat.le_refl _) (Nat.le_refl _) hRcells hRslots
  have hhp : ((T.setVm s.vm).setFrames (.invoking m args :: below)).heap = H := hT
  have hW0 : s.WarmedH ((T.setVm s.vm).setFrames (.invoking m args :: below)).vm := State.WarmedH.refl s
  have hat' : ∀ w ∈ vx_atN nb, w.before args ((T.setVm s.vm).setFrames (.invoking m args :: below)) = true := fun w hw => vx_ot_at hW0 rfl (hgood w hw) (hat w hw)
  have hU' : vx_Zq Bundle.tN "UNASSIGNED_STACK" Bundle.steD A ((T.setVm s.vm).setFrames (.invoking m args :: below)) ((T.setVm s.vm).setFrames (.invoking m args :: below)).heap := by rw [hhp]; exact vx_Zq.moved hW0.alike (hU.kept hS.2.1)
  have hN' : vx_Zq Bundle.tN "SUPPRESSED_SENTINEL" Bundle.listD A ((T.setVm s.vm).setFrames (.invoking m args :: below)) ((T.setVm s.vm).setFrames (.invoking m args :: below)).heap := by rw [hhp]; exact vx_Zq.moved hW0.alike (hN.kept hS.2.1)
  obtain ⟨S, q, ce, st, Z, hce, hcl', hv⟩ := vx_npeAt Y hexec htr (n := nb) (vx_own hat' (vx_isRefq hU'.1) (vx_isRefq hN'.1) hU'.2.word hN'.2.word) (fun x hx => nomatch hx)
    (g := F0 m pc ls rest) rfl hsize hRframes (by show 2 * 0 + (rest.map fun v => v.category).sum + 10240 ≤ R.locals; omega) (by show 0 + 1 ≤ 1; omega) (by show 0 + nb ≤ nb; omega) hlocks
  obtain ⟨f1, f2⟩ := vx_frame Z.same
  have f1' : H.size ≤ S.heap.size := by rw [← hT]; exact f1
  have f2' : ∀ q : Nat, q < H.size → S.heap[q]? = H[q]? := fun q hq => by
    rw [← hT]
    exact f2 q (by rw [← hT] at hq; exact hq) (fun z hz => nomatch hz)
  have X5 := vx_back9 X Y Z
  have X6 : Stand p l e R s m args below meth c S locs (cells + 1) (slots + nb) := { X5 with same := X5.same.mono (by omega) (by omega) }
  obtain ⟨t, a1, b1⟩ := k S.heap q ce f1' f2' ⟨Nat.le_trans hS.1 f1', fun q h1 h2 => (f2' q (Nat.lt_of_lt_of_le h1 hS.1)).trans (hS.2.1 q h1 h2), hS.2.2⟩ hce hv hcl' S rfl X6
  exact ⟨t, st t a1, b1⟩
variable {Q : State → Prop} {cc : ByteArray} {pc : Nat} {ls : Array Slot} {rest : List Value}
theorem vx_idivZ (hexec : p.tables.exec = Jvm.exec) (hb : c.code = cc) {a b : Int32} (h0 : b = 0) (d : decode cc pc = .ok (.idiv, 1)) (k : vx_Note p l e R s m args below meth c H locs cells slots Q (F0 m pc ls rest) "java/lang/ArithmeticException" "/ by zero") :
    W p l e R s m args below meth c H locs cells slots Q (F0 m pc ls (.int b :: .int a :: rest)) := by
  intro T hT X
  obtain ⟨t, st, q⟩ := k T hT X
  exact ⟨t, X.idivZero hexec (g := F0 m pc ls (.int b :: .int a :: rest)) rfl (a := a) (rest := rest) (by rw [h0]) (by rw [hb]; exact d) t st, q⟩
theorem vx_iremZ (hexec : p.tables.exec = Jvm.exec) (hb : c.code = cc) {a b : Int32} (h0 : b = 0) (d : decode cc pc = .ok (.irem, 1)) (k : vx_Note p l e R s m args below meth c H locs cells slots Q (F0 m pc ls rest) "java/lang/ArithmeticException" "/ by zero") :
    W p l e R s m args below meth c H locs cells slots Q (F0 m pc ls (.int b :: .int a :: rest)) := by
  intro T hT X
  obtain ⟨t, st, q⟩ := k T hT X
  exact ⟨t, X.iremZero hexec (g := F0 m pc ls (.int b :: .int a :: rest)) rfl (a := a) (rest := rest) (by rw [h0]) (by rw [hb]; exact d) t st, q⟩
theorem vx_ldivZ (hexec : p.tables.exec = Jvm.exec) (hb : c.code = cc) {a b : Int64} (h0 : b = 0) (d : decode cc pc = .ok (.ldiv, 1)) (k : vx_Note p l e R s m args below meth c H locs cells slots Q (F0 m pc ls rest) "java/lang/ArithmeticException" "/ by zero") :
    W p l e R s m args below meth c H locs cells slots Q (F0 m pc ls (.long b :: .long a :: rest)) := by
  intro T hT X
  obtain ⟨t, st, q⟩ := k T hT X
  exact ⟨t, X.ldivZero hexec (g := F0 m pc ls (.long b :: .long a :: rest)) rfl (a := a) (rest := rest) (by rw [h0]) (by rw [hb]; exact d) t st, q⟩
theorem vx_lremZ (hexec : p.tables.exec = Jvm.exec) (hb : c.code = cc) {a b : Int64} (h0 : b = 0) (d : decode cc pc = .ok (.lrem, 1)) (k : vx_Note p l e R s m args below meth c H locs cells slots Q (F0 m pc ls rest) "java/lang/ArithmeticException" "/ by zero") :
    W p l e R s m args below meth c H locs cells slots Q (F0 m pc ls (.long b :: .long a :: rest)) := by
  intro T hT X
  obtain ⟨t, st, q⟩ := k T hT X
  exact ⟨t, X.lremZero hexec (g := F0 m pc ls (.long b :: .long a :: rest)) rfl (a := a) (rest := rest) (by rw [h0]) (by rw [hb]; exact d) t st, q⟩
theorem vx_ialdZ {D : va_G} {cl : List vw_C} {ws : va_W} {tys : List (ClassId × FieldType)} {a : Nat} (hexec : p.tables.exec = Jvm.exec) (hb : c.code = cc) (hK : va_K D cl tys s) (hP : va_P D cl ws H) (q0 t0 : Nat) {cA : ClassId} {n : Nat} {f : Nat → Int32} (ha : ws[q0]? = some (a, .inl (cA, n, .inl f))) (ht : tys[t0]? = some (cA, .int)) {i : Int32} (hout : ¬ vp_in i n) (hdg : decode cc pc = .ok (.iaload, 1))
    (k : ∀ tx : String, tx = (toString "Index " ++ toString i ++ toString " out of bounds for length " ++ toString n : String) → vx_Note p l e R s m args below meth c H locs cells slots Q (F0 m pc ls rest) "java/lang/ArrayIndexOutOfBoundsException" tx) : W p l e R s m args below meth c H locs cells slots Q (F0 m pc ls (.int i :: .ref a :: rest)) := by
  intro T hT X
  obtain ⟨t, st, q⟩ := k _ rfl T hT X
  refine ⟨t, ?_, q⟩
  have h1 := X.ialoadOut hexec (by rw [hT]; exact hP q0 _ ha) ((hK.2 t0 _ ht).1 n (fun j => .int (f j))) (j := i) (by show (i < 0 ∨ (arrV _ _ _).slots.size ≤ _); rw [arrV_size]; exact Classical.byContradiction hout) (g := F0 m pc ls (.int i :: .ref a :: rest)) rfl (rest := rest) rfl (by rw [hb]; exact hdg) t
  simp only [arrV_size] at h1
  exact h1 st
theorem vx_iastZ {D : va_G} {cl : List vw_C} {ws : va_W} {tys : List (ClassId × FieldType)} {a : Nat} (hexec : p.tables.exec = Jvm.exec) (hb : c.code = cc) (hK : va_K D cl tys s) (hP : va_P D cl ws H) (q0 t0 : Nat) {cA : ClassId} {n : Nat} {f : Nat → Int32} (ha : ws[q0]? = some (a, .inl (cA, n, .inl f))) (ht : tys[t0]? = some (cA, .int)) {i : Int32} {x : Int32} (hout : ¬ vp_in i n) (hdg : decode cc pc = .ok (.iastore, 1))
    (k : ∀ tx : String, tx = (toString "Index " ++ toString i ++ toString " out of bounds for length " ++ toString n : String) → vx_Note p l e R s m args below meth c H locs cells slots Q (F0 m pc ls rest) "java/lang/ArrayIndexOutOfBoundsException" tx) : W p l e R s m args below meth c H locs cells slots Q (F0 m pc ls (.int x :: .int i :: .ref a :: rest)) := by
  intro T hT X
  obtain ⟨t, st, q⟩ := k _ rfl T hT X
  refine ⟨t, ?_, q⟩
  have h1 := X.iastoreOut hexec (by rw [hT]; exact hP q0 _ ha) ((hK.2 t0 _ ht).1 n (fun j => .int (f j))) (j := i) (by show (i < 0 ∨ (arrV _ _ _).slots.size ≤ _); rw [arrV_size]; exact Classical.byContradiction hout) (g := F0 m pc ls (.int x :: .int i :: .ref a :: rest)) rfl (rest := rest) rfl (by rw [hb]; exact hdg) t
  simp only [arrV_size] at h1
  exact h1 st
theorem vx_baldZ {D : va_G} {cl : List vw_C} {ws : va_W} {tys : List (ClassId × FieldType)} {a : Nat} (hexec : p.tables.exec = Jvm.exec) (hb : c.code = cc) (hK : va_K D cl tys s) (hP : va_P D cl ws H) (q0 t0 : Nat) {cA : ClassId} {n : Nat} {f : Nat → Int32} (ha : ws[q0]? = some (a, .inl (cA, n, .inl f))) (ht : tys[t0]? = some (cA, .byte)) {i : Int32} (hout : ¬ vp_in i n) (hdg : decode cc pc = .ok (.baload, 1))
    (k : ∀ tx : String, tx = (toString "Index " ++ toString i ++ toString " out of bounds for length " ++ toString n : String) → vx_Note p l e R s m args below meth c H locs cells slots Q (F0 m pc ls rest) "java/lang/ArrayIndexOutOfBoundsException" tx) : W p l e R s m args below meth c H locs cells slots Q (F0 m pc ls (.int i :: .ref a :: rest)) := by
  intro T hT X
  obtain ⟨t, st, q⟩ := k _ rfl T hT X
  refine ⟨t, ?_, q⟩
  have h1 := X.baloadOut hexec (by rw [hT]; exact hP q0 _ ha) ((hK.2 t0 _ ht).1 n (fun j => .int (f j))) (j := i) (by show (i < 0 ∨ (arrV _ _ _).slots.size ≤ _); rw [arrV_size]; exact Classical.byContradiction hout) (g := F0 m pc ls (.int i :: .ref a :: rest)) rfl (rest := rest) rfl (by rw [hb]; exact hdg) t
  simp only [arrV_size] at h1
  exact h1 st
theorem vx_bastZ {D : va_G} {cl : List vw_C} {ws : va_W} {tys : List (ClassId × FieldType)} {a : Nat} (hexec : p.tables.exec = Jvm.exec) (hb : c.code = cc) (hK : va_K D cl tys s) (hP : va_P D cl ws H) (q0 t0 : Nat) {cA : ClassId} {n : Nat} {f : Nat → Int32} (ha : ws[q0]? = some (a, .inl (cA, n, .inl f))) (ht : tys[t0]? = some (cA, .byte)) {i : Int32} {x : Int32} (hout : ¬ vp_in i n) (hdg : decode cc pc = .ok (.bastore, 1))
    (k : ∀ tx : String, tx = (toString "Index " ++ toString i ++ toString " out of bounds for length " ++ toString n : String) → vx_Note p l e R s m args below meth c H locs cells slots Q (F0 m pc ls rest) "java/lang/ArrayIndexOutOfBoundsException" tx) : W p l e R s m args below meth c H locs cells slots Q (F0 m pc ls (.int x :: .int i :: .ref a :: rest)) := by
  intro T hT X
  obtain ⟨t, st, q⟩ := k _ rfl T hT X
  refine ⟨t, ?_, q⟩
  have h1 := X.bastoreOut hexec (by rw [hT]; exact hP q0 _ ha) ((hK.2 t0 _ ht).1 n (fun j => .int (f j))) (j := i) (by show (i < 0 ∨ (arrV _ _ _).slots.size ≤ _); rw [arrV_size]; exact Classical.byContradiction hout) (g := F0 m pc ls (.int x :: .int i :: .ref a :: rest)) rfl (rest := rest) rfl (by rw [hb]; exact hdg) t
  simp only [arrV_size] at h1
  exact h1 st
theorem vx_zaldZ {D : va_G} {cl : List vw_C} {ws : va_W} {tys : List (ClassId × FieldType)} {a : Nat} (hexec : p.tables.exec = Jvm.exec) (hb : c.code = cc) (hK : va_K D cl tys s) (hP : va_P D cl ws H) (q0 t0 : Nat) {cA : ClassId} {n : Nat} {f : Nat → Int32} (ha : ws[q0]? = some (a, .inl (cA, n, .inl f))) (ht : tys[t0]? = some (cA, .boolean)) {i : Int32} (hout : ¬ vp_in i n) (hdg : decode cc pc = .ok (.baload, 1))
    (k : ∀ tx : String, tx = (toString "Index " ++ toString i ++ toString " out of bounds for length " ++ toString n : String) → vx_Note p l e R s m args below meth c H locs cells slots Q (F0 m pc ls rest) "java/lang/ArrayIndexOutOfBoundsException" tx) : W p l e R s m args below meth c H locs cells slots Q (F0 m pc ls (.int i :: .ref a :: rest)) := by
  intro T hT X
  obtain ⟨t, st, q⟩ := k _ rfl T hT X
  refine ⟨t, ?_, q⟩
  have h1 := X.baloadOut hexec (by rw [hT]; exact hP q0 _ ha) ((hK.2 t0 _ ht).1 n (fun j => .int (f j))) (j := i) (by show (i < 0 ∨ (arrV _ _ _).slots.size ≤ _); rw [arrV_size]; exact Classical.byContradiction hout) (g := F0 m pc ls (.int i :: .ref a :: rest)) rfl (rest := rest) rfl (by rw [hb]; exact hdg) t
  simp only [arrV_size] at h1
  exact h1 st
theorem vx_zastZ {D : va_G} {cl : List vw_C} {ws : va_W} {tys : List (ClassId × FieldType)} {a : Nat} (hexec : p.tables.exec = Jvm.exec) (hb : c.code = cc) (hK : va_K D cl tys s) (hP : va_P D cl ws H) (q0 t0 : Nat) {cA : ClassId} {n : Nat} {f : Nat → Int32} (ha : ws[q0]? = some (a, .inl (cA, n, .inl f))) (ht : tys[t0]? = some (cA, .boolean)) {i : Int32} {x : Int32} (hout : ¬ vp_in i n) (hdg : decode cc pc = .ok (.bastore, 1))
    (k : ∀ tx : String, tx = (toString "Index " ++ toString i ++ toString " out of bounds for length " ++ toString n : String) → vx_Note p l e R s m args below meth c H locs cells slots Q (F0 m pc ls rest) "java/lang/ArrayIndexOutOfBoundsException" tx) : W p l e R s m args below meth c H locs cells slots Q (F0 m pc ls (.int x :: .int i :: .ref a :: rest)) := by
  intro T hT X
  obtain ⟨t, st, q⟩ := k _ rfl T hT X
  refine ⟨t, ?_, q⟩
  have h1 := X.bastoreOut hexec (by rw [hT]; exact hP q0 _ ha) ((hK.2 t0 _ ht).1 n (fun j => .int (f j))) (j := i) (by show (i < 0 ∨ (arrV _ _ _).slots.size ≤ _); rw [arrV_size]; exact Classical.byContradiction hout) (g := F0 m pc ls (.int x :: .int i :: .ref a :: rest)) rfl (rest := rest) rfl (by rw [hb]; exact hdg) t
  simp only [arrV_size] at h1
  exact h1 st
theorem vx_caldZ {D : va_G} {cl : List vw_C} {ws : va_W} {tys : List (ClassId × FieldType)} {a : Nat} (hexec : p.tables.exec = Jvm.exec) (hb : c.code = cc) (hK : va_K D cl tys s) (hP : va_P D cl ws H) (q0 t0 : Nat) {cA : ClassId} {n : Nat} {f : Nat → Int32} (ha : ws[q0]? = some (a, .inl (cA, n, .inl f))) (ht : tys[t0]? = some (cA, .char)) {i : Int32} (hout : ¬ vp_in i n) (hdg : decode cc pc = .ok (.caload, 1))
    (k : ∀ tx : String, tx = (toString "Index " ++ toString i ++ toString " out of bounds for length " ++ toString n : String) → vx_Note p l e R s m args below meth c H locs cells slots Q (F0 m pc ls rest) "java/lang/ArrayIndexOutOfBoundsException" tx) : W p l e R s m args below meth c H locs cells slots Q (F0 m pc ls (.int i :: .ref a :: rest)) := by
  intro T hT X
  obtain ⟨t, st, q⟩ := k _ rfl T hT X
  refine ⟨t, ?_, q⟩
  have h1 := X.caloadOut hexec (by rw [hT]; exact hP q0 _ ha) ((hK.2 t0 _ ht).1 n (fun j => .int (f j))) (j := i) (by show (i < 0 ∨ (arrV _ _ _).slots.size ≤ _); rw [arrV_size]; exact Classical.byContradiction hout) (g := F0 m pc ls (.int i :: .ref a :: rest)) rfl (rest := rest) rfl (by rw [hb]; exact hdg) t
  simp only [arrV_size] at h1
  exact h1 st
theorem vx_castZ {D : va_G} {cl : List vw_C} {ws : va_W} {tys : List (ClassId × FieldType)} {a : Nat} (hexec : p.tables.exec = Jvm.exec) (hb : c.code = cc) (hK : va_K D cl tys s) (hP : va_P D cl ws H) (q0 t0 : Nat) {cA : ClassId} {n : Nat} {f : Nat → Int32} (ha : ws[q0]? = some (a, .inl (cA, n, .inl f))) (ht : tys[t0]? = some (cA, .char)) {i : Int32} {x : Int32} (hout : ¬ vp_in i n) (hdg : decode cc pc = .ok (.castore, 1))
    (k : ∀ tx : String, tx = (toString "Index " ++ toString i ++ toString " out of bounds for length " ++ toString n : String) → vx_Note p l e R s m args below meth c H locs cells slots Q (F0 m pc ls rest) "java/lang/ArrayIndexOutOfBoundsException" tx) : W p l e R s m args below meth c H locs cells slots Q (F0 m pc ls (.int x :: .int i :: .ref a :: rest)) := by
  intro T hT X
  obtain ⟨t, st, q⟩ := k _ rfl T hT X
  refine ⟨t, ?_, q⟩
  have h1 := X.castoreOut hexec (by rw [hT]; exact hP q0 _ ha) ((hK.2 t0 _ ht).1 n (fun j => .int (f j))) (j := i) (by show (i < 0 ∨ (arrV _ _ _).slots.size ≤ _); rw [arrV_size]; exact Classical.byContradiction hout) (g := F0 m pc ls (.int x :: .int i :: .ref a :: rest)) rfl (rest := rest) rfl (by rw [hb]; exact hdg) t
  simp only [arrV_size] at h1
  exact h1 st
theorem vx_saldZ {D : va_G} {cl : List vw_C} {ws : va_W} {tys : List (ClassId × FieldType)} {a : Nat} (hexec : p.tables.exec = Jvm.exec) (hb : c.code = cc) (hK : va_K D cl tys s) (hP : va_P D cl ws H) (q0 t0 : Nat) {cA : ClassId} {n : Nat} {f : Nat → Int32} (ha : ws[q0]? = some (a, .inl (cA, n, .inl f))) (ht : tys[t0]? = some (cA, .short)) {i : Int32} (hout : ¬ vp_in i n) (hdg : decode cc pc = .ok (.saload, 1))
    (k : ∀ tx : String, tx = (toString "Index " ++ toString i ++ toString " out of bounds for length " ++ toString n : String) → vx_Note p l e R s m args below meth c H locs cells slots Q (F0 m pc ls rest) "java/lang/ArrayIndexOutOfBoundsException" tx) : W p l e R s m args below meth c H locs cells slots Q (F0 m pc ls (.int i :: .ref a :: rest)) := by
  intro T hT X
  obtain ⟨t, st, q⟩ := k _ rfl T hT X
  refine ⟨t, ?_, q⟩
  have h1 := X.saloadOut hexec (by rw [hT]; exact hP q0 _ ha) ((hK.2 t0 _ ht).1 n (fun j => .int (f j))) (j := i) (by show (i < 0 ∨ (arrV _ _ _).slots.size ≤ _); rw [arrV_size]; exact Classical.byContradiction hout) (g := F0 m pc ls (.int i :: .ref a :: rest)) rfl (rest := rest) rfl (by rw [hb]; exact hdg) t
  simp only [arrV_size] at h1
  exact h1 st
theorem vx_sastZ {D : va_G} {cl : List vw_C} {ws : va_W} {tys : List (ClassId × FieldType)} {a : Nat} (hexec : p.tables.exec = Jvm.exec) (hb : c.code = cc) (hK : va_K D cl tys s) (hP : va_P D cl ws H) (q0 t0 : Nat) {cA : ClassId} {n : Nat} {f : Nat → Int32} (ha : ws[q0]? = some (a, .inl (cA, n, .inl f))) (ht : tys[t0]? = some (cA, .short)) {i : Int32} {x : Int32} (hout : ¬ vp_in i n) (hdg : decode cc pc = .ok (.sastore, 1))
    (k : ∀ tx : String, tx = (toString "Index " ++ toString i ++ toString " out of bounds for length " ++ toString n : String) → vx_Note p l e R s m args below meth c H locs cells slots Q (F0 m pc ls rest) "java/lang/ArrayIndexOutOfBoundsException" tx) : W p l e R s m args below meth c H locs cells slots Q (F0 m pc ls (.int x :: .int i :: .ref a :: rest)) := by
  intro T hT X
  obtain ⟨t, st, q⟩ := k _ rfl T hT X
  refine ⟨t, ?_, q⟩
  have h1 := X.sastoreOut hexec (by rw [hT]; exact hP q0 _ ha) ((hK.2 t0 _ ht).1 n (fun j => .int (f j))) (j := i) (by show (i < 0 ∨ (arrV _ _ _).slots.size ≤ _); rw [arrV_size]; exact Classical.byContradiction hout) (g := F0 m pc ls (.int x :: .int i :: .ref a :: rest)) rfl (rest := rest) rfl (by rw [hb]; exact hdg) t
  simp only [arrV_size] at h1
  exact h1 st
theorem vx_laldZ {D : va_G} {cl : List vw_C} {ws : va_W} {tys : List (ClassId × FieldType)} {a : Nat} (hexec : p.tables.exec = Jvm.exec) (hb : c.code = cc) (hK : va_K D cl tys s) (hP : va_P D cl ws H) (q0 t0 : Nat) {cA : ClassId} {n : Nat} {f : Nat → Int64} (ha : ws[q0]? = some (a, .inl (cA, n, .inr (.inl f)))) (ht : tys[t0]? = some (cA, .long)) {i : Int32} (hout : ¬ vp_in i n) (hdg : decode cc pc = .ok (.laload, 1))
    (k : ∀ tx : String, tx = (toString "Index " ++ toString i ++ toString " out of bounds for length " ++ toString n : String) → vx_Note p l e R s m args below meth c H locs cells slots Q (F0 m pc ls rest) "java/lang/ArrayIndexOutOfBoundsException" tx) : W p l e R s m args below meth c H locs cells slots Q (F0 m pc ls (.int i :: .ref a :: rest)) := by
  intro T hT X
  obtain ⟨t, st, q⟩ := k _ rfl T hT X
  refine ⟨t, ?_, q⟩
  have h1 := X.laloadOut hexec (by rw [hT]; exact hP q0 _ ha) ((hK.2 t0 _ ht).1 n (fun j => .long (f j))) (j := i) (by show (i < 0 ∨ (arrV _ _ _).slots.size ≤ _); rw [arrV_size]; exact Classical.byContradiction hout) (g := F0 m pc ls (.int i :: .ref a :: rest)) rfl (rest := rest) rfl (by rw [hb]; exact hdg) t
  simp only [arrV_size] at h1
  exact h1 st
theorem vx_lastZ {D : va_G} {cl : List vw_C} {ws : va_W} {tys : List (ClassId × FieldType)} {a : Nat} (hexec : p.tables.exec = Jvm.exec) (hb : c.code = cc) (hK : va_K D cl tys s) (hP : va_P D cl ws H) (q0 t0 : Nat) {cA : ClassId} {n : Nat} {f : Nat → Int64} (ha : ws[q0]? = some (a, .inl (cA, n, .inr (.inl f)))) (ht : tys[t0]? = some (cA, .long)) {i : Int32} {x : Int64} (hout : ¬ vp_in i n) (hdg : decode cc pc = .ok (.lastore, 1))
    (k : ∀ tx : String, tx = (toString "Index " ++ toString i ++ toString " out of bounds for length " ++ toString n : String) → vx_Note p l e R s m args below meth c H locs cells slots Q (F0 m pc ls rest) "java/lang/ArrayIndexOutOfBoundsException" tx) : W p l e R s m args below meth c H locs cells slots Q (F0 m pc ls (.long x :: .int i :: .ref a :: rest)) := by
  intro T hT X
  obtain ⟨t, st, q⟩ := k _ rfl T hT X
  refine ⟨t, ?_, q⟩
  have h1 := X.lastoreOut hexec (by rw [hT]; exact hP q0 _ ha) ((hK.2 t0 _ ht).1 n (fun j => .long (f j))) (j := i) (by show (i < 0 ∨ (arrV _ _ _).slots.size ≤ _); rw [arrV_size]; exact Classical.byContradiction hout) (g := F0 m pc ls (.long x :: .int i :: .ref a :: rest)) rfl (rest := rest) rfl (by rw [hb]; exact hdg) t
  simp only [arrV_size] at h1
  exact h1 st
theorem vx_faldZ {D : va_G} {cl : List vw_C} {ws : va_W} {tys : List (ClassId × FieldType)} {a : Nat} (hexec : p.tables.exec = Jvm.exec) (hb : c.code = cc) (hK : va_K D cl tys s) (hP : va_P D cl ws H) (q0 t0 : Nat) {cA : ClassId} {n : Nat} {f : Nat → UInt32} (ha : ws[q0]? = some (a, .inl (cA, n, .inr (.inr (.inl f))))) (ht : tys[t0]? = some (cA, .float)) {i : Int32} (hout : ¬ vp_in i n) (hdg : decode cc pc = .ok (.faload, 1))
    (k : ∀ tx : String, tx = (toString "Index " ++ toString i ++ toString " out of bounds for length " ++ toString n : String) → vx_Note p l e R s m args below meth c H locs cells slots Q (F0 m pc ls rest) "java/lang/ArrayIndexOutOfBoundsException" tx) : W p l e R s m args below meth c H locs cells slots Q (F0 m pc ls (.int i :: .ref a :: rest)) := by
  intro T hT X
  obtain ⟨t, st, q⟩ := k _ rfl T hT X
  refine ⟨t, ?_, q⟩
  have h1 := X.faloadOut hexec (by rw [hT]; exact hP q0 _ ha) ((hK.2 t0 _ ht).1 n (fun j => .float (f j))) (j := i) (by show (i < 0 ∨ (arrV _ _ _).slots.size ≤ _); rw [arrV_size]; exact Classical.byContradiction hout) (g := F0 m pc ls (.int i :: .ref a :: rest)) rfl (rest := rest) rfl (by rw [hb]; exact hdg) t
  simp only [arrV_size] at h1
  exact h1 st
theorem vx_fastZ {D : va_G} {cl : List vw_C} {ws : va_W} {tys : List (ClassId × FieldType)} {a : Nat} (hexec : p.tables.exec = Jvm.exec) (hb : c.code = cc) (hK : va_K D cl tys s) (hP : va_P D cl ws H) (q0 t0 : Nat) {cA : ClassId} {n : Nat} {f : Nat → UInt32} (ha : ws[q0]? = some (a, .inl (cA, n, .inr (.inr (.inl f))))) (ht : tys[t0]? = some (cA, .float)) {i : Int32} {x : UInt32} (hout : ¬ vp_in i n) (hdg : decode cc pc = .ok (.fastore, 1))
    (k : ∀ tx : String, tx = (toString "Index " ++ toString i ++ toString " out of bounds for length " ++ toString n : String) → vx_Note p l e R s m args below meth c H locs cells slots Q (F0 m pc ls rest) "java/lang/ArrayIndexOutOfBoundsException" tx) : W p l e R s m args below meth c H locs cells slots Q (F0 m pc ls (.float x :: .int i :: .ref a :: rest)) := by
  intro T hT X
  obtain ⟨t, st, q⟩ := k _ rfl T hT X
  refine ⟨t, ?_, q⟩
  have h1 := X.fastoreOut hexec (by rw [hT]; exact hP q0 _ ha) ((hK.2 t0 _ ht).1 n (fun j => .float (f j))) (j := i) (by show (i < 0 ∨ (arrV _ _ _).slots.size ≤ _); rw [arrV_size]; exact Classical.byContradiction hout) (g := F0 m pc ls (.float x :: .int i :: .ref a :: rest)) rfl (rest := rest) rfl (by rw [hb]; exact hdg) t
  simp only [arrV_size] at h1
  exact h1 st
theorem vx_daldZ {D : va_G} {cl : List vw_C} {ws : va_W} {tys : List (ClassId × FieldType)} {a : Nat} (hexec : p.tables.exec = Jvm.exec) (hb : c.code = cc) (hK : va_K D cl tys s) (hP : va_P D cl ws H) (q0 t0 : Nat) {cA : ClassId} {n : Nat} {f : Nat → UInt64} (ha : ws[q0]? = some (a, .inl (cA, n, .inr (.inr (.inr (.inl f)))))) (ht : tys[t0]? = some (cA, .double)) {i : Int32} (hout : ¬ vp_in i n) (hdg : decode cc pc = .ok (.daload, 1))
    (k : ∀ tx : String, tx = (toString "Index " ++ toString i ++ toString " out of bounds for length " ++ toString n : String) → vx_Note p l e R s m args below meth c H locs cells slots Q (F0 m pc ls rest) "java/lang/ArrayIndexOutOfBoundsException" tx) : W p l e R s m args below meth c H locs cells slots Q (F0 m pc ls (.int i :: .ref a :: rest)) := by
  intro T hT X
  obtain ⟨t, st, q⟩ := k _ rfl T hT X
  refine ⟨t, ?_, q⟩
  have h1 := X.daloadOut hexec (by rw [hT]; exact hP q0 _ ha) ((hK.2 t0 _ ht).1 n (fun j => .double (f j))) (j := i) (by show (i < 0 ∨ (arrV _ _ _).slots.size ≤ _); rw [arrV_size]; exact Classical.byContradiction hout) (g := F0 m pc ls (.int i :: .ref a :: rest)) rfl (rest := rest) rfl (by rw [hb]; exact hdg) t
  simp only [arrV_size] at h1
  exact h1 st
theorem vx_dastZ {D : va_G} {cl : List vw_C} {ws : va_W} {tys : List (ClassId × FieldType)} {a : Nat} (hexec : p.tables.exec = Jvm.exec) (hb : c.code = cc) (hK : va_K D cl tys s) (hP : va_P D cl ws H) (q0 t0 : Nat) {cA : ClassId} {n : Nat} {f : Nat → UInt64} (ha : ws[q0]? = some (a, .inl (cA, n, .inr (.inr (.inr (.inl f)))))) (ht : tys[t0]? = some (cA, .double)) {i : Int32} {x : UInt64} (hout : ¬ vp_in i n) (hdg : decode cc pc = .ok (.dastore, 1))
    (k : ∀ tx : String, tx = (toString "Index " ++ toString i ++ toString " out of bounds for length " ++ toString n : String) → vx_Note p l e R s m args below meth c H locs cells slots Q (F0 m pc ls rest) "java/lang/ArrayIndexOutOfBoundsException" tx) : W p l e R s m args below meth c H locs cells slots Q (F0 m pc ls (.double x :: .int i :: .ref a :: rest)) := by
  intro T hT X
  obtain ⟨t, st, q⟩ := k _ rfl T hT X
  refine ⟨t, ?_, q⟩
  have h1 := X.dastoreOut hexec (by rw [hT]; exact hP q0 _ ha) ((hK.2 t0 _ ht).1 n (fun j => .double (f j))) (j := i) (by show (i < 0 ∨ (arrV _ _ _).slots.size ≤ _); rw [arrV_size]; exact Classical.byContradiction hout) (g := F0 m pc ls (.double x :: .int i :: .ref a :: rest)) rfl (rest := rest) rfl (by rw [hb]; exact hdg) t
  simp only [arrV_size] at h1
  exact h1 st
theorem vx_arraylengthN (hexec : p.tables.exec = Jvm.exec) (hb : c.code = cc) (hdg : decode cc pc = .ok (.arraylength, 1)) (k : vx_NoteN p l e R s m args below meth c H locs cells slots Q (F0 m pc ls rest)) : W p l e R s m args below meth c H locs cells slots Q (F0 m pc ls (.null :: rest)) := by
  intro T hT X
  obtain ⟨t, st, q⟩ := k T hT X
  exact ⟨t, X.arraylengthNull hexec (g := F0 m pc ls (.null :: rest)) rfl (rest := rest) rfl (by rw [hb]; exact hdg) t st, q⟩
theorem vx_ialoadN (hexec : p.tables.exec = Jvm.exec) (hb : c.code = cc) {i : Int32} (hdg : decode cc pc = .ok (.iaload, 1)) (k : vx_NoteN p l e R s m args below meth c H locs cells slots Q (F0 m pc ls rest)) : W p l e R s m args below meth c H locs cells slots Q (F0 m pc ls (.int i :: .null :: rest)) := by
  intro T hT X
  obtain ⟨t, st, q⟩ := k T hT X
  exact ⟨t, X.ialoadNull hexec (g := F0 m pc ls (.int i :: .null :: rest)) rfl (rest := rest) rfl (by rw [hb]; exact hdg) t st, q⟩
theorem vx_laloadN (hexec : p.tables.exec = Jvm.exec) (hb : c.code = cc) {i : Int32} (hdg : decode cc pc = .ok (.laload, 1)) (k : vx_NoteN p l e R s m args below meth c H locs cells slots Q (F0 m pc ls rest)) : W p l e R s m args below meth c H locs cells slots Q (F0 m pc ls (.int i :: .null :: rest)) := by
  intro T hT X
  obtain ⟨t, st, q⟩ := k T hT X
  exact ⟨t, X.laloadNull hexec (g := F0 m pc ls (.int i :: .null :: rest)) rfl (rest := rest) rfl (by rw [hb]; exact hdg) t st, q⟩
theorem vx_faloadN (hexec : p.tables.exec = Jvm.exec) (hb : c.code = cc) {i : Int32} (hdg : decode cc pc = .ok (.faload, 1)) (k : vx_NoteN p l e R s m args below meth c H locs cells slots Q (F0 m pc ls rest)) : W p l e R s m args below meth c H locs cells slots Q (F0 m pc ls (.int i :: .null :: rest)) := by
  intro T hT X
  obtain ⟨t, st, q⟩ := k T hT X
  exact ⟨t, X.faloadNull hexec (g := F0 m pc ls (.int i :: .null :: rest)) rfl (rest := rest) rfl (by rw [hb]; exact hdg) t st, q⟩
theorem vx_daloadN (hexec : p.tables.exec = Jvm.exec) (hb : c.code = cc) {i : Int32} (hdg : decode cc pc = .ok (.daload, 1)) (k : vx_NoteN p l e R s m args below meth c H locs cells slots Q (F0 m pc ls rest)) : W p l e R s m args below meth c H locs cells slots Q (F0 m pc ls (.int i :: .null :: rest)) := by
  intro T hT X
  obtain ⟨t, st, q⟩ := k T hT X
  exact ⟨t, X.daloadNull hexec (g := F0 m pc ls (.int i :: .null :: rest)) rfl (rest := rest) rfl (by rw [hb]; exact hdg) t st, q⟩
theorem vx_aaloadN (hexec : p.tables.exec = Jvm.exec) (hb : c.code = cc) {i : Int32} (hdg : decode cc pc = .ok (.aaload, 1)) (k : vx_NoteN p l e R s m args below meth c H locs cells slots Q (F0 m pc ls rest)) : W p l e R s m args below meth c H locs cells slots Q (F0 m pc ls (.int i :: .null :: rest)) := by
  intro T hT X
  obtain ⟨t, st, q⟩ := k T hT X
  exact ⟨t, X.aaloadNull hexec (g := F0 m pc ls (.int i :: .null :: rest)) rfl (rest := rest) rfl (by rw [hb]; exact hdg) t st, q⟩
theorem vx_baloadN (hexec : p.tables.exec = Jvm.exec) (hb : c.code = cc) {i : Int32} (hdg : decode cc pc = .ok (.baload, 1)) (k : vx_NoteN p l e R s m args below meth c H locs cells slots Q (F0 m pc ls rest)) : W p l e R s m args below meth c H locs cells slots Q (F0 m pc ls (.int i :: .null :: rest)) := by
  intro T hT X
  obtain ⟨t, st, q⟩ := k T hT X
  exact ⟨t, X.baloadNull hexec (g := F0 m pc ls (.int i :: .null :: rest)) rfl (rest := rest) rfl (by rw [hb]; exact hdg) t st, q⟩
theorem vx_caloadN (hexec : p.tables.exec = Jvm.exec) (hb : c.code = cc) {i : Int32} (hdg : decode cc pc = .ok (.caload, 1)) (k : vx_NoteN p l e R s m args below meth c H locs cells slots Q (F0 m pc ls rest)) : W p l e R s m args below meth c H locs cells slots Q (F0 m pc ls (.int i :: .null :: rest)) := by
  intro T hT X
  obtain ⟨t, st, q⟩ := k T hT X
  exact ⟨t, X.caloadNull hexec (g := F0 m pc ls (.int i :: .null :: rest)) rfl (rest := rest) rfl (by rw [hb]; exact hdg) t st, q⟩
theorem vx_saloadN (hexec : p.tables.exec = Jvm.exec) (hb : c.code = cc) {i : Int32} (hdg : decode cc pc = .ok (.saload, 1)) (k : vx_NoteN p l e R s m args below meth c H locs cells slots Q (F0 m pc ls rest)) : W p l e R s m args below meth c H locs cells slots Q (F0 m pc ls (.int i :: .null :: rest)) := by
  intro T hT X
  obtain ⟨t, st, q⟩ := k T hT X
  exact ⟨t, X.saloadNull hexec (g := F0 m pc ls (.int i :: .null :: rest)) rfl (rest := rest) rfl (by rw [hb]; exact hdg) t st, q⟩
theorem vx_iastoreN (hexec : p.tables.exec = Jvm.exec) (hb : c.code = cc) {x : Int32} {i : Int32} (hdg : decode cc pc = .ok (.iastore, 1)) (k : vx_NoteN p l e R s m args below meth c H locs cells slots Q (F0 m pc ls rest)) : W p l e R s m args below meth c H locs cells slots Q (F0 m pc ls (.int x :: .int i :: .null :: rest)) := by
  intro T hT X
  obtain ⟨t, st, q⟩ := k T hT X
  exact ⟨t, X.iastoreNull hexec (g := F0 m pc ls (.int x :: .int i :: .null :: rest)) rfl (rest := rest) rfl (by rw [hb]; exact hdg) t st, q⟩
theorem vx_lastoreN (hexec : p.tables.exec = Jvm.exec) (hb : c.code = cc) {x : Int64} {i : Int32} (hdg : decode cc pc = .ok (.lastore, 1)) (k : vx_NoteN p l e R s m args below meth c H locs cells slots Q (F0 m pc ls rest)) : W p l e R s m args below meth c H locs cells slots Q (F0 m pc ls (.long x :: .int i :: .null :: rest)) := by
  intro T hT X
  obtain ⟨t, st, q⟩ := k T hT X
  exact ⟨t, X.lastoreNull hexec (g := F0 m pc ls (.long x :: .int i :: .null :: rest)) rfl (rest := rest) rfl (by rw [hb]; exact hdg) t st, q⟩
theorem vx_fastoreN (hexec : p.tables.exec = Jvm.exec) (hb : c.code = cc) {x : UInt32} {i : Int32} (hdg : decode cc pc = .ok (.fastore, 1)) (k : vx_NoteN p l e R s m args below meth c H locs cells slots Q (F0 m pc ls rest)) : W p l e R s m args below meth c H locs cells slots Q (F0 m pc ls (.float x :: .int i :: .null :: rest)) := by
  intro T hT X
  obtain ⟨t, st, q⟩ := k T hT X
  exact ⟨t, X.fastoreNull hexec (g := F0 m pc ls (.float x :: .int i :: .null :: rest)) rfl (rest := rest) rfl (by rw [hb]; exact hdg) t st, q⟩
theorem vx_dastoreN (hexec : p.tables.exec = Jvm.exec) (hb : c.code = cc) {x : UInt64} {i : Int32} (hdg : decode cc pc = .ok (.dastore, 1)) (k : vx_NoteN p l e R s m args below meth c H locs cells slots Q (F0 m pc ls rest)) : W p l e R s m args below meth c H locs cells slots Q (F0 m pc ls (.double x :: .int i :: .null :: rest)) := by
  intro T hT X
  obtain ⟨t, st, q⟩ := k T hT X
  exact ⟨t, X.dastoreNull hexec (g := F0 m pc ls (.double x :: .int i :: .null :: rest)) rfl (rest := rest) rfl (by rw [hb]; exact hdg) t st, q⟩
theorem vx_bastoreN (hexec : p.tables.exec = Jvm.exec) (hb : c.code = cc) {x : Int32} {i : Int32} (hdg : decode cc pc = .ok (.bastore, 1)) (k : vx_NoteN p l e R s m args below meth c H locs cells slots Q (F0 m pc ls rest)) : W p l e R s m args below meth c H locs cells slots Q (F0 m pc ls (.int x :: .int i :: .null :: rest)) := by
  intro T hT X
  obtain ⟨t, st, q⟩ := k T hT X
  exact ⟨t, X.bastoreNull hexec (g := F0 m pc ls (.int x :: .int i :: .null :: rest)) rfl (rest := rest) rfl (by rw [hb]; exact hdg) t st, q⟩
theorem vx_castoreN (hexec : p.tables.exec = Jvm.exec) (hb : c.code = cc) {x : Int32} {i : Int32} (hdg : decode cc pc = .ok (.castore, 1)) (k : vx_NoteN p l e R s m args below meth c H locs cells slots Q (F0 m pc ls rest)) : W p l e R s m args below meth c H locs cells slots Q (F0 m pc ls (.int x :: .int i :: .null :: rest)) := by
  intro T hT X
  obtain ⟨t, st, q⟩ := k T hT X
  exact ⟨t, X.castoreNull hexec (g := F0 m pc ls (.int x :: .int i :: .null :: rest)) rfl (rest := rest) rfl (by rw [hb]; exact hdg) t st, q⟩
theorem vx_sastoreN (hexec : p.tables.exec = Jvm.exec) (hb : c.code = cc) {x : Int32} {i : Int32} (hdg : decode cc pc = .ok (.sastore, 1)) (k : vx_NoteN p l e R s m args below meth c H locs cells slots Q (F0 m pc ls rest)) : W p l e R s m args below meth c H locs cells slots Q (F0 m pc ls (.int x :: .int i :: .null :: rest)) := by
  intro T hT X
  obtain ⟨t, st, q⟩ := k T hT X
  exact ⟨t, X.sastoreNull hexec (g := F0 m pc ls (.int x :: .int i :: .null :: rest)) rfl (rest := rest) rfl (by rw [hb]; exact hdg) t st, q⟩
theorem vx_invokeN {own C : String} {index maxL : Nat} {y : MethodName} {bytes : ByteArray} {ret : Option FieldType} (hexec : p.tables.exec = Jvm.exec) (hb : c.code = cc) (hown : s.vm.findClass own = some m.cls) (hlink : (Cond.methodLink own index y).before args s = true) (hinst : (Cond.instanceMethod y).before args s = true) (hcode : (Cond.code y bytes maxL ret).before args s = true) (hsel : (Cond.selects C y y).before args s = true)
    (hx : y.cls ≠ "java/lang/invoke/MethodHandle" ∧ y.cls ≠ "java/lang/invoke/VarHandle") {As : List Value} (hlen : (parseMethodDescriptor y.desc).map (fun d => d.parameters.length) = some As.length) (hdg : decode cc pc = .ok (.invokevirtual index, 3))
    (k : vx_NoteN p l e R s m args below meth c H locs cells slots Q (F0 m pc ls rest)) {st0 : List Value} (hst : st0 = As.reverse ++ .null :: rest) : W p l e R s m args below meth c H locs cells slots Q (F0 m pc ls st0) := by
  intro T hT X
  obtain ⟨r0, r, hn, hrm, hstR, hsigR⟩ := va_Decl.of hinst hcode
  obtain ⟨c2, r2, m2, q1, q2, q3, q4, kP, hkP, hkPi⟩ := Cond.selects_spec hsel
  cases hn.symm.trans q3
  have hl9 : As.length = r.sig.parameters.length := by
    rw [hsigR] at hlen
    exact (Option.some.inj hlen).symm
  obtain ⟨vm', X1, st1⟩ := X.invokevirtualNull hexec hown hlink hn hrm hstR hkP hkPi hx (g := F0 m pc ls st0) rfl (argsL := As) (rest := rest) hl9 hst (by rw [hb]; exact hdg)
  obtain ⟨t, st, q⟩ := k (T.setVm vm') hT X1
  exact ⟨t, st1 t st, q⟩
theorem vx_newarrayZ {atype : ArrayType} (hexec : p.tables.exec = Jvm.exec) (hb : c.code = cc) {n : Int32} (h0 : n < 0) (hdg : decode cc pc = .ok (.newarray atype, 2)) (k : ∀ tx : String, tx = toString n → vx_Note p l e R s m args below meth c H locs cells slots Q (F0 m pc ls rest) "java/lang/NegativeArraySizeException" tx) : W p l e R s m args below meth c H locs cells slots Q (F0 m pc ls (.int n :: rest)) := by
  intro T hT X
  obtain ⟨t, st, q⟩ := k _ rfl T hT X
  exact ⟨t, X.newarrayNegative hexec (g := F0 m pc ls (.int n :: rest)) rfl h0 (rest := rest) rfl (by rw [hb]; exact hdg) t st, q⟩
end
end VXM
/-! ===== END ===== -/
end
section
/-! ===== BEGIN printed: names, fields, word lists, decode rows ===== -/
def RX0 : String := "DyehouseLedger$Lot"
def TX0 : u_T := fun k => match k with
  | 0 => ("DyehouseLedger$Lot", "number", "I", true)
  | 1 => ("DyehouseLedger$Lot", "order", "LDyehouseLedger$Order;", true)
  | 2 => ("DyehouseLedger$Lot", "weight", "I", true)
  | 3 => ("DyehouseLedger$Lot", "shade", "LDyehouseLedger$Shade;", true)
  | 4 => ("DyehouseLedger$Lot", "state", "C", false)
  | 5 => ("DyehouseLedger$Lot", "vat", "LDyehouseLedger$Vat;", false)
  | 6 => ("DyehouseLedger$Lot", "clockThen", "I", false)
  | 7 => ("DyehouseLedger$Lot", "cleaningsThen", "I", false)
  | _ => ("DyehouseLedger$Lot", "plannedFor", "LDyehouseLedger$Vat;", false)
def tyX0 : Nat → FieldType := fun k => match k with
  | 0 => .int
  | 1 => .object "DyehouseLedger$Order"
  | 2 => .int
  | 3 => .object "DyehouseLedger$Shade"
  | 4 => .char
  | 5 => .object "DyehouseLedger$Vat"
  | 6 => .int
  | 7 => .int
  | _ => .object "DyehouseLedger$Vat"
abbrev wsX00 : List Cond := u_ws RX0 TX0 9
theorem nmX0 : ∀ a, a < 9 → ∀ b, b < 9 → a ≠ b → (TX0 a).2.1 ≠ (TX0 b).2.1 := by decide +kernel
theorem tyX0_ok : ∀ k, k < 9 → parseFieldDescriptor (TX0 k).2.2.1 = some (tyX0 k) := by decide +kernel
abbrev cX0_init : ByteArray := prog_2_method_1_code
def yX0_init : MethodName := ⟨RX0, "<init>", "(ILDyehouseLedger$Order;I)V"⟩
abbrev cX0_dyeingHours : ByteArray := prog_2_method_2_code
def yX0_dyeingHours : MethodName := ⟨RX0, "dyeingHours", "()I"⟩
abbrev cX0_gramsNeeded : ByteArray := prog_2_method_3_code
def yX0_gramsNeeded : MethodName := ⟨RX0, "gramsNeeded", "(I)I"⟩
abbrev cX0_distanceFromRecipe : ByteArray := prog_2_method_4_code
def yX0_distanceFromRecipe : MethodName := ⟨RX0, "distanceFromRecipe", "()I"⟩
abbrev cX0_isPassedOf : ByteArray := prog_2_method_5_code
def yX0_isPassedOf : MethodName := ⟨RX0, "isPassedOf", "(LDyehouseLedger$Order;)Z"⟩
abbrev cX0_comesBeforeByLight : ByteArray := prog_2_method_6_code
def yX0_comesBeforeByLight : MethodName := ⟨RX0, "comesBeforeByLight", "(LDyehouseLedger$Lot;)Z"⟩
def RX1 : String := "DyehouseLedger$Order"
def TX1 : u_T := fun k => match k with
  | 0 => ("DyehouseLedger$Order", "customer", "I", true)
  | 1 => ("DyehouseLedger$Order", "recipe", "LDyehouseLedger$Recipe;", true)
  | 2 => ("DyehouseLedger$Order", "bound", "I", true)
  | 3 => ("DyehouseLedger$Order", "day", "I", true)
  | _ => ("DyehouseLedger$Order", "price", "I", true)
def tyX1 : Nat → FieldType := fun k => match k with
  | 0 => .int
  | 1 => .object "DyehouseLedger$Recipe"
  | 2 => .int
  | 3 => .int
  | _ => .int
abbrev wsX10 : List Cond := u_ws RX1 TX1 5
theorem nmX1 : ∀ a, a < 5 → ∀ b, b < 5 → a ≠ b → (TX1 a).2.1 ≠ (TX1 b).2.1 := by decide +kernel
theorem tyX1_ok : ∀ k, k < 5 → parseFieldDescriptor (TX1 k).2.2.1 = some (tyX1 k) := by decide +kernel
abbrev cX1_init : ByteArray := prog_3_method_1_code
def yX1_init : MethodName := ⟨RX1, "<init>", "(ILDyehouseLedger$Recipe;III)V"⟩
def RX2 : String := "DyehouseLedger$Plan"
def TX2 : u_T := fun k => match k with
  | 0 => ("DyehouseLedger$Plan", "numbers", "[I", true)
  | 1 => ("DyehouseLedger$Plan", "lights", "[I", true)
  | 2 => ("DyehouseLedger$Plan", "customers", "[I", true)
  | 3 => ("DyehouseLedger$Plan", "hours", "[I", true)
  | 4 => ("DyehouseLedger$Plan", "size", "I", false)
  | 5 => ("DyehouseLedger$Plan", "lightAtFirst", "I", false)
  | _ => ("DyehouseLedger$Plan", "onlyCustomerAtFirst", "I", false)
def tyX2 : Nat → FieldType := fun k => match k with
  | 0 => .array .int
  | 1 => .array .int
  | 2 => .array .int
  | 3 => .array .int
  | 4 => .int
  | 5 => .int
  | _ => .int
abbrev wsX20 : List Cond := u_ws RX2 TX2 7
theorem nmX2 : ∀ a, a < 7 → ∀ b, b < 7 → a ≠ b → (TX2 a).2.1 ≠ (TX2 b).2.1 := by decide +kernel
theorem tyX2_ok : ∀ k, k < 7 → parseFieldDescriptor (TX2 k).2.2.1 = some (tyX2 k) := by decide +kernel
abbrev cX2_init : ByteArray := prog_4_method_1_code
def yX2_init : MethodName := ⟨RX2, "<init>", "()V"⟩
abbrev cX2_begin : ByteArray := prog_4_method_2_code
def yX2_begin : MethodName := ⟨RX2, "begin", "(LDyehouseLedger$Vat;)V"⟩
abbrev cX2_add : ByteArray := prog_4_method_3_code
def yX2_add : MethodName := ⟨RX2, "add", "(LDyehouseLedger$Lot;)V"⟩
abbrev cX2_dyeingHours : ByteArray := prog_4_method_4_code
def yX2_dyeingHours : MethodName := ⟨RX2, "dyeingHours", "()I"⟩
abbrev cX2_fewestCleanings : ByteArray := prog_4_method_5_code
def yX2_fewestCleanings : MethodName := ⟨RX2, "fewestCleanings", "()I"⟩
abbrev cX2_firstOfBestOrder : ByteArray := prog_4_method_6_code
def yX2_firstOfBestOrder : MethodName := ⟨RX2, "firstOfBestOrder", "()I"⟩
abbrev cX2_fewestBeginningWith : ByteArray := prog_4_method_7_code
def yX2_fewestBeginningWith : MethodName := ⟨RX2, "fewestBeginningWith", "(II)I"⟩
abbrev cX2_leastOfAllOrders : ByteArray := prog_4_method_8_code
def yX2_leastOfAllOrders : MethodName := ⟨RX2, "leastOfAllOrders", "()I"⟩
abbrev cX2_mustBeCleaned : ByteArray := prog_4_method_9_code
def yX2_mustBeCleaned : MethodName := ⟨RX2, "mustBeCleaned", "(III)Z"⟩
abbrev cX2_fewestFrom : ByteArray := prog_4_method_10_code
def yX2_fewestFrom : MethodName := ⟨RX2, "fewestFrom", "(LDyehouseLedger$Plan;IIIIII)I"⟩
abbrev cX2_leastFrom : ByteArray := prog_4_method_11_code
def yX2_leastFrom : MethodName := ⟨RX2, "leastFrom", "(LDyehouseLedger$Plan;IIIII)I"⟩
def RX3 : String := "DyehouseLedger$Recipe"
def TX3 : u_T := fun k => match k with
  | 0 => ("DyehouseLedger$Recipe", "shade", "LDyehouseLedger$Shade;", true)
  | _ => ("DyehouseLedger$Recipe", "grams", "[I", true)
def tyX3 : Nat → FieldType := fun k => match k with
  | 0 => .object "DyehouseLedger$Shade"
  | _ => .array .int
abbrev wsX30 : List Cond := u_ws RX3 TX3 2
theorem nmX3 : ∀ a, a < 2 → ∀ b, b < 2 → a ≠ b → (TX3 a).2.1 ≠ (TX3 b).2.1 := by decide +kernel
theorem tyX3_ok : ∀ k, k < 2 → parseFieldDescriptor (TX3 k).2.2.1 = some (tyX3 k) := by decide +kernel
abbrev cX3_init : ByteArray := prog_5_method_1_code
def yX3_init : MethodName := ⟨RX3, "<init>", "(LDyehouseLedger$Shade;)V"⟩
def RX4 : String := "DyehouseLedger$Shade"
def TX4 : u_T := fun k => match k with
  | 0 => ("DyehouseLedger$Shade", "light", "I", false)
  | 1 => ("DyehouseLedger$Shade", "red", "I", false)
  | _ => ("DyehouseLedger$Shade", "blue", "I", false)
def tyX4 : Nat → FieldType := fun k => match k with
  | 0 => .int
  | 1 => .int
  | _ => .int
abbrev wsX40 : List Cond := u_ws RX4 TX4 3
theorem nmX4 : ∀ a, a < 3 → ∀ b, b < 3 → a ≠ b → (TX4 a).2.1 ≠ (TX4 b).2.1 := by decide +kernel
theorem tyX4_ok : ∀ k, k < 3 → parseFieldDescriptor (TX4 k).2.2.1 = some (tyX4 k) := by decide +kernel
abbrev cX4_init : ByteArray := prog_6_method_1_code
def yX4_init : MethodName := ⟨RX4, "<init>", "(III)V"⟩
abbrev cX4_set : ByteArray := prog_6_method_2_code
def yX4_set : MethodName := ⟨RX4, "set", "(III)V"⟩
abbrev cX4_distanceTo : ByteArray := prog_6_method_3_code
def yX4_distanceTo : MethodName := ⟨RX4, "distanceTo", "(LDyehouseLedger$Shade;)I"⟩
def RX5 : String := "DyehouseLedger$Vat"
def TX5 : u_T := fun k => match k with
  | 0 => ("DyehouseLedger$Vat", "number", "I", true)
  | 1 => ("DyehouseLedger$Vat", "mostWeight", "I", true)
  | 2 => ("DyehouseLedger$Vat", "light", "I", false)
  | 3 => ("DyehouseLedger$Vat", "onlyCustomer", "I", false)
  | 4 => ("DyehouseLedger$Vat", "clock", "I", false)
  | _ => ("DyehouseLedger$Vat", "cleanings", "I", false)
def tyX5 : Nat → FieldType := fun k => match k with
  | 0 => .int
  | 1 => .int
  | 2 => .int
  | 3 => .int
  | 4 => .int
  | _ => .int
abbrev wsX50 : List Cond := u_ws RX5 TX5 6
theorem nmX5 : ∀ a, a < 6 → ∀ b, b < 6 → a ≠ b → (TX5 a).2.1 ≠ (TX5 b).2.1 := by decide +kernel
theorem tyX5_ok : ∀ k, k < 6 → parseFieldDescriptor (TX5 k).2.2.1 = some (tyX5 k) := by decide +kernel
abbrev cX5_init : ByteArray := prog_7_method_1_code
def yX5_init : MethodName := ⟨RX5, "<init>", "(II)V"⟩
def RX6 : String := "DyehouseLedger"
def TX6 : u_T := fun k => match k with
  | 0 => ("DyehouseLedger", "allRecipes", "[LDyehouseLedger$Recipe;", true)
  | 1 => ("DyehouseLedger", "allOrders", "[LDyehouseLedger$Order;", true)
  | 2 => ("DyehouseLedger", "allLots", "[LDyehouseLedger$Lot;", true)
  | 3 => ("DyehouseLedger", "allVats", "[LDyehouseLedger$Vat;", true)
  | 4 => ("DyehouseLedger", "gramsInStock", "[I", true)
  | 5 => ("DyehouseLedger", "gramsUsed", "[J", true)
  | 6 => ("DyehouseLedger", "planAtHand", "LDyehouseLedger$Plan;", true)
  | 7 => ("DyehouseLedger", "recipeCount", "I", false)
  | 8 => ("DyehouseLedger", "orderCount", "I", false)
  | 9 => ("DyehouseLedger", "lotCount", "I", false)
  | _ => ("DyehouseLedger", "vatCount", "I", false)
def tyX6 : Nat → FieldType := fun k => match k with
  | 0 => .array (.object "DyehouseLedger$Recipe")
  | 1 => .array (.object "DyehouseLedger$Order")
  | 2 => .array (.object "DyehouseLedger$Lot")
  | 3 => .array (.object "DyehouseLedger$Vat")
  | 4 => .array .int
  | 5 => .array .long
  | 6 => .object "DyehouseLedger$Plan"
  | 7 => .int
  | 8 => .int
  | 9 => .int
  | _ => .int
abbrev wsX60 : List Cond := u_ws RX6 TX6 11
theorem nmX6 : ∀ a, a < 11 → ∀ b, b < 11 → a ≠ b → (TX6 a).2.1 ≠ (TX6 b).2.1 := by decide +kernel
theorem tyX6_ok : ∀ k, k < 11 → parseFieldDescriptor (TX6 k).2.2.1 = some (tyX6 k) := by decide +kernel
abbrev cX6_init : ByteArray := prog_1_method_1_code
def yX6_init : MethodName := ⟨RX6, "<init>", "()V"⟩
abbrev cX6_addRecipe : ByteArray := prog_1_method_2_code
def yX6_addRecipe : MethodName := ⟨RX6, "addRecipe", "(III)I"⟩
abbrev cX6_setDye : ByteArray := prog_1_method_3_code
def yX6_setDye : MethodName := ⟨RX6, "setDye", "(III)I"⟩
abbrev cX6_supply : ByteArray := prog_1_method_4_code
def yX6_supply : MethodName := ⟨RX6, "supply", "(II)I"⟩
abbrev cX6_stock : ByteArray := prog_1_method_5_code
def yX6_stock : MethodName := ⟨RX6, "stock", "(I)I"⟩
abbrev cX6_addOrder : ByteArray := prog_1_method_6_code
def yX6_addOrder : MethodName := ⟨RX6, "addOrder", "(IIIII)I"⟩
abbrev cX6_addLot : ByteArray := prog_1_method_7_code
def yX6_addLot : MethodName := ⟨RX6, "addLot", "(II)I"⟩
abbrev cX6_addVat : ByteArray := prog_1_method_8_code
def yX6_addVat : MethodName := ⟨RX6, "addVat", "(I)I"⟩
abbrev cX6_needs : ByteArray := prog_1_method_9_code
def yX6_needs : MethodName := ⟨RX6, "needs", "(II)I"⟩
abbrev cX6_hoursFor : ByteArray := prog_1_method_10_code
def yX6_hoursFor : MethodName := ⟨RX6, "hoursFor", "(I)I"⟩
abbrev cX6_reason : ByteArray := prog_1_method_11_code
def yX6_reason : MethodName := ⟨RX6, "reason", "(II)C"⟩
abbrev cX6_dye : ByteArray := prog_1_method_12_code
def yX6_dye : MethodName := ⟨RX6, "dye", "(IIIII)I"⟩
abbrev cX6_clean : ByteArray := prog_1_method_13_code
def yX6_clean : MethodName := ⟨RX6, "clean", "(I)I"⟩
abbrev cX6_verdict : ByteArray := prog_1_method_14_code
def yX6_verdict : MethodName := ⟨RX6, "verdict", "(I)C"⟩
abbrev cX6_judge : ByteArray := prog_1_method_15_code
def yX6_judge : MethodName := ⟨RX6, "judge", "(I)Z"⟩
abbrev cX6_again : ByteArray := prog_1_method_16_code
def yX6_again : MethodName := ⟨RX6, "again", "(I)I"⟩
abbrev cX6_plan : ByteArray := prog_1_method_17_code
def yX6_plan : MethodName := ⟨RX6, "plan", "(II)I"⟩
abbrev cX6_unplan : ByteArray := prog_1_method_18_code
def yX6_unplan : MethodName := ⟨RX6, "unplan", "(I)I"⟩
abbrev cX6_planned : ByteArray := prog_1_method_19_code
def yX6_planned : MethodName := ⟨RX6, "planned", "(I)I"⟩
abbrev cX6_plannedAt : ByteArray := prog_1_method_20_code
def yX6_plannedAt : MethodName := ⟨RX6, "plannedAt", "(II)I"⟩
abbrev cX6_leastHours : ByteArray := prog_1_method_21_code
def yX6_leastHours : MethodName := ⟨RX6, "leastHours", "(I)I"⟩
abbrev cX6_leastByAll : ByteArray := prog_1_method_22_code
def yX6_leastByAll : MethodName := ⟨RX6, "leastByAll", "(I)I"⟩
abbrev cX6_firstOf : ByteArray := prog_1_method_23_code
def yX6_firstOf : MethodName := ⟨RX6, "firstOf", "(I)I"⟩
abbrev cX6_recipes : ByteArray := prog_1_method_24_code
def yX6_recipes : MethodName := ⟨RX6, "recipes", "()I"⟩
abbrev cX6_lots : ByteArray := prog_1_method_25_code
def yX6_lots : MethodName := ⟨RX6, "lots", "()I"⟩
abbrev cX6_stateOf : ByteArray := prog_1_method_26_code
def yX6_stateOf : MethodName := ⟨RX6, "stateOf", "(I)C"⟩
abbrev cX6_shadeOf : ByteArray := prog_1_method_27_code
def yX6_shadeOf : MethodName := ⟨RX6, "shadeOf", "(II)I"⟩
abbrev cX6_vatOf : ByteArray := prog_1_method_28_code
def yX6_vatOf : MethodName := ⟨RX6, "vatOf", "(I)I"⟩
abbrev cX6_offBy : ByteArray := prog_1_method_29_code
def yX6_offBy : MethodName := ⟨RX6, "offBy", "(I)I"⟩
abbrev cX6_distance : ByteArray := prog_1_method_30_code
def yX6_distance : MethodName := ⟨RX6, "distance", "(II)I"⟩
abbrev cX6_nearest : ByteArray := prog_1_method_31_code
def yX6_nearest : MethodName := ⟨RX6, "nearest", "(I)I"⟩
abbrev cX6_byLight : ByteArray := prog_1_method_32_code
def yX6_byLight : MethodName := ⟨RX6, "byLight", "(I)I"⟩
abbrev cX6_clock : ByteArray := prog_1_method_33_code
def yX6_clock : MethodName := ⟨RX6, "clock", "(I)I"⟩
abbrev cX6_cleanings : ByteArray := prog_1_method_34_code
def yX6_cleanings : MethodName := ⟨RX6, "cleanings", "(I)I"⟩
abbrev cX6_lightIn : ByteArray := prog_1_method_35_code
def yX6_lightIn : MethodName := ⟨RX6, "lightIn", "(I)I"⟩
abbrev cX6_customerOf : ByteArray := prog_1_method_36_code
def yX6_customerOf : MethodName := ⟨RX6, "customerOf", "(I)I"⟩
abbrev cX6_lotsOf : ByteArray := prog_1_method_37_code
def yX6_lotsOf : MethodName := ⟨RX6, "lotsOf", "(I)I"⟩
abbrev cX6_passedOf : ByteArray := prog_1_method_38_code
def yX6_passedOf : MethodName := ⟨RX6, "passedOf", "(I)I"⟩
abbrev cX6_spread : ByteArray := prog_1_method_39_code
def yX6_spread : MethodName := ⟨RX6, "spread", "(I)I"⟩
abbrev cX6_lateBy : ByteArray := prog_1_method_40_code
def yX6_lateBy : MethodName := ⟨RX6, "lateBy", "(I)I"⟩
abbrev cX6_due : ByteArray := prog_1_method_41_code
def yX6_due : MethodName := ⟨RX6, "due", "(I)I"⟩
abbrev cX6_dues : ByteArray := prog_1_method_42_code
def yX6_dues : MethodName := ⟨RX6, "dues", "(I)J"⟩
abbrev cX6_used : ByteArray := prog_1_method_43_code
def yX6_used : MethodName := ⟨RX6, "used", "(I)J"⟩
abbrev cX6_passedShare : ByteArray := prog_1_method_44_code
def yX6_passedShare : MethodName := ⟨RX6, "passedShare", "()F"⟩
abbrev cX6_meanOff : ByteArray := prog_1_method_45_code
def yX6_meanOff : MethodName := ⟨RX6, "meanOff", "()D"⟩
abbrev cX6_checkRange : ByteArray := prog_1_method_46_code
def yX6_checkRange : MethodName := ⟨RX6, "checkRange", "(III)V"⟩
abbrev cX6_checkShade : ByteArray := prog_1_method_47_code
def yX6_checkShade : MethodName := ⟨RX6, "checkShade", "(III)V"⟩
abbrev cX6_checkDye : ByteArray := prog_1_method_48_code
def yX6_checkDye : MethodName := ⟨RX6, "checkDye", "(I)V"⟩
abbrev cX6_checkCustomer : ByteArray := prog_1_method_49_code
def yX6_checkCustomer : MethodName := ⟨RX6, "checkCustomer", "(I)V"⟩
abbrev cX6_recipeNumbered : ByteArray := prog_1_method_50_code
def yX6_recipeNumbered : MethodName := ⟨RX6, "recipeNumbered", "(I)LDyehouseLedger$Recipe;"⟩
abbrev cX6_orderNumbered : ByteArray := prog_1_method_51_code
def yX6_orderNumbered : MethodName := ⟨RX6, "orderNumbered", "(I)LDyehouseLedger$Order;"⟩
abbrev cX6_lotNumbered : ByteArray := prog_1_method_52_code
def yX6_lotNumbered : MethodName := ⟨RX6, "lotNumbered", "(I)LDyehouseLedger$Lot;"⟩
abbrev cX6_vatNumbered : ByteArray := prog_1_method_53_code
def yX6_vatNumbered : MethodName := ⟨RX6, "vatNumbered", "(I)LDyehouseLedger$Vat;"⟩
abbrev cX6_dyedLotNumbered : ByteArray := prog_1_method_54_code
def yX6_dyedLotNumbered : MethodName := ⟨RX6, "dyedLotNumbered", "(I)LDyehouseLedger$Lot;"⟩
abbrev cX6_shadedLotNumbered : ByteArray := prog_1_method_55_code
def yX6_shadedLotNumbered : MethodName := ⟨RX6, "shadedLotNumbered", "(I)LDyehouseLedger$Lot;"⟩
abbrev cX6_reasonAgainst : ByteArray := prog_1_method_56_code
def yX6_reasonAgainst : MethodName := ⟨RX6, "reasonAgainst", "(LDyehouseLedger$Lot;LDyehouseLedger$Vat;)C"⟩
abbrev cX6_isTooDark : ByteArray := prog_1_method_57_code
def yX6_isTooDark : MethodName := ⟨RX6, "isTooDark", "(II)Z"⟩
abbrev cX6_isBarred : ByteArray := prog_1_method_58_code
def yX6_isBarred : MethodName := ⟨RX6, "isBarred", "(II)Z"⟩
abbrev cX6_isStocked : ByteArray := prog_1_method_59_code
def yX6_isStocked : MethodName := ⟨RX6, "isStocked", "(LDyehouseLedger$Lot;)Z"⟩
abbrev cX6_takeDyesFor : ByteArray := prog_1_method_60_code
def yX6_takeDyesFor : MethodName := ⟨RX6, "takeDyesFor", "(LDyehouseLedger$Lot;)V"⟩
abbrev cX6_verdictOn : ByteArray := prog_1_method_61_code
def yX6_verdictOn : MethodName := ⟨RX6, "verdictOn", "(LDyehouseLedger$Lot;)C"⟩
abbrev cX6_greatestDistanceFromPassed : ByteArray := prog_1_method_62_code
def yX6_greatestDistanceFromPassed : MethodName := ⟨RX6, "greatestDistanceFromPassed", "(LDyehouseLedger$Lot;)I"⟩
abbrev cX6_barVatOf : ByteArray := prog_1_method_63_code
def yX6_barVatOf : MethodName := ⟨RX6, "barVatOf", "(LDyehouseLedger$Lot;)V"⟩
abbrev cX6_lotsInState : ByteArray := prog_1_method_64_code
def yX6_lotsInState : MethodName := ⟨RX6, "lotsInState", "(C)I"⟩
abbrev cX6_plannedLots : ByteArray := prog_1_method_65_code
def yX6_plannedLots : MethodName := ⟨RX6, "plannedLots", "(LDyehouseLedger$Vat;)I"⟩
abbrev cX6_fillPlan : ByteArray := prog_1_method_66_code
def yX6_fillPlan : MethodName := ⟨RX6, "fillPlan", "(LDyehouseLedger$Vat;)V"⟩
abbrev cX6_placeByLight : ByteArray := prog_1_method_67_code
def yX6_placeByLight : MethodName := ⟨RX6, "placeByLight", "(LDyehouseLedger$Lot;)I"⟩
abbrev cX6_daysLate : ByteArray := prog_1_method_68_code
def yX6_daysLate : MethodName := ⟨RX6, "daysLate", "(LDyehouseLedger$Order;)I"⟩
abbrev cX6_amountDue : ByteArray := prog_1_method_69_code
def yX6_amountDue : MethodName := ⟨RX6, "amountDue", "(LDyehouseLedger$Order;)I"⟩
def RX7 : String := "DyehouseLedgerModel"
def TX7 : u_T := fun k => match k with
  | 0 => ("DyehouseLedgerModel", "thrown", "I", false)
  | 1 => ("DyehouseLedgerModel", "recipes", "I", false)
  | 2 => ("DyehouseLedgerModel", "orders", "I", false)
  | 3 => ("DyehouseLedgerModel", "lots", "I", false)
  | 4 => ("DyehouseLedgerModel", "vats", "I", false)
  | 5 => ("DyehouseLedgerModel", "shade", "[I", true)
  | 6 => ("DyehouseLedgerModel", "grams", "[I", true)
  | 7 => ("DyehouseLedgerModel", "stock", "[I", true)
  | 8 => ("DyehouseLedgerModel", "used", "[J", true)
  | 9 => ("DyehouseLedgerModel", "customer", "[I", true)
  | 10 => ("DyehouseLedgerModel", "recipe", "[I", true)
  | 11 => ("DyehouseLedgerModel", "bound", "[I", true)
  | 12 => ("DyehouseLedgerModel", "day", "[I", true)
  | 13 => ("DyehouseLedgerModel", "price", "[I", true)
  | 14 => ("DyehouseLedgerModel", "order", "[I", true)
  | 15 => ("DyehouseLedgerModel", "weight", "[I", true)
  | 16 => ("DyehouseLedgerModel", "out", "[I", true)
  | 17 => ("DyehouseLedgerModel", "vat", "[I", true)
  | 18 => ("DyehouseLedgerModel", "at", "[I", true)
  | 19 => ("DyehouseLedgerModel", "cleaned", "[I", true)
  | 20 => ("DyehouseLedgerModel", "plan", "[I", true)
  | 21 => ("DyehouseLedgerModel", "state", "[C", true)
  | 22 => ("DyehouseLedgerModel", "room", "[I", true)
  | 23 => ("DyehouseLedgerModel", "light", "[I", true)
  | 24 => ("DyehouseLedgerModel", "barred", "[I", true)
  | 25 => ("DyehouseLedgerModel", "clock", "[I", true)
  | 26 => ("DyehouseLedgerModel", "cleanings", "[I", true)
  | 27 => ("DyehouseLedgerModel", "row", "[I", true)
  | _ => ("DyehouseLedgerModel", "taken", "[I", true)
def tyX7 : Nat → FieldType := fun k => match k with
  | 0 => .int
  | 1 => .int
  | 2 => .int
  | 3 => .int
  | 4 => .int
  | 5 => .array .int
  | 6 => .array .int
  | 7 => .array .int
  | 8 => .array .long
  | 9 => .array .int
  | 10 => .array .int
  | 11 => .array .int
  | 12 => .array .int
  | 13 => .array .int
  | 14 => .array .int
  | 15 => .array .int
  | 16 => .array .int
  | 17 => .array .int
  | 18 => .array .int
  | 19 => .array .int
  | 20 => .array .int
  | 21 => .array .char
  | 22 => .array .int
  | 23 => .array .int
  | 24 => .array .int
  | 25 => .array .int
  | 26 => .array .int
  | 27 => .array .int
  | _ => .array .int
abbrev wsX70 : List Cond := u_ws RX7 TX7 29
theorem nmX7 : ∀ a, a < 29 → ∀ b, b < 29 → a ≠ b → (TX7 a).2.1 ≠ (TX7 b).2.1 := by decide +kernel
theorem tyX7_ok : ∀ k, k < 29 → parseFieldDescriptor (TX7 k).2.2.1 = some (tyX7 k) := by decide +kernel
abbrev cX7_init : ByteArray := prog_9_method_1_code
def yX7_init : MethodName := ⟨RX7, "<init>", "()V"⟩
abbrev cX7_thrown : ByteArray := prog_9_method_2_code
def yX7_thrown : MethodName := ⟨RX7, "thrown", "()I"⟩
abbrev cX7_refuse : ByteArray := prog_9_method_3_code
def yX7_refuse : MethodName := ⟨RX7, "refuse", "(I)I"⟩
abbrev cX7_isIn : ByteArray := prog_9_method_4_code
def yX7_isIn : MethodName := ⟨RX7, "isIn", "(III)Z"⟩
abbrev cX7_isShade : ByteArray := prog_9_method_5_code
def yX7_isShade : MethodName := ⟨RX7, "isShade", "(III)Z"⟩
abbrev cX7_noLot : ByteArray := prog_9_method_6_code
def yX7_noLot : MethodName := ⟨RX7, "noLot", "(I)Z"⟩
abbrev cX7_noVat : ByteArray := prog_9_method_7_code
def yX7_noVat : MethodName := ⟨RX7, "noVat", "(I)Z"⟩
abbrev cX7_noOrder : ByteArray := prog_9_method_8_code
def yX7_noOrder : MethodName := ⟨RX7, "noOrder", "(I)Z"⟩
abbrev cX7_noDye : ByteArray := prog_9_method_9_code
def yX7_noDye : MethodName := ⟨RX7, "noDye", "(I)Z"⟩
abbrev cX7_addRecipe : ByteArray := prog_9_method_10_code
def yX7_addRecipe : MethodName := ⟨RX7, "addRecipe", "(III)I"⟩
abbrev cX7_setDye : ByteArray := prog_9_method_11_code
def yX7_setDye : MethodName := ⟨RX7, "setDye", "(III)I"⟩
abbrev cX7_supply : ByteArray := prog_9_method_12_code
def yX7_supply : MethodName := ⟨RX7, "supply", "(II)I"⟩
abbrev cX7_stock : ByteArray := prog_9_method_13_code
def yX7_stock : MethodName := ⟨RX7, "stock", "(I)I"⟩
abbrev cX7_addOrder : ByteArray := prog_9_method_14_code
def yX7_addOrder : MethodName := ⟨RX7, "addOrder", "(IIIII)I"⟩
abbrev cX7_addLot : ByteArray := prog_9_method_15_code
def yX7_addLot : MethodName := ⟨RX7, "addLot", "(II)I"⟩
abbrev cX7_addVat : ByteArray := prog_9_method_16_code
def yX7_addVat : MethodName := ⟨RX7, "addVat", "(I)I"⟩
abbrev cX7_needed : ByteArray := prog_9_method_17_code
def yX7_needed : MethodName := ⟨RX7, "needed", "(II)I"⟩
abbrev cX7_needs : ByteArray := prog_9_method_18_code
def yX7_needs : MethodName := ⟨RX7, "needs", "(II)I"⟩
abbrev cX7_hours : ByteArray := prog_9_method_19_code
def yX7_hours : MethodName := ⟨RX7, "hours", "(I)I"⟩
abbrev cX7_hoursFor : ByteArray := prog_9_method_20_code
def yX7_hoursFor : MethodName := ⟨RX7, "hoursFor", "(I)I"⟩
abbrev cX7_lightOf : ByteArray := prog_9_method_21_code
def yX7_lightOf : MethodName := ⟨RX7, "lightOf", "(I)I"⟩
abbrev cX7_why : ByteArray := prog_9_method_22_code
def yX7_why : MethodName := ⟨RX7, "why", "(II)C"⟩
abbrev cX7_reason : ByteArray := prog_9_method_23_code
def yX7_reason : MethodName := ⟨RX7, "reason", "(II)C"⟩
abbrev cX7_dye : ByteArray := prog_9_method_24_code
def yX7_dye : MethodName := ⟨RX7, "dye", "(IIIII)I"⟩
abbrev cX7_clean : ByteArray := prog_9_method_25_code
def yX7_clean : MethodName := ⟨RX7, "clean", "(I)I"⟩
abbrev cX7_gap : ByteArray := prog_9_method_26_code
def yX7_gap : MethodName := ⟨RX7, "gap", "(II)I"⟩
abbrev cX7_off : ByteArray := prog_9_method_27_code
def yX7_off : MethodName := ⟨RX7, "off", "(I)I"⟩
abbrev cX7_apart : ByteArray := prog_9_method_28_code
def yX7_apart : MethodName := ⟨RX7, "apart", "(II)I"⟩
abbrev cX7_judged : ByteArray := prog_9_method_29_code
def yX7_judged : MethodName := ⟨RX7, "judged", "(I)C"⟩
abbrev cX7_isNot : ByteArray := prog_9_method_30_code
def yX7_isNot : MethodName := ⟨RX7, "isNot", "(IC)Z"⟩
abbrev cX7_verdict : ByteArray := prog_9_method_31_code
def yX7_verdict : MethodName := ⟨RX7, "verdict", "(I)C"⟩
abbrev cX7_judge : ByteArray := prog_9_method_32_code
def yX7_judge : MethodName := ⟨RX7, "judge", "(I)Z"⟩
abbrev cX7_waiting : ByteArray := prog_9_method_33_code
def yX7_waiting : MethodName := ⟨RX7, "waiting", "()I"⟩
abbrev cX7_again : ByteArray := prog_9_method_34_code
def yX7_again : MethodName := ⟨RX7, "again", "(I)I"⟩
abbrev cX7_inPlan : ByteArray := prog_9_method_35_code
def yX7_inPlan : MethodName := ⟨RX7, "inPlan", "(I)I"⟩
abbrev cX7_plan : ByteArray := prog_9_method_36_code
def yX7_plan : MethodName := ⟨RX7, "plan", "(II)I"⟩
abbrev cX7_unplan : ByteArray := prog_9_method_37_code
def yX7_unplan : MethodName := ⟨RX7, "unplan", "(I)I"⟩
abbrev cX7_planned : ByteArray := prog_9_method_38_code
def yX7_planned : MethodName := ⟨RX7, "planned", "(I)I"⟩
abbrev cX7_lotAt : ByteArray := prog_9_method_39_code
def yX7_lotAt : MethodName := ⟨RX7, "lotAt", "(II)I"⟩
abbrev cX7_plannedAt : ByteArray := prog_9_method_40_code
def yX7_plannedAt : MethodName := ⟨RX7, "plannedAt", "(II)I"⟩
abbrev cX7_lasts : ByteArray := prog_9_method_41_code
def yX7_lasts : MethodName := ⟨RX7, "lasts", "(II)I"⟩
abbrev cX7_isNext : ByteArray := prog_9_method_42_code
def yX7_isNext : MethodName := ⟨RX7, "isNext", "(I)Z"⟩
abbrev cX7_swap : ByteArray := prog_9_method_43_code
def yX7_swap : MethodName := ⟨RX7, "swap", "(II)V"⟩
abbrev cX7_least : ByteArray := prog_9_method_44_code
def yX7_least : MethodName := ⟨RX7, "least", "(I)I"⟩
abbrev cX7_leastHours : ByteArray := prog_9_method_45_code
def yX7_leastHours : MethodName := ⟨RX7, "leastHours", "(I)I"⟩
abbrev cX7_leastByAll : ByteArray := prog_9_method_46_code
def yX7_leastByAll : MethodName := ⟨RX7, "leastByAll", "(I)I"⟩
abbrev cX7_firstOf : ByteArray := prog_9_method_47_code
def yX7_firstOf : MethodName := ⟨RX7, "firstOf", "(I)I"⟩
abbrev cX7_recipes : ByteArray := prog_9_method_48_code
def yX7_recipes : MethodName := ⟨RX7, "recipes", "()I"⟩
abbrev cX7_lots : ByteArray := prog_9_method_49_code
def yX7_lots : MethodName := ⟨RX7, "lots", "()I"⟩
abbrev cX7_stateOf : ByteArray := prog_9_method_50_code
def yX7_stateOf : MethodName := ⟨RX7, "stateOf", "(I)C"⟩
abbrev cX7_isWaiting : ByteArray := prog_9_method_51_code
def yX7_isWaiting : MethodName := ⟨RX7, "isWaiting", "(I)Z"⟩
abbrev cX7_shadeOf : ByteArray := prog_9_method_52_code
def yX7_shadeOf : MethodName := ⟨RX7, "shadeOf", "(II)I"⟩
abbrev cX7_vatOf : ByteArray := prog_9_method_53_code
def yX7_vatOf : MethodName := ⟨RX7, "vatOf", "(I)I"⟩
abbrev cX7_offBy : ByteArray := prog_9_method_54_code
def yX7_offBy : MethodName := ⟨RX7, "offBy", "(I)I"⟩
abbrev cX7_distance : ByteArray := prog_9_method_55_code
def yX7_distance : MethodName := ⟨RX7, "distance", "(II)I"⟩
abbrev cX7_nearest : ByteArray := prog_9_method_56_code
def yX7_nearest : MethodName := ⟨RX7, "nearest", "(I)I"⟩
abbrev cX7_isAhead : ByteArray := prog_9_method_57_code
def yX7_isAhead : MethodName := ⟨RX7, "isAhead", "(II)Z"⟩
abbrev cX7_byLight : ByteArray := prog_9_method_58_code
def yX7_byLight : MethodName := ⟨RX7, "byLight", "(I)I"⟩
abbrev cX7_clock : ByteArray := prog_9_method_59_code
def yX7_clock : MethodName := ⟨RX7, "clock", "(I)I"⟩
abbrev cX7_cleanings : ByteArray := prog_9_method_60_code
def yX7_cleanings : MethodName := ⟨RX7, "cleanings", "(I)I"⟩
abbrev cX7_lightIn : ByteArray := prog_9_method_61_code
def yX7_lightIn : MethodName := ⟨RX7, "lightIn", "(I)I"⟩
abbrev cX7_customerOf : ByteArray := prog_9_method_62_code
def yX7_customerOf : MethodName := ⟨RX7, "customerOf", "(I)I"⟩
abbrev cX7_lotsOf : ByteArray := prog_9_method_63_code
def yX7_lotsOf : MethodName := ⟨RX7, "lotsOf", "(I)I"⟩
abbrev cX7_passedOf : ByteArray := prog_9_method_64_code
def yX7_passedOf : MethodName := ⟨RX7, "passedOf", "(I)I"⟩
abbrev cX7_spread : ByteArray := prog_9_method_65_code
def yX7_spread : MethodName := ⟨RX7, "spread", "(I)I"⟩
abbrev cX7_late : ByteArray := prog_9_method_66_code
def yX7_late : MethodName := ⟨RX7, "late", "(I)I"⟩
abbrev cX7_lateBy : ByteArray := prog_9_method_67_code
def yX7_lateBy : MethodName := ⟨RX7, "lateBy", "(I)I"⟩
abbrev cX7_worth : ByteArray := prog_9_method_68_code
def yX7_worth : MethodName := ⟨RX7, "worth", "(I)I"⟩
abbrev cX7_due : ByteArray := prog_9_method_69_code
def yX7_due : MethodName := ⟨RX7, "due", "(I)I"⟩
abbrev cX7_dues : ByteArray := prog_9_method_70_code
def yX7_dues : MethodName := ⟨RX7, "dues", "(I)J"⟩
abbrev cX7_used : ByteArray := prog_9_method_71_code
def yX7_used : MethodName := ⟨RX7, "used", "(I)J"⟩
abbrev cX7_passedShare : ByteArray := prog_9_method_72_code
def yX7_passedShare : MethodName := ⟨RX7, "passedShare", "()F"⟩
abbrev cX7_meanOff : ByteArray := prog_9_method_73_code
def yX7_meanOff : MethodName := ⟨RX7, "meanOff", "()D"⟩
def RJx145de : String := "java/io/Serializable"
def TJx145de : u_T := fun k => match k with
  | _ => ("", "", "", false)
def tyJx145de : Nat → FieldType := fun k => match k with
  | _ => .int
abbrev wsJx145de0 : List Cond := u_ws RJx145de TJx145de 0
theorem nmJx145de : ∀ a, a < 0 → ∀ b, b < 0 → a ≠ b → (TJx145de a).2.1 ≠ (TJx145de b).2.1 := by decide +kernel
theorem tyJx145de_ok : ∀ k, k < 0 → parseFieldDescriptor (TJx145de k).2.2.1 = some (tyJx145de k) := by decide +kernel
def RJx00060 : String := "java/lang/ArrayIndexOutOfBoundsException"
def TJx00060 : u_T := fun k => match k with
  | 0 => ("java/lang/Throwable", "backtrace", "Ljava/lang/Object;", false)
  | 1 => ("java/lang/Throwable", "detailMessage", "Ljava/lang/String;", false)
  | 2 => ("java/lang/Throwable", "cause", "Ljava/lang/Throwable;", false)
  | 3 => ("java/lang/Throwable", "stackTrace", "[Ljava/lang/StackTraceElement;", false)
  | 4 => ("java/lang/Throwable", "depth", "I", false)
  | _ => ("java/lang/Throwable", "suppressedExceptions", "Ljava/util/List;", false)
def tyJx00060 : Nat → FieldType := fun k => match k with
  | 0 => .object "java/lang/Object"
  | 1 => .object "java/lang/String"
  | 2 => .object "java/lang/Throwable"
  | 3 => .array (.object "java/lang/StackTraceElement")
  | 4 => .int
  | _ => .object "java/util/List"
abbrev wsJx000600 : List Cond := u_ws RJx00060 TJx00060 6
theorem nmJx00060 : ∀ a, a < 6 → ∀ b, b < 6 → a ≠ b → (TJx00060 a).2.1 ≠ (TJx00060 b).2.1 := by decide +kernel
theorem tyJx00060_ok : ∀ k, k < 6 → parseFieldDescriptor (TJx00060 k).2.2.1 = some (tyJx00060 k) := by decide +kernel
abbrev cJx00060_init_a7421 : ByteArray := prog_12_method_2_code
def yJx00060_init_a7421 : MethodName := ⟨RJx00060, "<init>", "(Ljava/lang/String;)V"⟩
def RJ9 : String := "java/lang/Math"
def TJ9 : u_T := fun k => match k with
  | _ => ("", "", "", false)
def tyJ9 : Nat → FieldType := fun k => match k with
  | _ => .int
abbrev wsJ90 : List Cond := u_ws RJ9 TJ9 0
theorem nmJ9 : ∀ a, a < 0 → ∀ b, b < 0 → a ≠ b → (TJ9 a).2.1 ≠ (TJ9 b).2.1 := by decide +kernel
theorem tyJ9_ok : ∀ k, k < 0 → parseFieldDescriptor (TJ9 k).2.2.1 = some (tyJ9 k) := by decide +kernel
abbrev cJ9_abs_0f7a4 : ByteArray := prog_17_method_59_code
def yJ9_abs_0f7a4 : MethodName := ⟨RJ9, "abs", "(I)I"⟩
abbrev cJ9_max_7cf53 : ByteArray := prog_17_method_65_code
def yJ9_max_7cf53 : MethodName := ⟨RJ9, "max", "(II)I"⟩
abbrev cJ9_min_7cf53 : ByteArray := prog_17_method_69_code
def yJ9_min_7cf53 : MethodName := ⟨RJ9, "min", "(II)I"⟩
def RJ0 : String := "java/lang/String"
def TJ0 : u_T := fun k => match k with
  | 0 => ("java/lang/String", "value", "[B", true)
  | _ => ("java/lang/String", "coder", "B", true)
def tyJ0 : Nat → FieldType := fun k => match k with
  | 0 => .array .byte
  | _ => .byte
abbrev wsJ00 : List Cond := u_ws RJ0 TJ0 2
theorem nmJ0 : ∀ a, a < 2 → ∀ b, b < 2 → a ≠ b → (TJ0 a).2.1 ≠ (TJ0 b).2.1 := by decide +kernel
theorem tyJ0_ok : ∀ k, k < 2 → parseFieldDescriptor (TJ0 k).2.2.1 = some (tyJ0 k) := by decide +kernel
def RL : String := "DyehouseLedgerLaw"
abbrev cL_addRecipe : ByteArray := method_3_code
def yL_addRecipe : MethodName := ⟨RL, "addRecipe", "(LDyehouseLedger;III[J)I"⟩
abbrev cL_setDye : ByteArray := method_4_code
def yL_setDye : MethodName := ⟨RL, "setDye", "(LDyehouseLedger;III[J)I"⟩
abbrev cL_supply : ByteArray := method_5_code
def yL_supply : MethodName := ⟨RL, "supply", "(LDyehouseLedger;II[J)I"⟩
abbrev cL_stock : ByteArray := method_6_code
def yL_stock : MethodName := ⟨RL, "stock", "(LDyehouseLedger;I[J)I"⟩
abbrev cL_addOrder : ByteArray := method_7_code
def yL_addOrder : MethodName := ⟨RL, "addOrder", "(LDyehouseLedger;IIIII[J)I"⟩
abbrev cL_addLot : ByteArray := method_8_code
def yL_addLot : MethodName := ⟨RL, "addLot", "(LDyehouseLedger;II[J)I"⟩
abbrev cL_addVat : ByteArray := method_9_code
def yL_addVat : MethodName := ⟨RL, "addVat", "(LDyehouseLedger;I[J)I"⟩
abbrev cL_needs : ByteArray := method_10_code
def yL_needs : MethodName := ⟨RL, "needs", "(LDyehouseLedger;II[J)I"⟩
abbrev cL_hoursFor : ByteArray := method_11_code
def yL_hoursFor : MethodName := ⟨RL, "hoursFor", "(LDyehouseLedger;I[J)I"⟩
abbrev cL_reason : ByteArray := method_12_code
def yL_reason : MethodName := ⟨RL, "reason", "(LDyehouseLedger;II[J)I"⟩
abbrev cL_dye : ByteArray := method_13_code
def yL_dye : MethodName := ⟨RL, "dye", "(LDyehouseLedger;IIIII[J)I"⟩
abbrev cL_clean : ByteArray := method_14_code
def yL_clean : MethodName := ⟨RL, "clean", "(LDyehouseLedger;I[J)I"⟩
abbrev cL_verdict : ByteArray := method_15_code
def yL_verdict : MethodName := ⟨RL, "verdict", "(LDyehouseLedger;I[J)I"⟩
abbrev cL_judge : ByteArray := method_16_code
def yL_judge : MethodName := ⟨RL, "judge", "(LDyehouseLedger;I[J)I"⟩
abbrev cL_again : ByteArray := method_17_code
def yL_again : MethodName := ⟨RL, "again", "(LDyehouseLedger;I[J)I"⟩
abbrev cL_plan : ByteArray := method_18_code
def yL_plan : MethodName := ⟨RL, "plan", "(LDyehouseLedger;II[J)I"⟩
abbrev cL_unplan : ByteArray := method_19_code
def yL_unplan : MethodName := ⟨RL, "unplan", "(LDyehouseLedger;I[J)I"⟩
abbrev cL_planned : ByteArray := method_20_code
def yL_planned : MethodName := ⟨RL, "planned", "(LDyehouseLedger;I[J)I"⟩
abbrev cL_plannedAt : ByteArray := method_21_code
def yL_plannedAt : MethodName := ⟨RL, "plannedAt", "(LDyehouseLedger;II[J)I"⟩
abbrev cL_leastHours : ByteArray := method_22_code
def yL_leastHours : MethodName := ⟨RL, "leastHours", "(LDyehouseLedger;I[J)I"⟩
abbrev cL_leastByAll : ByteArray := method_23_code
def yL_leastByAll : MethodName := ⟨RL, "leastByAll", "(LDyehouseLedger;I[J)I"⟩
abbrev cL_firstOf : ByteArray := method_24_code
def yL_firstOf : MethodName := ⟨RL, "firstOf", "(LDyehouseLedger;I[J)I"⟩
abbrev cL_stateOf : ByteArray := method_25_code
def yL_stateOf : MethodName := ⟨RL, "stateOf", "(LDyehouseLedger;I[J)I"⟩
abbrev cL_shadeOf : ByteArray := method_26_code
def yL_shadeOf : MethodName := ⟨RL, "shadeOf", "(LDyehouseLedger;II[J)I"⟩
abbrev cL_vatOf : ByteArray := method_27_code
def yL_vatOf : MethodName := ⟨RL, "vatOf", "(LDyehouseLedger;I[J)I"⟩
abbrev cL_offBy : ByteArray := method_28_code
def yL_offBy : MethodName := ⟨RL, "offBy", "(LDyehouseLedger;I[J)I"⟩
abbrev cL_distance : ByteArray := method_29_code
def yL_distance : MethodName := ⟨RL, "distance", "(LDyehouseLedger;II[J)I"⟩
abbrev cL_nearest : ByteArray := method_30_code
def yL_nearest : MethodName := ⟨RL, "nearest", "(LDyehouseLedger;I[J)I"⟩
abbrev cL_byLight : ByteArray := method_31_code
def yL_byLight : MethodName := ⟨RL, "byLight", "(LDyehouseLedger;I[J)I"⟩
abbrev cL_clock : ByteArray := method_32_code
def yL_clock : MethodName := ⟨RL, "clock", "(LDyehouseLedger;I[J)I"⟩
abbrev cL_cleanings : ByteArray := method_33_code
def yL_cleanings : MethodName := ⟨RL, "cleanings", "(LDyehouseLedger;I[J)I"⟩
abbrev cL_lightIn : ByteArray := method_34_code
def yL_lightIn : MethodName := ⟨RL, "lightIn", "(LDyehouseLedger;I[J)I"⟩
abbrev cL_customerOf : ByteArray := method_35_code
def yL_customerOf : MethodName := ⟨RL, "customerOf", "(LDyehouseLedger;I[J)I"⟩
abbrev cL_lotsOf : ByteArray := method_36_code
def yL_lotsOf : MethodName := ⟨RL, "lotsOf", "(LDyehouseLedger;I[J)I"⟩
abbrev cL_passedOf : ByteArray := method_37_code
def yL_passedOf : MethodName := ⟨RL, "passedOf", "(LDyehouseLedger;I[J)I"⟩
abbrev cL_spread : ByteArray := method_38_code
def yL_spread : MethodName := ⟨RL, "spread", "(LDyehouseLedger;I[J)I"⟩
abbrev cL_lateBy : ByteArray := method_39_code
def yL_lateBy : MethodName := ⟨RL, "lateBy", "(LDyehouseLedger;I[J)I"⟩
abbrev cL_due : ByteArray := method_40_code
def yL_due : MethodName := ⟨RL, "due", "(LDyehouseLedger;I[J)I"⟩
abbrev cL_dues : ByteArray := method_41_code
def yL_dues : MethodName := ⟨RL, "dues", "(LDyehouseLedger;I[J)I"⟩
abbrev cL_used : ByteArray := method_42_code
def yL_used : MethodName := ⟨RL, "used", "(LDyehouseLedger;I[J)I"⟩
abbrev cL_passedShare : ByteArray := method_43_code
def yL_passedShare : MethodName := ⟨RL, "passedShare", "(LDyehouseLedger;[D)I"⟩
abbrev cL_meanOff : ByteArray := method_44_code
def yL_meanOff : MethodName := ⟨RL, "meanOff", "(LDyehouseLedger;[D)I"⟩
abbrev cL_law : ByteArray := code
def yL_law : MethodName := ⟨RL, "law", "([I)Z"⟩
def wsX4_init : List Cond := .code yX4_init cX4_init 4 none :: ([.methodLink RX4 1 objectInit, .instanceMethod objectInit, .code objectInit ⟨#[0xb1]⟩ 1 none, .fieldLink RX4 7 "DyehouseLedger$Shade" "light" "I", .fieldLink RX4 13 "DyehouseLedger$Shade" "red" "I", .fieldLink RX4 16 "DyehouseLedger$Shade" "blue" "I"] ++ wsX40)
def wsX0_init : List Cond := .code yX0_init cX0_init 4 none :: ([.methodLink RX0 3 objectInit, .instanceMethod objectInit, .code objectInit ⟨#[0xb1]⟩ 1 none, .fieldLink RX0 9 "DyehouseLedger$Lot" "number" "I", .fieldLink RX0 15 "DyehouseLedger$Lot" "order" "LDyehouseLedger$Order;", .fieldLink RX0 19 "DyehouseLedger$Lot" "weight" "I", .classLink RX0 22 RX4, .instantiable RX4 3, .initialized RX4, .fieldLink RX0 27 "DyehouseLedger$Lot" "shade" "LDyehouseLedger$Shade;", .fieldLink RX0 31 "DyehouseLedger$Lot" "state" "C", .methodLink RX0 24 yX4_init, .instanceMethod yX4_init, .code yX4_init cX4_init 4 none, .methodLink RX4 1 objectInit, .fieldLink RX4 7 "DyehouseLedger$Shade" "light" "I", .fieldLink RX4 13 "DyehouseLedger$Shade" "red" "I", .fieldLink RX4 16 "DyehouseLedger$Shade" "blue" "I"] ++ wsX00 ++ wsX40)
def wsX0_dyeingHours : List Cond := .code yX0_dyeingHours cX0_dyeingHours 1 (some .int) :: ([.fieldLink RX0 19 "DyehouseLedger$Lot" "weight" "I"] ++ wsX00)
def wsX0_gramsNeeded : List Cond := .code yX0_gramsNeeded cX0_gramsNeeded 2 (some .int) :: ([.fieldLink RX0 15 "DyehouseLedger$Lot" "order" "LDyehouseLedger$Order;", .fieldLink RX0 35 "DyehouseLedger$Order" "recipe" "LDyehouseLedger$Recipe;", .fieldLink RX0 41 "DyehouseLedger$Recipe" "grams" "[I", .fieldLink RX0 19 "DyehouseLedger$Lot" "weight" "I"] ++ wsX00 ++ wsX10 ++ wsX30 ++ (vx_atM "java/lang/ArrayIndexOutOfBoundsException" ["java/lang/IndexOutOfBoundsException", "java/lang/RuntimeException", "java/lang/Exception"]).filter goodWord)
def wsX4_distanceTo : List Cond := .code yX4_distanceTo cX4_distanceTo 2 (some .int) :: ([.fieldLink RX4 7 "DyehouseLedger$Shade" "light" "I", .methodLink RX4 19 Lib.Math.abs.name, .static Lib.Math.abs.name, .initialized "java/lang/Math", .code Lib.Math.abs.name Lib.Math.abs.code 1 (some .int), .fieldLink RX4 13 "DyehouseLedger$Shade" "red" "I", .fieldLink RX4 16 "DyehouseLedger$Shade" "blue" "I"] ++ wsX40)
def wsX0_distanceFromRecipe : List Cond := .code yX0_distanceFromRecipe cX0_distanceFromRecipe 1 (some .int) :: ([.fieldLink RX0 27 "DyehouseLedger$Lot" "shade" "LDyehouseLedger$Shade;", .fieldLink RX0 15 "DyehouseLedger$Lot" "order" "LDyehouseLedger$Order;", .fieldLink RX0 35 "DyehouseLedger$Order" "recipe" "LDyehouseLedger$Recipe;", .fieldLink RX0 47 "DyehouseLedger$Recipe" "shade" "LDyehouseLedger$Shade;", .methodLink RX0 48 yX4_distanceTo, .instanceMethod yX4_distanceTo, .selects RX4 yX4_distanceTo yX4_distanceTo, .initialized RX4, .code yX4_distanceTo cX4_distanceTo 2 (some .int), .fieldLink RX4 7 "DyehouseLedger$Shade" "light" "I", .methodLink RX4 19 Lib.Math.abs.name, .static Lib.Math.abs.name, .initialized "java/lang/Math", .code Lib.Math.abs.name Lib.Math.abs.code 1 (some .int), .fieldLink RX4 13 "DyehouseLedger$Shade" "red" "I", .fieldLink RX4 16 "DyehouseLedger$Shade" "blue" "I"] ++ wsX00 ++ wsX10 ++ wsX30 ++ wsX40)
def wsX0_isPassedOf : List Cond := .code yX0_isPassedOf cX0_isPassedOf 2 (some .boolean) :: ([.fieldLink RX0 15 "DyehouseLedger$Lot" "order" "LDyehouseLedger$Order;", .fieldLink RX0 31 "DyehouseLedger$Lot" "state" "C"] ++ wsX00)
def wsX0_comesBeforeByLight : List Cond := .code yX0_comesBeforeByLight cX0_comesBeforeByLight 2 (some .boolean) :: ([.fieldLink RX0 27 "DyehouseLedger$Lot" "shade" "LDyehouseLedger$Shade;", .fieldLink RX0 52 "DyehouseLedger$Shade" "light" "I", .fieldLink RX0 55 "DyehouseLedger$Shade" "red" "I", .fieldLink RX0 58 "DyehouseLedger$Shade" "blue" "I", .fieldLink RX0 9 "DyehouseLedger$Lot" "number" "I"] ++ wsX00 ++ wsX40)
def wsX1_init : List Cond := .code yX1_init cX1_init 6 none :: ([.methodLink RX1 1 objectInit, .instanceMethod objectInit, .code objectInit ⟨#[0xb1]⟩ 1 none, .fieldLink RX1 7 "DyehouseLedger$Order" "customer" "I", .fieldLink RX1 13 "DyehouseLedger$Order" "recipe" "LDyehouseLedger$Recipe;", .fieldLink RX1 17 "DyehouseLedger$Order" "bound" "I", .fieldLink RX1 20 "DyehouseLedger$Order" "day" "I", .fieldLink RX1 23 "DyehouseLedger$Order" "price" "I"] ++ wsX10)
def wsX2_init : List Cond := .code yX2_init cX2_init 1 none :: ([.methodLink RX2 3 objectInit, .instanceMethod objectInit, .code objectInit ⟨#[0xb1]⟩ 1 none, .arrayClass .int, .fieldLink RX2 9 "DyehouseLedger$Plan" "numbers" "[I", .fieldLink RX2 15 "DyehouseLedger$Plan" "lights" "[I", .fieldLink RX2 18 "DyehouseLedger$Plan" "customers" "[I", .fieldLink RX2 21 "DyehouseLedger$Plan" "hours" "[I"] ++ wsX20)
def wsX2_begin : List Cond := .code yX2_begin cX2_begin 2 none :: ([.fieldLink RX2 24 "DyehouseLedger$Plan" "size" "I", .fieldLink RX2 28 "DyehouseLedger$Vat" "light" "I", .fieldLink RX2 33 "DyehouseLedger$Plan" "lightAtFirst" "I", .fieldLink RX2 36 "DyehouseLedger$Vat" "onlyCustomer" "I", .fieldLink RX2 39 "DyehouseLedger$Plan" "onlyCustomerAtFirst" "I"] ++ wsX20 ++ wsX50)
def wsX2_add : List Cond := .code yX2_add cX2_add 2 none :: ([.fieldLink RX2 24 "DyehouseLedger$Plan" "size" "I", .fieldLink RX2 9 "DyehouseLedger$Plan" "numbers" "[I", .fieldLink RX2 42 "DyehouseLedger$Lot" "number" "I", .fieldLink RX2 15 "DyehouseLedger$Plan" "lights" "[I", .fieldLink RX2 47 "DyehouseLedger$Lot" "order" "LDyehouseLedger$Order;", .fieldLink RX2 51 "DyehouseLedger$Order" "recipe" "LDyehouseLedger$Recipe;", .fieldLink RX2 57 "DyehouseLedger$Recipe" "shade" "LDyehouseLedger$Shade;", .fieldLink RX2 63 "DyehouseLedger$Shade" "light" "I", .fieldLink RX2 18 "DyehouseLedger$Plan" "customers" "[I", .fieldLink RX2 66 "DyehouseLedger$Order" "customer" "I", .fieldLink RX2 21 "DyehouseLedger$Plan" "hours" "[I", .methodLink RX2 69 yX0_dyeingHours, .instanceMethod yX0_dyeingHours, .selects RX0 yX0_dyeingHours yX0_dyeingHours, .initialized RX0, .code yX0_dyeingHours cX0_dyeingHours 1 (some .int), .fieldLink RX0 19 "DyehouseLedger$Lot" "weight" "I"] ++ wsX20 ++ wsX00 ++ wsX10 ++ wsX30 ++ wsX40 ++ (vx_atM "java/lang/ArrayIndexOutOfBoundsException" ["java/lang/IndexOutOfBoundsException", "java/lang/RuntimeException", "java/lang/Exception"]).filter goodWord)
def wsX2_dyeingHours : List Cond := .code yX2_dyeingHours cX2_dyeingHours 3 (some .int) :: ([.fieldLink RX2 24 "DyehouseLedger$Plan" "size" "I", .fieldLink RX2 21 "DyehouseLedger$Plan" "hours" "[I"] ++ wsX20 ++ (vx_atM "java/lang/ArrayIndexOutOfBoundsException" ["java/lang/IndexOutOfBoundsException", "java/lang/RuntimeException", "java/lang/Exception"]).filter goodWord)
def wsX6_isTooDark : List Cond := .code yX6_isTooDark cX6_isTooDark 2 (some .boolean) :: ([])
def wsX6_isBarred : List Cond := .code yX6_isBarred cX6_isBarred 2 (some .boolean) :: ([])
def wsX2_mustBeCleaned : List Cond := .code yX2_mustBeCleaned cX2_mustBeCleaned 4 (some .boolean) :: ([.fieldLink RX2 15 "DyehouseLedger$Plan" "lights" "[I", .fieldLink RX2 18 "DyehouseLedger$Plan" "customers" "[I", .static yX6_isTooDark, .initialized RX6, .code yX6_isTooDark cX6_isTooDark 2 (some .boolean), .static yX6_isBarred, .code yX6_isBarred cX6_isBarred 2 (some .boolean)] ++ wsX20 ++ (vx_atM "java/lang/ArrayIndexOutOfBoundsException" ["java/lang/IndexOutOfBoundsException", "java/lang/RuntimeException", "java/lang/Exception"]).filter goodWord)
def wsX2_fewestFrom : List Cond := .code yX2_fewestFrom cX2_fewestFrom 10 (some .int) :: ([.fieldLink RX2 24 "DyehouseLedger$Plan" "size" "I", .fieldLink RX2 15 "DyehouseLedger$Plan" "lights" "[I", .methodLink RX2 84 yX2_mustBeCleaned, .instanceMethod yX2_mustBeCleaned, .selects RX2 yX2_mustBeCleaned yX2_mustBeCleaned, .initialized RX2, .code yX2_mustBeCleaned cX2_mustBeCleaned 4 (some .boolean), .fieldLink RX2 18 "DyehouseLedger$Plan" "customers" "[I", .static yX6_isTooDark, .initialized RX6, .code yX6_isTooDark cX6_isTooDark 2 (some .boolean), .static yX6_isBarred, .code yX6_isBarred cX6_isBarred 2 (some .boolean), .methodLink RX2 73 yX2_fewestFrom, .static yX2_fewestFrom] ++ wsX20 ++ (vx_atM "java/lang/ArrayIndexOutOfBoundsException" ["java/lang/IndexOutOfBoundsException", "java/lang/RuntimeException", "java/lang/Exception"]).filter goodWord)
def wsX2_fewestCleanings : List Cond := .code yX2_fewestCleanings cX2_fewestCleanings 1 (some .int) :: ([.fieldLink RX2 33 "DyehouseLedger$Plan" "lightAtFirst" "I", .fieldLink RX2 39 "DyehouseLedger$Plan" "onlyCustomerAtFirst" "I", .fieldLink RX2 24 "DyehouseLedger$Plan" "size" "I", .methodLink RX2 73 yX2_fewestFrom, .static yX2_fewestFrom, .initialized RX2, .code yX2_fewestFrom cX2_fewestFrom 10 (some .int), .fieldLink RX2 15 "DyehouseLedger$Plan" "lights" "[I", .methodLink RX2 84 yX2_mustBeCleaned, .instanceMethod yX2_mustBeCleaned, .selects RX2 yX2_mustBeCleaned yX2_mustBeCleaned, .code yX2_mustBeCleaned cX2_mustBeCleaned 4 (some .boolean), .fieldLink RX2 18 "DyehouseLedger$Plan" "customers" "[I", .static yX6_isTooDark, .initialized RX6, .code yX6_isTooDark cX6_isTooDark 2 (some .boolean), .static yX6_isBarred, .code yX6_isBarred cX6_isBarred 2 (some .boolean)] ++ wsX20 ++ (vx_atM "java/lang/ArrayIndexOutOfBoundsException" ["java/lang/IndexOutOfBoundsException", "java/lang/RuntimeException", "java/lang/Exception"]).filter goodWord)
def wsX2_fewestBeginningWith : List Cond := .code yX2_fewestBeginningWith cX2_fewestBeginningWith 5 (some .int) :: ([.fieldLink RX2 33 "DyehouseLedger$Plan" "lightAtFirst" "I", .fieldLink RX2 39 "DyehouseLedger$Plan" "onlyCustomerAtFirst" "I", .fieldLink RX2 15 "DyehouseLedger$Plan" "lights" "[I", .methodLink RX2 84 yX2_mustBeCleaned, .instanceMethod yX2_mustBeCleaned, .selects RX2 yX2_mustBeCleaned yX2_mustBeCleaned, .initialized RX2, .code yX2_mustBeCleaned cX2_mustBeCleaned 4 (some .boolean), .fieldLink RX2 18 "DyehouseLedger$Plan" "customers" "[I", .static yX6_isTooDark, .initialized RX6, .code yX6_isTooDark cX6_isTooDark 2 (some .boolean), .static yX6_isBarred, .code yX6_isBarred cX6_isBarred 2 (some .boolean), .methodLink RX2 73 yX2_fewestFrom, .static yX2_fewestFrom, .code yX2_fewestFrom cX2_fewestFrom 10 (some .int), .fieldLink RX2 24 "DyehouseLedger$Plan" "size" "I"] ++ wsX20 ++ (vx_atM "java/lang/ArrayIndexOutOfBoundsException" ["java/lang/IndexOutOfBoundsException", "java/lang/RuntimeException", "java/lang/Exception"]).filter goodWord)
def wsX2_firstOfBestOrder_r1 : List Cond := [Cond.fieldLink RX2 24 "DyehouseLedger$Plan" "size" "I", Cond.fieldLink RX2 9 "DyehouseLedger$Plan" "numbers" "[I", Cond.methodLink RX2 77 yX2_fewestCleanings, Cond.instanceMethod yX2_fewestCleanings, Cond.selects RX2 yX2_fewestCleanings yX2_fewestCleanings, Cond.initialized RX2, Cond.code yX2_fewestCleanings cX2_fewestCleanings 1 (some .int), Cond.fieldLink RX2 33 "DyehouseLedger$Plan" "lightAtFirst" "I", Cond.fieldLink RX2 39 "DyehouseLedger$Plan" "onlyCustomerAtFirst" "I", Cond.methodLink RX2 73 yX2_fewestFrom, Cond.static yX2_fewestFrom, Cond.code yX2_fewestFrom cX2_fewestFrom 10 (some .int), Cond.fieldLink RX2 15 "DyehouseLedger$Plan" "lights" "[I", Cond.methodLink RX2 84 yX2_mustBeCleaned, Cond.instanceMethod yX2_mustBeCleaned, Cond.selects RX2 yX2_mustBeCleaned yX2_mustBeCleaned, Cond.code yX2_mustBeCleaned cX2_mustBeCleaned 4 (some .boolean), Cond.fieldLink RX2 18 "DyehouseLedger$Plan" "customers" "[I", Cond.static yX6_isTooDark, Cond.initialized RX6, Cond.code yX6_isTooDark cX6_isTooDark 2 (some .boolean), Cond.static yX6_isBarred, Cond.code yX6_isBarred cX6_isBarred 2 (some .boolean), Cond.methodLink RX2 80 yX2_fewestBeginningWith]
def wsX2_firstOfBestOrder_r2 : List Cond := [Cond.instanceMethod yX2_fewestBeginningWith, Cond.selects RX2 yX2_fewestBeginningWith yX2_fewestBeginningWith, Cond.code yX2_fewestBeginningWith cX2_fewestBeginningWith 5 (some .int)]
def wsX2_firstOfBestOrder : List Cond := .code yX2_firstOfBestOrder cX2_firstOfBestOrder 3 (some .int) :: ((wsX2_firstOfBestOrder_r1 ++ wsX2_firstOfBestOrder_r2) ++ wsX20 ++ (vx_atM "java/lang/ArrayIndexOutOfBoundsException" ["java/lang/IndexOutOfBoundsException", "java/lang/RuntimeException", "java/lang/Exception"]).filter goodWord)
def wsX2_leastFrom : List Cond := .code yX2_leastFrom cX2_leastFrom 10 (some .int) :: ([.fieldLink RX2 24 "DyehouseLedger$Plan" "size" "I", .constant RX2 99 (1000000), .fieldLink RX2 21 "DyehouseLedger$Plan" "hours" "[I", .fieldLink RX2 15 "DyehouseLedger$Plan" "lights" "[I", .methodLink RX2 100 Lib.Math.min.name, .static Lib.Math.min.name, .initialized "java/lang/Math", .code Lib.Math.min.name Lib.Math.min.code 2 (some .int), .methodLink RX2 84 yX2_mustBeCleaned, .instanceMethod yX2_mustBeCleaned, .selects RX2 yX2_mustBeCleaned yX2_mustBeCleaned, .initialized RX2, .code yX2_mustBeCleaned cX2_mustBeCleaned 4 (some .boolean), .fieldLink RX2 18 "DyehouseLedger$Plan" "customers" "[I", .static yX6_isTooDark, .initialized RX6, .code yX6_isTooDark cX6_isTooDark 2 (some .boolean), .static yX6_isBarred, .code yX6_isBarred cX6_isBarred 2 (some .boolean), .methodLink RX2 88 yX2_leastFrom, .static yX2_leastFrom] ++ wsX20 ++ (vx_atM "java/lang/ArrayIndexOutOfBoundsException" ["java/lang/IndexOutOfBoundsException", "java/lang/RuntimeException", "java/lang/Exception"]).filter goodWord)
def wsX2_leastOfAllOrders : List Cond := .code yX2_leastOfAllOrders cX2_leastOfAllOrders 1 (some .int) :: ([.fieldLink RX2 33 "DyehouseLedger$Plan" "lightAtFirst" "I", .fieldLink RX2 39 "DyehouseLedger$Plan" "onlyCustomerAtFirst" "I", .methodLink RX2 88 yX2_leastFrom, .static yX2_leastFrom, .initialized RX2, .code yX2_leastFrom cX2_leastFrom 10 (some .int), .fieldLink RX2 24 "DyehouseLedger$Plan" "size" "I", .constant RX2 99 (1000000), .fieldLink RX2 21 "DyehouseLedger$Plan" "hours" "[I", .fieldLink RX2 15 "DyehouseLedger$Plan" "lights" "[I", .methodLink RX2 100 Lib.Math.min.name, .static Lib.Math.min.name, .initialized "java/lang/Math", .code Lib.Math.min.name Lib.Math.min.code 2 (some .int), .methodLink RX2 84 yX2_mustBeCleaned, .instanceMethod yX2_mustBeCleaned, .selects RX2 yX2_mustBeCleaned yX2_mustBeCleaned, .code yX2_mustBeCleaned cX2_mustBeCleaned 4 (some .boolean), .fieldLink RX2 18 "DyehouseLedger$Plan" "customers" "[I", .static yX6_isTooDark, .initialized RX6, .code yX6_isTooDark cX6_isTooDark 2 (some .boolean), .static yX6_isBarred, .code yX6_isBarred cX6_isBarred 2 (some .boolean)] ++ wsX20 ++ (vx_atM "java/lang/ArrayIndexOutOfBoundsException" ["java/lang/IndexOutOfBoundsException", "java/lang/RuntimeException", "java/lang/Exception"]).filter goodWord)
def wsX3_init : List Cond := .code yX3_init cX3_init 2 none :: ([.methodLink RX3 3 objectInit, .instanceMethod objectInit, .code objectInit ⟨#[0xb1]⟩ 1 none, .fieldLink RX3 9 "DyehouseLedger$Recipe" "shade" "LDyehouseLedger$Shade;", .arrayClass .int, .fieldLink RX3 15 "DyehouseLedger$Recipe" "grams" "[I"] ++ wsX30)
def wsX4_set : List Cond := .code yX4_set cX4_set 4 none :: ([.fieldLink RX4 7 "DyehouseLedger$Shade" "light" "I", .fieldLink RX4 13 "DyehouseLedger$Shade" "red" "I", .fieldLink RX4 16 "DyehouseLedger$Shade" "blue" "I"] ++ wsX40)
def wsX5_init : List Cond := .code yX5_init cX5_init 3 none :: ([.methodLink RX5 3 objectInit, .instanceMethod objectInit, .code objectInit ⟨#[0xb1]⟩ 1 none, .fieldLink RX5 9 "DyehouseLedger$Vat" "number" "I", .fieldLink RX5 15 "DyehouseLedger$Vat" "mostWeight" "I", .fieldLink RX5 18 "DyehouseLedger$Vat" "light" "I", .fieldLink RX5 21 "DyehouseLedger$Vat" "onlyCustomer" "I"] ++ wsX50)
def wsX6_init_r1 : List Cond := [Cond.methodLink RX6 1 objectInit, Cond.instanceMethod objectInit, Cond.code objectInit ⟨#[0xb1]⟩ 1 none, Cond.classLink RX6 9 RX3, Cond.fieldLink RX6 11 "DyehouseLedger" "allRecipes" "[LDyehouseLedger$Recipe;", Cond.classLink RX6 15 RX1, Cond.fieldLink RX6 17 "DyehouseLedger" "allOrders" "[LDyehouseLedger$Order;", Cond.classLink RX6 21 RX0, Cond.fieldLink RX6 23 "DyehouseLedger" "allLots" "[LDyehouseLedger$Lot;", Cond.classLink RX6 27 RX5, Cond.fieldLink RX6 29 "DyehouseLedger" "allVats" "[LDyehouseLedger$Vat;", Cond.arrayClass .int, Cond.fieldLink RX6 33 "DyehouseLedger" "gramsInStock" "[I", Cond.arrayClass .long, Cond.fieldLink RX6 37 "DyehouseLedger" "gramsUsed" "[J", Cond.classLink RX6 41 RX2, Cond.instantiable RX2 7, Cond.initialized RX2, Cond.fieldLink RX6 44 "DyehouseLedger" "planAtHand" "LDyehouseLedger$Plan;", Cond.methodLink RX6 43 yX2_init, Cond.instanceMethod yX2_init, Cond.code yX2_init cX2_init 1 none, Cond.methodLink RX2 3 objectInit, Cond.fieldLink RX2 9 "DyehouseLedger$Plan" "numbers" "[I"]
def wsX6_init_r2 : List Cond := [Cond.fieldLink RX2 15 "DyehouseLedger$Plan" "lights" "[I", Cond.fieldLink RX2 18 "DyehouseLedger$Plan" "customers" "[I", Cond.fieldLink RX2 21 "DyehouseLedger$Plan" "hours" "[I"]
def wsX6_init : List Cond := .code yX6_init cX6_init 1 none :: ((wsX6_init_r1 ++ wsX6_init_r2) ++ wsX60 ++ wsX20)
def wsX6_checkRange : List Cond := .code yX6_checkRange cX6_checkRange 3 none :: ([.classLink RX6 266 "java/lang/IllegalArgumentException", .initialized "java/lang/IllegalArgumentException"] ++ (vx_at0 RX6 268 "java/lang/IllegalArgumentException" ["java/lang/RuntimeException", "java/lang/Exception"]).filter goodWord)
def wsX6_checkShade : List Cond := .code yX6_checkShade cX6_checkShade 3 none :: ([.methodLink RX6 74 yX6_checkRange, .static yX6_checkRange, .initialized RX6, .code yX6_checkRange cX6_checkRange 3 none, .classLink RX6 266 "java/lang/IllegalArgumentException", .initialized "java/lang/IllegalArgumentException"] ++ (vx_at0 RX6 268 "java/lang/IllegalArgumentException" ["java/lang/RuntimeException", "java/lang/Exception"]).filter goodWord)
def wsX6_addRecipe_r1 : List Cond := [Cond.classLink RX6 56 "java/lang/IllegalStateException", Cond.initialized "java/lang/IllegalStateException", Cond.fieldLink RX6 52 "DyehouseLedger" "recipeCount" "I", Cond.fieldLink RX6 11 "DyehouseLedger" "allRecipes" "[LDyehouseLedger$Recipe;", Cond.classLink RX6 9 RX3, Cond.instantiable RX3 2, Cond.initialized RX3, Cond.classLink RX6 59 RX4, Cond.instantiable RX4 3, Cond.initialized RX4, Cond.methodLink RX6 48 yX6_checkShade, Cond.static yX6_checkShade, Cond.initialized RX6, Cond.code yX6_checkShade cX6_checkShade 3 none, Cond.methodLink RX6 74 yX6_checkRange, Cond.static yX6_checkRange, Cond.code yX6_checkRange cX6_checkRange 3 none, Cond.classLink RX6 266 "java/lang/IllegalArgumentException", Cond.initialized "java/lang/IllegalArgumentException", Cond.methodLink RX6 61 yX4_init, Cond.instanceMethod yX4_init, Cond.code yX4_init cX4_init 4 none, Cond.methodLink RX4 1 objectInit, Cond.instanceMethod objectInit]
def wsX6_addRecipe_r2 : List Cond := [Cond.code objectInit ⟨#[0xb1]⟩ 1 none, Cond.fieldLink RX4 7 "DyehouseLedger$Shade" "light" "I", Cond.fieldLink RX4 13 "DyehouseLedger$Shade" "red" "I", Cond.fieldLink RX4 16 "DyehouseLedger$Shade" "blue" "I", Cond.methodLink RX6 63 yX3_init, Cond.instanceMethod yX3_init, Cond.code yX3_init cX3_init 2 none, Cond.methodLink RX3 3 objectInit, Cond.fieldLink RX3 9 "DyehouseLedger$Recipe" "shade" "LDyehouseLedger$Shade;", Cond.arrayClass .int, Cond.fieldLink RX3 15 "DyehouseLedger$Recipe" "grams" "[I"]
def wsX6_addRecipe : List Cond := .code yX6_addRecipe cX6_addRecipe 4 (some .int) :: ((wsX6_addRecipe_r1 ++ wsX6_addRecipe_r2) ++ wsX60 ++ wsX30 ++ wsX40 ++ (vx_at0 RX6 58 "java/lang/IllegalStateException" ["java/lang/RuntimeException", "java/lang/Exception"]).filter goodWord ++ (vx_at0 RX6 268 "java/lang/IllegalArgumentException" ["java/lang/RuntimeException", "java/lang/Exception"]).filter goodWord)
def wsX6_recipeNumbered : List Cond := .code yX6_recipeNumbered cX6_recipeNumbered 3 (some (.object "DyehouseLedger$Recipe")) :: ([.classLink RX6 269 "java/util/NoSuchElementException", .initialized "java/util/NoSuchElementException", .fieldLink RX6 11 "DyehouseLedger" "allRecipes" "[LDyehouseLedger$Recipe;"] ++ wsX60 ++ (vx_at0 RX6 271 "java/util/NoSuchElementException" ["java/lang/RuntimeException", "java/lang/Exception"]).filter goodWord)
def wsX6_checkDye : List Cond := .code yX6_checkDye cX6_checkDye 1 none :: ([.methodLink RX6 74 yX6_checkRange, .static yX6_checkRange, .initialized RX6, .code yX6_checkRange cX6_checkRange 3 none, .classLink RX6 266 "java/lang/IllegalArgumentException", .initialized "java/lang/IllegalArgumentException"] ++ (vx_at0 RX6 268 "java/lang/IllegalArgumentException" ["java/lang/RuntimeException", "java/lang/Exception"]).filter goodWord)
def wsX6_setDye : List Cond := .code yX6_setDye cX6_setDye 6 (some .int) :: ([.fieldLink RX6 77 "DyehouseLedger$Recipe" "grams" "[I", .methodLink RX6 66 yX6_recipeNumbered, .instanceMethod yX6_recipeNumbered, .selects RX6 yX6_recipeNumbered yX6_recipeNumbered, .initialized RX6, .code yX6_recipeNumbered cX6_recipeNumbered 3 (some (.object "DyehouseLedger$Recipe")), .classLink RX6 269 "java/util/NoSuchElementException", .initialized "java/util/NoSuchElementException", .fieldLink RX6 11 "DyehouseLedger" "allRecipes" "[LDyehouseLedger$Recipe;", .methodLink RX6 70 yX6_checkDye, .static yX6_checkDye, .code yX6_checkDye cX6_checkDye 1 none, .methodLink RX6 74 yX6_checkRange, .static yX6_checkRange, .code yX6_checkRange cX6_checkRange 3 none, .classLink RX6 266 "java/lang/IllegalArgumentException", .initialized "java/lang/IllegalArgumentException"] ++ wsX30 ++ wsX60 ++ (vx_atM "java/lang/ArrayIndexOutOfBoundsException" ["java/lang/IndexOutOfBoundsException", "java/lang/RuntimeException", "java/lang/Exception"]).filter goodWord ++ (vx_at0 RX6 271 "java/util/NoSuchElementException" ["java/lang/RuntimeException", "java/lang/Exception"]).filter goodWord ++ (vx_at0 RX6 268 "java/lang/IllegalArgumentException" ["java/lang/RuntimeException", "java/lang/Exception"]).filter goodWord)
def wsX6_supply : List Cond := .code yX6_supply cX6_supply 3 (some .int) :: ([.classLink RX6 56 "java/lang/IllegalStateException", .initialized "java/lang/IllegalStateException", .constant RX6 80 (99999), .fieldLink RX6 33 "DyehouseLedger" "gramsInStock" "[I", .constant RX6 81 (9999999), .methodLink RX6 70 yX6_checkDye, .static yX6_checkDye, .initialized RX6, .code yX6_checkDye cX6_checkDye 1 none, .methodLink RX6 74 yX6_checkRange, .static yX6_checkRange, .code yX6_checkRange cX6_checkRange 3 none, .classLink RX6 266 "java/lang/IllegalArgumentException", .initialized "java/lang/IllegalArgumentException"] ++ wsX60 ++ (vx_atM "java/lang/ArrayIndexOutOfBoundsException" ["java/lang/IndexOutOfBoundsException", "java/lang/RuntimeException", "java/lang/Exception"]).filter goodWord ++ (vx_at0 RX6 58 "java/lang/IllegalStateException" ["java/lang/RuntimeException", "java/lang/Exception"]).filter goodWord ++ (vx_at0 RX6 268 "java/lang/IllegalArgumentException" ["java/lang/RuntimeException", "java/lang/Exception"]).filter goodWord)
def wsX6_stock : List Cond := .code yX6_stock cX6_stock 2 (some .int) :: ([.fieldLink RX6 33 "DyehouseLedger" "gramsInStock" "[I", .methodLink RX6 70 yX6_checkDye, .static yX6_checkDye, .initialized RX6, .code yX6_checkDye cX6_checkDye 1 none, .methodLink RX6 74 yX6_checkRange, .static yX6_checkRange, .code yX6_checkRange cX6_checkRange 3 none, .classLink RX6 266 "java/lang/IllegalArgumentException", .initialized "java/lang/IllegalArgumentException"] ++ wsX60 ++ (vx_atM "java/lang/ArrayIndexOutOfBoundsException" ["java/lang/IndexOutOfBoundsException", "java/lang/RuntimeException", "java/lang/Exception"]).filter goodWord ++ (vx_at0 RX6 268 "java/lang/IllegalArgumentException" ["java/lang/RuntimeException", "java/lang/Exception"]).filter goodWord)
def wsX6_checkCustomer : List Cond := .code yX6_checkCustomer cX6_checkCustomer 1 none :: ([.methodLink RX6 74 yX6_checkRange, .static yX6_checkRange, .initialized RX6, .code yX6_checkRange cX6_checkRange 3 none, .classLink RX6 266 "java/lang/IllegalArgumentException", .initialized "java/lang/IllegalArgumentException"] ++ (vx_at0 RX6 268 "java/lang/IllegalArgumentException" ["java/lang/RuntimeException", "java/lang/Exception"]).filter goodWord)
def wsX6_addOrder_r1 : List Cond := [Cond.classLink RX6 56 "java/lang/IllegalStateException", Cond.initialized "java/lang/IllegalStateException", Cond.fieldLink RX6 85 "DyehouseLedger" "orderCount" "I", Cond.fieldLink RX6 17 "DyehouseLedger" "allOrders" "[LDyehouseLedger$Order;", Cond.classLink RX6 15 RX1, Cond.instantiable RX1 5, Cond.initialized RX1, Cond.methodLink RX6 66 yX6_recipeNumbered, Cond.instanceMethod yX6_recipeNumbered, Cond.selects RX6 yX6_recipeNumbered yX6_recipeNumbered, Cond.initialized RX6, Cond.code yX6_recipeNumbered cX6_recipeNumbered 3 (some (.object "DyehouseLedger$Recipe")), Cond.classLink RX6 269 "java/util/NoSuchElementException", Cond.initialized "java/util/NoSuchElementException", Cond.fieldLink RX6 11 "DyehouseLedger" "allRecipes" "[LDyehouseLedger$Recipe;", Cond.methodLink RX6 82 yX6_checkCustomer, Cond.static yX6_checkCustomer, Cond.code yX6_checkCustomer cX6_checkCustomer 1 none, Cond.methodLink RX6 74 yX6_checkRange, Cond.static yX6_checkRange, Cond.code yX6_checkRange cX6_checkRange 3 none, Cond.classLink RX6 266 "java/lang/IllegalArgumentException", Cond.initialized "java/lang/IllegalArgumentException", Cond.methodLink RX6 88 yX1_init]
def wsX6_addOrder_r2 : List Cond := [Cond.instanceMethod yX1_init, Cond.code yX1_init cX1_init 6 none, Cond.methodLink RX1 1 objectInit, Cond.instanceMethod objectInit, Cond.code objectInit ⟨#[0xb1]⟩ 1 none, Cond.fieldLink RX1 7 "DyehouseLedger$Order" "customer" "I", Cond.fieldLink RX1 13 "DyehouseLedger$Order" "recipe" "LDyehouseLedger$Recipe;", Cond.fieldLink RX1 17 "DyehouseLedger$Order" "bound" "I", Cond.fieldLink RX1 20 "DyehouseLedger$Order" "day" "I", Cond.fieldLink RX1 23 "DyehouseLedger$Order" "price" "I"]
def wsX6_addOrder : List Cond := .code yX6_addOrder cX6_addOrder 7 (some .int) :: ((wsX6_addOrder_r1 ++ wsX6_addOrder_r2) ++ wsX60 ++ wsX10 ++ (vx_at0 RX6 58 "java/lang/IllegalStateException" ["java/lang/RuntimeException", "java/lang/Exception"]).filter goodWord ++ (vx_at0 RX6 271 "java/util/NoSuchElementException" ["java/lang/RuntimeException", "java/lang/Exception"]).filter goodWord ++ (vx_at0 RX6 268 "java/lang/IllegalArgumentException" ["java/lang/RuntimeException", "java/lang/Exception"]).filter goodWord)
def wsX6_orderNumbered : List Cond := .code yX6_orderNumbered cX6_orderNumbered 3 (some (.object "DyehouseLedger$Order")) :: ([.classLink RX6 269 "java/util/NoSuchElementException", .initialized "java/util/NoSuchElementException", .fieldLink RX6 17 "DyehouseLedger" "allOrders" "[LDyehouseLedger$Order;"] ++ wsX60 ++ (vx_at0 RX6 271 "java/util/NoSuchElementException" ["java/lang/RuntimeException", "java/lang/Exception"]).filter goodWord)
def wsX6_addLot_r1 : List Cond := [Cond.classLink RX6 56 "java/lang/IllegalStateException", Cond.initialized "java/lang/IllegalStateException", Cond.fieldLink RX6 95 "DyehouseLedger" "lotCount" "I", Cond.fieldLink RX6 23 "DyehouseLedger" "allLots" "[LDyehouseLedger$Lot;", Cond.classLink RX6 21 RX0, Cond.instantiable RX0 9, Cond.initialized RX0, Cond.methodLink RX6 91 yX6_orderNumbered, Cond.instanceMethod yX6_orderNumbered, Cond.selects RX6 yX6_orderNumbered yX6_orderNumbered, Cond.initialized RX6, Cond.code yX6_orderNumbered cX6_orderNumbered 3 (some (.object "DyehouseLedger$Order")), Cond.classLink RX6 269 "java/util/NoSuchElementException", Cond.initialized "java/util/NoSuchElementException", Cond.fieldLink RX6 17 "DyehouseLedger" "allOrders" "[LDyehouseLedger$Order;", Cond.methodLink RX6 74 yX6_checkRange, Cond.static yX6_checkRange, Cond.code yX6_checkRange cX6_checkRange 3 none, Cond.classLink RX6 266 "java/lang/IllegalArgumentException", Cond.initialized "java/lang/IllegalArgumentException", Cond.methodLink RX6 98 yX0_init, Cond.instanceMethod yX0_init, Cond.code yX0_init cX0_init 4 none, Cond.methodLink RX0 3 objectInit]
def wsX6_addLot_r2 : List Cond := [Cond.instanceMethod objectInit, Cond.code objectInit ⟨#[0xb1]⟩ 1 none, Cond.fieldLink RX0 9 "DyehouseLedger$Lot" "number" "I", Cond.fieldLink RX0 15 "DyehouseLedger$Lot" "order" "LDyehouseLedger$Order;", Cond.fieldLink RX0 19 "DyehouseLedger$Lot" "weight" "I", Cond.classLink RX0 22 RX4, Cond.instantiable RX4 3, Cond.initialized RX4, Cond.fieldLink RX0 27 "DyehouseLedger$Lot" "shade" "LDyehouseLedger$Shade;", Cond.fieldLink RX0 31 "DyehouseLedger$Lot" "state" "C", Cond.methodLink RX0 24 yX4_init, Cond.instanceMethod yX4_init, Cond.code yX4_init cX4_init 4 none, Cond.methodLink RX4 1 objectInit, Cond.fieldLink RX4 7 "DyehouseLedger$Shade" "light" "I", Cond.fieldLink RX4 13 "DyehouseLedger$Shade" "red" "I", Cond.fieldLink RX4 16 "DyehouseLedger$Shade" "blue" "I"]
def wsX6_addLot : List Cond := .code yX6_addLot cX6_addLot 4 (some .int) :: ((wsX6_addLot_r1 ++ wsX6_addLot_r2) ++ wsX60 ++ wsX00 ++ wsX40 ++ (vx_at0 RX6 58 "java/lang/IllegalStateException" ["java/lang/RuntimeException", "java/lang/Exception"]).filter goodWord ++ (vx_at0 RX6 271 "java/util/NoSuchElementException" ["java/lang/RuntimeException", "java/lang/Exception"]).filter goodWord ++ (vx_at0 RX6 268 "java/lang/IllegalArgumentException" ["java/lang/RuntimeException", "java/lang/Exception"]).filter goodWord)
def wsX6_addVat : List Cond := .code yX6_addVat cX6_addVat 2 (some .int) :: ([.classLink RX6 56 "java/lang/IllegalStateException", .initialized "java/lang/IllegalStateException", .fieldLink RX6 101 "DyehouseLedger" "vatCount" "I", .fieldLink RX6 29 "DyehouseLedger" "allVats" "[LDyehouseLedger$Vat;", .classLink RX6 27 RX5, .instantiable RX5 6, .initialized RX5, .methodLink RX6 74 yX6_checkRange, .static yX6_checkRange, .initialized RX6, .code yX6_checkRange cX6_checkRange 3 none, .classLink RX6 266 "java/lang/IllegalArgumentException", .initialized "java/lang/IllegalArgumentException", .methodLink RX6 104 yX5_init, .instanceMethod yX5_init, .code yX5_init cX5_init 3 none, .methodLink RX5 3 objectInit, .instanceMethod objectInit, .code objectInit ⟨#[0xb1]⟩ 1 none, .fieldLink RX5 9 "DyehouseLedger$Vat" "number" "I", .fieldLink RX5 15 "DyehouseLedger$Vat" "mostWeight" "I", .fieldLink RX5 18 "DyehouseLedger$Vat" "light" "I", .fieldLink RX5 21 "DyehouseLedger$Vat" "onlyCustomer" "I"] ++ wsX60 ++ wsX50 ++ (vx_at0 RX6 58 "java/lang/IllegalStateException" ["java/lang/RuntimeException", "java/lang/Exception"]).filter goodWord ++ (vx_at0 RX6 268 "java/lang/IllegalArgumentException" ["java/lang/RuntimeException", "java/lang/Exception"]).filter goodWord)
def wsX6_lotNumbered : List Cond := .code yX6_lotNumbered cX6_lotNumbered 3 (some (.object "DyehouseLedger$Lot")) :: ([.classLink RX6 269 "java/util/NoSuchElementException", .initialized "java/util/NoSuchElementException", .fieldLink RX6 23 "DyehouseLedger" "allLots" "[LDyehouseLedger$Lot;"] ++ wsX60 ++ (vx_at0 RX6 271 "java/util/NoSuchElementException" ["java/lang/RuntimeException", "java/lang/Exception"]).filter goodWord)
def wsX6_needs_r1 : List Cond := [Cond.methodLink RX6 107 yX6_lotNumbered, Cond.instanceMethod yX6_lotNumbered, Cond.selects RX6 yX6_lotNumbered yX6_lotNumbered, Cond.initialized RX6, Cond.code yX6_lotNumbered cX6_lotNumbered 3 (some (.object "DyehouseLedger$Lot")), Cond.classLink RX6 269 "java/util/NoSuchElementException", Cond.initialized "java/util/NoSuchElementException", Cond.fieldLink RX6 23 "DyehouseLedger" "allLots" "[LDyehouseLedger$Lot;", Cond.methodLink RX6 70 yX6_checkDye, Cond.static yX6_checkDye, Cond.code yX6_checkDye cX6_checkDye 1 none, Cond.methodLink RX6 74 yX6_checkRange, Cond.static yX6_checkRange, Cond.code yX6_checkRange cX6_checkRange 3 none, Cond.classLink RX6 266 "java/lang/IllegalArgumentException", Cond.initialized "java/lang/IllegalArgumentException", Cond.methodLink RX6 111 yX0_gramsNeeded, Cond.instanceMethod yX0_gramsNeeded, Cond.selects RX0 yX0_gramsNeeded yX0_gramsNeeded, Cond.initialized RX0, Cond.code yX0_gramsNeeded cX0_gramsNeeded 2 (some .int), Cond.fieldLink RX0 15 "DyehouseLedger$Lot" "order" "LDyehouseLedger$Order;", Cond.fieldLink RX0 35 "DyehouseLedger$Order" "recipe" "LDyehouseLedger$Recipe;", Cond.fieldLink RX0 41 "DyehouseLedger$Recipe" "grams" "[I"]
def wsX6_needs_r2 : List Cond := [Cond.fieldLink RX0 19 "DyehouseLedger$Lot" "weight" "I"]
def wsX6_needs : List Cond := .code yX6_needs cX6_needs 4 (some .int) :: ((wsX6_needs_r1 ++ wsX6_needs_r2) ++ wsX60 ++ wsX00 ++ wsX10 ++ wsX30 ++ (vx_at0 RX6 271 "java/util/NoSuchElementException" ["java/lang/RuntimeException", "java/lang/Exception"]).filter goodWord ++ (vx_at0 RX6 268 "java/lang/IllegalArgumentException" ["java/lang/RuntimeException", "java/lang/Exception"]).filter goodWord ++ (vx_atM "java/lang/ArrayIndexOutOfBoundsException" ["java/lang/IndexOutOfBoundsException", "java/lang/RuntimeException", "java/lang/Exception"]).filter goodWord)
def wsX6_hoursFor : List Cond := .code yX6_hoursFor cX6_hoursFor 2 (some .int) :: ([.methodLink RX6 107 yX6_lotNumbered, .instanceMethod yX6_lotNumbered, .selects RX6 yX6_lotNumbered yX6_lotNumbered, .initialized RX6, .code yX6_lotNumbered cX6_lotNumbered 3 (some (.object "DyehouseLedger$Lot")), .classLink RX6 269 "java/util/NoSuchElementException", .initialized "java/util/NoSuchElementException", .fieldLink RX6 23 "DyehouseLedger" "allLots" "[LDyehouseLedger$Lot;", .methodLink RX6 115 yX0_dyeingHours, .instanceMethod yX0_dyeingHours, .selects RX0 yX0_dyeingHours yX0_dyeingHours, .initialized RX0, .code yX0_dyeingHours cX0_dyeingHours 1 (some .int), .fieldLink RX0 19 "DyehouseLedger$Lot" "weight" "I"] ++ wsX60 ++ wsX00 ++ (vx_at0 RX6 271 "java/util/NoSuchElementException" ["java/lang/RuntimeException", "java/lang/Exception"]).filter goodWord)
def wsX6_vatNumbered : List Cond := .code yX6_vatNumbered cX6_vatNumbered 3 (some (.object "DyehouseLedger$Vat")) :: ([.classLink RX6 269 "java/util/NoSuchElementException", .initialized "java/util/NoSuchElementException", .fieldLink RX6 29 "DyehouseLedger" "allVats" "[LDyehouseLedger$Vat;"] ++ wsX60 ++ (vx_at0 RX6 271 "java/util/NoSuchElementException" ["java/lang/RuntimeException", "java/lang/Exception"]).filter goodWord)
def wsX6_isStocked : List Cond := .code yX6_isStocked cX6_isStocked 3 (some .boolean) :: ([.fieldLink RX6 33 "DyehouseLedger" "gramsInStock" "[I", .methodLink RX6 111 yX0_gramsNeeded, .instanceMethod yX0_gramsNeeded, .selects RX0 yX0_gramsNeeded yX0_gramsNeeded, .initialized RX0, .code yX0_gramsNeeded cX0_gramsNeeded 2 (some .int), .fieldLink RX0 15 "DyehouseLedger$Lot" "order" "LDyehouseLedger$Order;", .fieldLink RX0 35 "DyehouseLedger$Order" "recipe" "LDyehouseLedger$Recipe;", .fieldLink RX0 41 "DyehouseLedger$Recipe" "grams" "[I", .fieldLink RX0 19 "DyehouseLedger$Lot" "weight" "I"] ++ wsX60 ++ wsX00 ++ wsX10 ++ wsX30 ++ (vx_atM "java/lang/ArrayIndexOutOfBoundsException" ["java/lang/IndexOutOfBoundsException", "java/lang/RuntimeException", "java/lang/Exception"]).filter goodWord)
def wsX6_reasonAgainst_r1 : List Cond := [Cond.fieldLink RX6 147 "DyehouseLedger$Lot" "state" "C", Cond.fieldLink RX6 188 "DyehouseLedger$Lot" "weight" "I", Cond.fieldLink RX6 191 "DyehouseLedger$Vat" "mostWeight" "I", Cond.fieldLink RX6 134 "DyehouseLedger$Vat" "light" "I", Cond.fieldLink RX6 236 "DyehouseLedger$Lot" "order" "LDyehouseLedger$Order;", Cond.fieldLink RX6 272 "DyehouseLedger$Order" "recipe" "LDyehouseLedger$Recipe;", Cond.fieldLink RX6 276 "DyehouseLedger$Recipe" "shade" "LDyehouseLedger$Shade;", Cond.fieldLink RX6 218 "DyehouseLedger$Shade" "light" "I", Cond.fieldLink RX6 167 "DyehouseLedger$Vat" "onlyCustomer" "I", Cond.fieldLink RX6 260 "DyehouseLedger$Order" "customer" "I", Cond.methodLink RX6 277 yX6_isTooDark, Cond.static yX6_isTooDark, Cond.initialized RX6, Cond.code yX6_isTooDark cX6_isTooDark 2 (some .boolean), Cond.methodLink RX6 281 yX6_isBarred, Cond.static yX6_isBarred, Cond.code yX6_isBarred cX6_isBarred 2 (some .boolean), Cond.methodLink RX6 284 yX6_isStocked, Cond.instanceMethod yX6_isStocked, Cond.selects RX6 yX6_isStocked yX6_isStocked, Cond.code yX6_isStocked cX6_isStocked 3 (some .boolean), Cond.fieldLink RX6 33 "DyehouseLedger" "gramsInStock" "[I", Cond.methodLink RX6 111 yX0_gramsNeeded, Cond.instanceMethod yX0_gramsNeeded]
def wsX6_reasonAgainst_r2 : List Cond := [Cond.selects RX0 yX0_gramsNeeded yX0_gramsNeeded, Cond.initialized RX0, Cond.code yX0_gramsNeeded cX0_gramsNeeded 2 (some .int), Cond.fieldLink RX0 15 "DyehouseLedger$Lot" "order" "LDyehouseLedger$Order;", Cond.fieldLink RX0 35 "DyehouseLedger$Order" "recipe" "LDyehouseLedger$Recipe;", Cond.fieldLink RX0 41 "DyehouseLedger$Recipe" "grams" "[I", Cond.fieldLink RX0 19 "DyehouseLedger$Lot" "weight" "I"]
def wsX6_reasonAgainst : List Cond := .code yX6_reasonAgainst cX6_reasonAgainst 3 (some .char) :: ((wsX6_reasonAgainst_r1 ++ wsX6_reasonAgainst_r2) ++ wsX00 ++ wsX50 ++ wsX10 ++ wsX30 ++ wsX40 ++ wsX60 ++ (vx_atM "java/lang/ArrayIndexOutOfBoundsException" ["java/lang/IndexOutOfBoundsException", "java/lang/RuntimeException", "java/lang/Exception"]).filter goodWord)
def wsX6_reason_r1 : List Cond := [Cond.methodLink RX6 107 yX6_lotNumbered, Cond.instanceMethod yX6_lotNumbered, Cond.selects RX6 yX6_lotNumbered yX6_lotNumbered, Cond.initialized RX6, Cond.code yX6_lotNumbered cX6_lotNumbered 3 (some (.object "DyehouseLedger$Lot")), Cond.classLink RX6 269 "java/util/NoSuchElementException", Cond.initialized "java/util/NoSuchElementException", Cond.fieldLink RX6 23 "DyehouseLedger" "allLots" "[LDyehouseLedger$Lot;", Cond.methodLink RX6 119 yX6_vatNumbered, Cond.instanceMethod yX6_vatNumbered, Cond.selects RX6 yX6_vatNumbered yX6_vatNumbered, Cond.code yX6_vatNumbered cX6_vatNumbered 3 (some (.object "DyehouseLedger$Vat")), Cond.fieldLink RX6 29 "DyehouseLedger" "allVats" "[LDyehouseLedger$Vat;", Cond.methodLink RX6 123 yX6_reasonAgainst, Cond.instanceMethod yX6_reasonAgainst, Cond.selects RX6 yX6_reasonAgainst yX6_reasonAgainst, Cond.code yX6_reasonAgainst cX6_reasonAgainst 3 (some .char), Cond.fieldLink RX6 147 "DyehouseLedger$Lot" "state" "C", Cond.fieldLink RX6 188 "DyehouseLedger$Lot" "weight" "I", Cond.fieldLink RX6 191 "DyehouseLedger$Vat" "mostWeight" "I", Cond.fieldLink RX6 134 "DyehouseLedger$Vat" "light" "I", Cond.fieldLink RX6 236 "DyehouseLedger$Lot" "order" "LDyehouseLedger$Order;", Cond.fieldLink RX6 272 "DyehouseLedger$Order" "recipe" "LDyehouseLedger$Recipe;", Cond.fieldLink RX6 276 "DyehouseLedger$Recipe" "shade" "LDyehouseLedger$Shade;"]
def wsX6_reason_r2 : List Cond := [Cond.fieldLink RX6 218 "DyehouseLedger$Shade" "light" "I", Cond.fieldLink RX6 167 "DyehouseLedger$Vat" "onlyCustomer" "I", Cond.fieldLink RX6 260 "DyehouseLedger$Order" "customer" "I", Cond.methodLink RX6 277 yX6_isTooDark, Cond.static yX6_isTooDark, Cond.code yX6_isTooDark cX6_isTooDark 2 (some .boolean), Cond.methodLink RX6 281 yX6_isBarred, Cond.static yX6_isBarred, Cond.code yX6_isBarred cX6_isBarred 2 (some .boolean), Cond.methodLink RX6 284 yX6_isStocked, Cond.instanceMethod yX6_isStocked, Cond.selects RX6 yX6_isStocked yX6_isStocked, Cond.code yX6_isStocked cX6_isStocked 3 (some .boolean), Cond.fieldLink RX6 33 "DyehouseLedger" "gramsInStock" "[I", Cond.methodLink RX6 111 yX0_gramsNeeded, Cond.instanceMethod yX0_gramsNeeded, Cond.selects RX0 yX0_gramsNeeded yX0_gramsNeeded, Cond.initialized RX0, Cond.code yX0_gramsNeeded cX0_gramsNeeded 2 (some .int), Cond.fieldLink RX0 15 "DyehouseLedger$Lot" "order" "LDyehouseLedger$Order;", Cond.fieldLink RX0 35 "DyehouseLedger$Order" "recipe" "LDyehouseLedger$Recipe;", Cond.fieldLink RX0 41 "DyehouseLedger$Recipe" "grams" "[I", Cond.fieldLink RX0 19 "DyehouseLedger$Lot" "weight" "I"]
def wsX6_reason : List Cond := .code yX6_reason cX6_reason 4 (some .char) :: ((wsX6_reason_r1 ++ wsX6_reason_r2) ++ wsX60 ++ wsX00 ++ wsX50 ++ wsX10 ++ wsX30 ++ wsX40 ++ (vx_at0 RX6 271 "java/util/NoSuchElementException" ["java/lang/RuntimeException", "java/lang/Exception"]).filter goodWord ++ (vx_atM "java/lang/ArrayIndexOutOfBoundsException" ["java/lang/IndexOutOfBoundsException", "java/lang/RuntimeException", "java/lang/Exception"]).filter goodWord)
def wsX6_takeDyesFor : List Cond := .code yX6_takeDyesFor cX6_takeDyesFor 4 none :: ([.fieldLink RX6 33 "DyehouseLedger" "gramsInStock" "[I", .fieldLink RX6 37 "DyehouseLedger" "gramsUsed" "[J", .methodLink RX6 111 yX0_gramsNeeded, .instanceMethod yX0_gramsNeeded, .selects RX0 yX0_gramsNeeded yX0_gramsNeeded, .initialized RX0, .code yX0_gramsNeeded cX0_gramsNeeded 2 (some .int), .fieldLink RX0 15 "DyehouseLedger$Lot" "order" "LDyehouseLedger$Order;", .fieldLink RX0 35 "DyehouseLedger$Order" "recipe" "LDyehouseLedger$Recipe;", .fieldLink RX0 41 "DyehouseLedger$Recipe" "grams" "[I", .fieldLink RX0 19 "DyehouseLedger$Lot" "weight" "I"] ++ wsX60 ++ wsX00 ++ wsX10 ++ wsX30 ++ (vx_atM "java/lang/ArrayIndexOutOfBoundsException" ["java/lang/IndexOutOfBoundsException", "java/lang/RuntimeException", "java/lang/Exception"]).filter goodWord)
def wsX6_dye_r1 : List Cond := [Cond.classLink RX6 127 "java/lang/UnsupportedOperationException", Cond.initialized "java/lang/UnsupportedOperationException", Cond.fieldLink RX6 134 "DyehouseLedger$Vat" "light" "I", Cond.fieldLink RX6 137 "DyehouseLedger$Vat" "clock" "I", Cond.fieldLink RX6 140 "DyehouseLedger$Lot" "shade" "LDyehouseLedger$Shade;", Cond.fieldLink RX6 147 "DyehouseLedger$Lot" "state" "C", Cond.fieldLink RX6 151 "DyehouseLedger$Lot" "vat" "LDyehouseLedger$Vat;", Cond.fieldLink RX6 155 "DyehouseLedger$Lot" "clockThen" "I", Cond.fieldLink RX6 158 "DyehouseLedger$Vat" "cleanings" "I", Cond.fieldLink RX6 161 "DyehouseLedger$Lot" "cleaningsThen" "I", Cond.fieldLink RX6 164 "DyehouseLedger$Lot" "plannedFor" "LDyehouseLedger$Vat;", Cond.methodLink RX6 107 yX6_lotNumbered, Cond.instanceMethod yX6_lotNumbered, Cond.selects RX6 yX6_lotNumbered yX6_lotNumbered, Cond.initialized RX6, Cond.code yX6_lotNumbered cX6_lotNumbered 3 (some (.object "DyehouseLedger$Lot")), Cond.classLink RX6 269 "java/util/NoSuchElementException", Cond.initialized "java/util/NoSuchElementException", Cond.fieldLink RX6 23 "DyehouseLedger" "allLots" "[LDyehouseLedger$Lot;", Cond.methodLink RX6 119 yX6_vatNumbered, Cond.instanceMethod yX6_vatNumbered, Cond.selects RX6 yX6_vatNumbered yX6_vatNumbered, Cond.code yX6_vatNumbered cX6_vatNumbered 3 (some (.object "DyehouseLedger$Vat")), Cond.fieldLink RX6 29 "DyehouseLedger" "allVats" "[LDyehouseLedger$Vat;"]
def wsX6_dye_r2 : List Cond := [Cond.methodLink RX6 48 yX6_checkShade, Cond.static yX6_checkShade, Cond.code yX6_checkShade cX6_checkShade 3 none, Cond.methodLink RX6 74 yX6_checkRange, Cond.static yX6_checkRange, Cond.code yX6_checkRange cX6_checkRange 3 none, Cond.classLink RX6 266 "java/lang/IllegalArgumentException", Cond.initialized "java/lang/IllegalArgumentException", Cond.methodLink RX6 123 yX6_reasonAgainst, Cond.instanceMethod yX6_reasonAgainst, Cond.selects RX6 yX6_reasonAgainst yX6_reasonAgainst, Cond.code yX6_reasonAgainst cX6_reasonAgainst 3 (some .char), Cond.fieldLink RX6 188 "DyehouseLedger$Lot" "weight" "I", Cond.fieldLink RX6 191 "DyehouseLedger$Vat" "mostWeight" "I", Cond.fieldLink RX6 236 "DyehouseLedger$Lot" "order" "LDyehouseLedger$Order;", Cond.fieldLink RX6 272 "DyehouseLedger$Order" "recipe" "LDyehouseLedger$Recipe;", Cond.fieldLink RX6 276 "DyehouseLedger$Recipe" "shade" "LDyehouseLedger$Shade;", Cond.fieldLink RX6 218 "DyehouseLedger$Shade" "light" "I", Cond.fieldLink RX6 167 "DyehouseLedger$Vat" "onlyCustomer" "I", Cond.fieldLink RX6 260 "DyehouseLedger$Order" "customer" "I", Cond.methodLink RX6 277 yX6_isTooDark, Cond.static yX6_isTooDark, Cond.code yX6_isTooDark cX6_isTooDark 2 (some .boolean), Cond.methodLink RX6 281 yX6_isBarred]
def wsX6_dye_r3 : List Cond := [Cond.static yX6_isBarred, Cond.code yX6_isBarred cX6_isBarred 2 (some .boolean), Cond.methodLink RX6 284 yX6_isStocked, Cond.instanceMethod yX6_isStocked, Cond.selects RX6 yX6_isStocked yX6_isStocked, Cond.code yX6_isStocked cX6_isStocked 3 (some .boolean), Cond.fieldLink RX6 33 "DyehouseLedger" "gramsInStock" "[I", Cond.methodLink RX6 111 yX0_gramsNeeded, Cond.instanceMethod yX0_gramsNeeded, Cond.selects RX0 yX0_gramsNeeded yX0_gramsNeeded, Cond.initialized RX0, Cond.code yX0_gramsNeeded cX0_gramsNeeded 2 (some .int), Cond.fieldLink RX0 15 "DyehouseLedger$Lot" "order" "LDyehouseLedger$Order;", Cond.fieldLink RX0 35 "DyehouseLedger$Order" "recipe" "LDyehouseLedger$Recipe;", Cond.fieldLink RX0 41 "DyehouseLedger$Recipe" "grams" "[I", Cond.fieldLink RX0 19 "DyehouseLedger$Lot" "weight" "I", Cond.methodLink RX6 130 yX6_takeDyesFor, Cond.instanceMethod yX6_takeDyesFor, Cond.selects RX6 yX6_takeDyesFor yX6_takeDyesFor, Cond.code yX6_takeDyesFor cX6_takeDyesFor 4 none, Cond.fieldLink RX6 37 "DyehouseLedger" "gramsUsed" "[J", Cond.methodLink RX6 115 yX0_dyeingHours, Cond.instanceMethod yX0_dyeingHours, Cond.selects RX0 yX0_dyeingHours yX0_dyeingHours]
def wsX6_dye_r4 : List Cond := [Cond.code yX0_dyeingHours cX0_dyeingHours 1 (some .int), Cond.methodLink RX6 144 yX4_set, Cond.instanceMethod yX4_set, Cond.selects RX4 yX4_set yX4_set, Cond.initialized RX4, Cond.code yX4_set cX4_set 4 none, Cond.fieldLink RX4 7 "DyehouseLedger$Shade" "light" "I", Cond.fieldLink RX4 13 "DyehouseLedger$Shade" "red" "I", Cond.fieldLink RX4 16 "DyehouseLedger$Shade" "blue" "I"]
def wsX6_dye : List Cond := .code yX6_dye cX6_dye 8 (some .int) :: ((wsX6_dye_r1 ++ (wsX6_dye_r2 ++ (wsX6_dye_r3 ++ wsX6_dye_r4))) ++ wsX50 ++ wsX00 ++ wsX60 ++ wsX10 ++ wsX30 ++ wsX40 ++ (vx_at0 RX6 129 "java/lang/UnsupportedOperationException" ["java/lang/RuntimeException", "java/lang/Exception"]).filter goodWord ++ (vx_at0 RX6 271 "java/util/NoSuchElementException" ["java/lang/RuntimeException", "java/lang/Exception"]).filter goodWord ++ (vx_at0 RX6 268 "java/lang/IllegalArgumentException" ["java/lang/RuntimeException", "java/lang/Exception"]).filter goodWord ++ (vx_atM "java/lang/ArrayIndexOutOfBoundsException" ["java/lang/IndexOutOfBoundsException", "java/lang/RuntimeException", "java/lang/Exception"]).filter goodWord)
def wsX6_clean : List Cond := .code yX6_clean cX6_clean 3 (some .int) :: ([.fieldLink RX6 134 "DyehouseLedger$Vat" "light" "I", .fieldLink RX6 167 "DyehouseLedger$Vat" "onlyCustomer" "I", .fieldLink RX6 158 "DyehouseLedger$Vat" "cleanings" "I", .fieldLink RX6 137 "DyehouseLedger$Vat" "clock" "I", .methodLink RX6 119 yX6_vatNumbered, .instanceMethod yX6_vatNumbered, .selects RX6 yX6_vatNumbered yX6_vatNumbered, .initialized RX6, .code yX6_vatNumbered cX6_vatNumbered 3 (some (.object "DyehouseLedger$Vat")), .classLink RX6 269 "java/util/NoSuchElementException", .initialized "java/util/NoSuchElementException", .fieldLink RX6 29 "DyehouseLedger" "allVats" "[LDyehouseLedger$Vat;"] ++ wsX50 ++ wsX60 ++ (vx_at0 RX6 271 "java/util/NoSuchElementException" ["java/lang/RuntimeException", "java/lang/Exception"]).filter goodWord)
def wsX6_dyedLotNumbered : List Cond := .code yX6_dyedLotNumbered cX6_dyedLotNumbered 3 (some (.object "DyehouseLedger$Lot")) :: ([.classLink RX6 56 "java/lang/IllegalStateException", .initialized "java/lang/IllegalStateException", .fieldLink RX6 147 "DyehouseLedger$Lot" "state" "C", .methodLink RX6 107 yX6_lotNumbered, .instanceMethod yX6_lotNumbered, .selects RX6 yX6_lotNumbered yX6_lotNumbered, .initialized RX6, .code yX6_lotNumbered cX6_lotNumbered 3 (some (.object "DyehouseLedger$Lot")), .classLink RX6 269 "java/util/NoSuchElementException", .initialized "java/util/NoSuchElementException", .fieldLink RX6 23 "DyehouseLedger" "allLots" "[LDyehouseLedger$Lot;"] ++ wsX00 ++ wsX60 ++ (vx_at0 RX6 58 "java/lang/IllegalStateException" ["java/lang/RuntimeException", "java/lang/Exception"]).filter goodWord ++ (vx_at0 RX6 271 "java/util/NoSuchElementException" ["java/lang/RuntimeException", "java/lang/Exception"]).filter goodWord)
def wsX6_greatestDistanceFromPassed_r1 : List Cond := [Cond.fieldLink RX6 23 "DyehouseLedger" "allLots" "[LDyehouseLedger$Lot;", Cond.fieldLink RX6 236 "DyehouseLedger$Lot" "order" "LDyehouseLedger$Order;", Cond.fieldLink RX6 140 "DyehouseLedger$Lot" "shade" "LDyehouseLedger$Shade;", Cond.methodLink RX6 247 Lib.Math.max.name, Cond.static Lib.Math.max.name, Cond.initialized "java/lang/Math", Cond.code Lib.Math.max.name Lib.Math.max.code 2 (some .int), Cond.methodLink RX6 240 yX0_isPassedOf, Cond.instanceMethod yX0_isPassedOf, Cond.selects RX0 yX0_isPassedOf yX0_isPassedOf, Cond.initialized RX0, Cond.code yX0_isPassedOf cX0_isPassedOf 2 (some .boolean), Cond.fieldLink RX0 15 "DyehouseLedger$Lot" "order" "LDyehouseLedger$Order;", Cond.fieldLink RX0 31 "DyehouseLedger$Lot" "state" "C", Cond.methodLink RX6 228 yX4_distanceTo, Cond.instanceMethod yX4_distanceTo, Cond.selects RX4 yX4_distanceTo yX4_distanceTo, Cond.initialized RX4, Cond.code yX4_distanceTo cX4_distanceTo 2 (some .int), Cond.fieldLink RX4 7 "DyehouseLedger$Shade" "light" "I", Cond.methodLink RX4 19 Lib.Math.abs.name, Cond.static Lib.Math.abs.name, Cond.code Lib.Math.abs.name Lib.Math.abs.code 1 (some .int), Cond.fieldLink RX4 13 "DyehouseLedger$Shade" "red" "I"]
def wsX6_greatestDistanceFromPassed_r2 : List Cond := [Cond.fieldLink RX4 16 "DyehouseLedger$Shade" "blue" "I"]
def wsX6_greatestDistanceFromPassed : List Cond := .code yX6_greatestDistanceFromPassed cX6_greatestDistanceFromPassed 7 (some .int) :: ((wsX6_greatestDistanceFromPassed_r1 ++ wsX6_greatestDistanceFromPassed_r2) ++ wsX60 ++ wsX00 ++ wsX40)
def wsX6_verdictOn_r1 : List Cond := [Cond.fieldLink RX6 236 "DyehouseLedger$Lot" "order" "LDyehouseLedger$Order;", Cond.fieldLink RX6 288 "DyehouseLedger$Order" "bound" "I", Cond.methodLink RX6 225 yX0_distanceFromRecipe, Cond.instanceMethod yX0_distanceFromRecipe, Cond.selects RX0 yX0_distanceFromRecipe yX0_distanceFromRecipe, Cond.initialized RX0, Cond.code yX0_distanceFromRecipe cX0_distanceFromRecipe 1 (some .int), Cond.fieldLink RX0 27 "DyehouseLedger$Lot" "shade" "LDyehouseLedger$Shade;", Cond.fieldLink RX0 15 "DyehouseLedger$Lot" "order" "LDyehouseLedger$Order;", Cond.fieldLink RX0 35 "DyehouseLedger$Order" "recipe" "LDyehouseLedger$Recipe;", Cond.fieldLink RX0 47 "DyehouseLedger$Recipe" "shade" "LDyehouseLedger$Shade;", Cond.methodLink RX0 48 yX4_distanceTo, Cond.instanceMethod yX4_distanceTo, Cond.selects RX4 yX4_distanceTo yX4_distanceTo, Cond.initialized RX4, Cond.code yX4_distanceTo cX4_distanceTo 2 (some .int), Cond.fieldLink RX4 7 "DyehouseLedger$Shade" "light" "I", Cond.methodLink RX4 19 Lib.Math.abs.name, Cond.static Lib.Math.abs.name, Cond.initialized "java/lang/Math", Cond.code Lib.Math.abs.name Lib.Math.abs.code 1 (some .int), Cond.fieldLink RX4 13 "DyehouseLedger$Shade" "red" "I", Cond.fieldLink RX4 16 "DyehouseLedger$Shade" "blue" "I", Cond.methodLink RX6 244 yX6_greatestDistanceFromPassed]
def wsX6_verdictOn_r2 : List Cond := [Cond.instanceMethod yX6_greatestDistanceFromPassed, Cond.selects RX6 yX6_greatestDistanceFromPassed yX6_greatestDistanceFromPassed, Cond.initialized RX6, Cond.code yX6_greatestDistanceFromPassed cX6_greatestDistanceFromPassed 7 (some .int), Cond.fieldLink RX6 23 "DyehouseLedger" "allLots" "[LDyehouseLedger$Lot;", Cond.fieldLink RX6 140 "DyehouseLedger$Lot" "shade" "LDyehouseLedger$Shade;", Cond.methodLink RX6 247 Lib.Math.max.name, Cond.static Lib.Math.max.name, Cond.code Lib.Math.max.name Lib.Math.max.code 2 (some .int), Cond.methodLink RX6 240 yX0_isPassedOf, Cond.instanceMethod yX0_isPassedOf, Cond.selects RX0 yX0_isPassedOf yX0_isPassedOf, Cond.code yX0_isPassedOf cX0_isPassedOf 2 (some .boolean), Cond.fieldLink RX0 31 "DyehouseLedger$Lot" "state" "C", Cond.methodLink RX6 228 yX4_distanceTo]
def wsX6_verdictOn : List Cond := .code yX6_verdictOn cX6_verdictOn 2 (some .char) :: ((wsX6_verdictOn_r1 ++ wsX6_verdictOn_r2) ++ wsX00 ++ wsX10 ++ wsX30 ++ wsX40 ++ wsX60)
def wsX6_verdict_r1 : List Cond := [Cond.methodLink RX6 170 yX6_dyedLotNumbered, Cond.instanceMethod yX6_dyedLotNumbered, Cond.selects RX6 yX6_dyedLotNumbered yX6_dyedLotNumbered, Cond.initialized RX6, Cond.code yX6_dyedLotNumbered cX6_dyedLotNumbered 3 (some (.object "DyehouseLedger$Lot")), Cond.classLink RX6 56 "java/lang/IllegalStateException", Cond.initialized "java/lang/IllegalStateException", Cond.fieldLink RX6 147 "DyehouseLedger$Lot" "state" "C", Cond.methodLink RX6 107 yX6_lotNumbered, Cond.instanceMethod yX6_lotNumbered, Cond.selects RX6 yX6_lotNumbered yX6_lotNumbered, Cond.code yX6_lotNumbered cX6_lotNumbered 3 (some (.object "DyehouseLedger$Lot")), Cond.classLink RX6 269 "java/util/NoSuchElementException", Cond.initialized "java/util/NoSuchElementException", Cond.fieldLink RX6 23 "DyehouseLedger" "allLots" "[LDyehouseLedger$Lot;", Cond.methodLink RX6 173 yX6_verdictOn, Cond.instanceMethod yX6_verdictOn, Cond.selects RX6 yX6_verdictOn yX6_verdictOn, Cond.code yX6_verdictOn cX6_verdictOn 2 (some .char), Cond.fieldLink RX6 236 "DyehouseLedger$Lot" "order" "LDyehouseLedger$Order;", Cond.fieldLink RX6 288 "DyehouseLedger$Order" "bound" "I", Cond.methodLink RX6 225 yX0_distanceFromRecipe, Cond.instanceMethod yX0_distanceFromRecipe, Cond.selects RX0 yX0_distanceFromRecipe yX0_distanceFromRecipe]
def wsX6_verdict_r2 : List Cond := [Cond.initialized RX0, Cond.code yX0_distanceFromRecipe cX0_distanceFromRecipe 1 (some .int), Cond.fieldLink RX0 27 "DyehouseLedger$Lot" "shade" "LDyehouseLedger$Shade;", Cond.fieldLink RX0 15 "DyehouseLedger$Lot" "order" "LDyehouseLedger$Order;", Cond.fieldLink RX0 35 "DyehouseLedger$Order" "recipe" "LDyehouseLedger$Recipe;", Cond.fieldLink RX0 47 "DyehouseLedger$Recipe" "shade" "LDyehouseLedger$Shade;", Cond.methodLink RX0 48 yX4_distanceTo, Cond.instanceMethod yX4_distanceTo, Cond.selects RX4 yX4_distanceTo yX4_distanceTo, Cond.initialized RX4, Cond.code yX4_distanceTo cX4_distanceTo 2 (some .int), Cond.fieldLink RX4 7 "DyehouseLedger$Shade" "light" "I", Cond.methodLink RX4 19 Lib.Math.abs.name, Cond.static Lib.Math.abs.name, Cond.initialized "java/lang/Math", Cond.code Lib.Math.abs.name Lib.Math.abs.code 1 (some .int), Cond.fieldLink RX4 13 "DyehouseLedger$Shade" "red" "I", Cond.fieldLink RX4 16 "DyehouseLedger$Shade" "blue" "I", Cond.methodLink RX6 244 yX6_greatestDistanceFromPassed, Cond.instanceMethod yX6_greatestDistanceFromPassed, Cond.selects RX6 yX6_greatestDistanceFromPassed yX6_greatestDistanceFromPassed, Cond.code yX6_greatestDistanceFromPassed cX6_greatestDistanceFromPassed 7 (some .int), Cond.fieldLink RX6 140 "DyehouseLedger$Lot" "shade" "LDyehouseLedger$Shade;", Cond.methodLink RX6 247 Lib.Math.max.name]
def wsX6_verdict_r3 : List Cond := [Cond.static Lib.Math.max.name, Cond.code Lib.Math.max.name Lib.Math.max.code 2 (some .int), Cond.methodLink RX6 240 yX0_isPassedOf, Cond.instanceMethod yX0_isPassedOf, Cond.selects RX0 yX0_isPassedOf yX0_isPassedOf, Cond.code yX0_isPassedOf cX0_isPassedOf 2 (some .boolean), Cond.fieldLink RX0 31 "DyehouseLedger$Lot" "state" "C", Cond.methodLink RX6 228 yX4_distanceTo]
def wsX6_verdict : List Cond := .code yX6_verdict cX6_verdict 2 (some .char) :: ((wsX6_verdict_r1 ++ (wsX6_verdict_r2 ++ wsX6_verdict_r3)) ++ wsX00 ++ wsX60 ++ wsX10 ++ wsX30 ++ wsX40 ++ (vx_at0 RX6 58 "java/lang/IllegalStateException" ["java/lang/RuntimeException", "java/lang/Exception"]).filter goodWord ++ (vx_at0 RX6 271 "java/util/NoSuchElementException" ["java/lang/RuntimeException", "java/lang/Exception"]).filter goodWord)
def wsX6_barVatOf : List Cond := .code yX6_barVatOf cX6_barVatOf 2 none :: ([.fieldLink RX6 151 "DyehouseLedger$Lot" "vat" "LDyehouseLedger$Vat;", .fieldLink RX6 158 "DyehouseLedger$Vat" "cleanings" "I", .fieldLink RX6 161 "DyehouseLedger$Lot" "cleaningsThen" "I", .fieldLink RX6 236 "DyehouseLedger$Lot" "order" "LDyehouseLedger$Order;", .fieldLink RX6 260 "DyehouseLedger$Order" "customer" "I", .fieldLink RX6 167 "DyehouseLedger$Vat" "onlyCustomer" "I"] ++ wsX00 ++ wsX50 ++ wsX10)
def wsX6_judge_r1 : List Cond := [Cond.fieldLink RX6 147 "DyehouseLedger$Lot" "state" "C", Cond.methodLink RX6 170 yX6_dyedLotNumbered, Cond.instanceMethod yX6_dyedLotNumbered, Cond.selects RX6 yX6_dyedLotNumbered yX6_dyedLotNumbered, Cond.initialized RX6, Cond.code yX6_dyedLotNumbered cX6_dyedLotNumbered 3 (some (.object "DyehouseLedger$Lot")), Cond.classLink RX6 56 "java/lang/IllegalStateException", Cond.initialized "java/lang/IllegalStateException", Cond.methodLink RX6 107 yX6_lotNumbered, Cond.instanceMethod yX6_lotNumbered, Cond.selects RX6 yX6_lotNumbered yX6_lotNumbered, Cond.code yX6_lotNumbered cX6_lotNumbered 3 (some (.object "DyehouseLedger$Lot")), Cond.classLink RX6 269 "java/util/NoSuchElementException", Cond.initialized "java/util/NoSuchElementException", Cond.fieldLink RX6 23 "DyehouseLedger" "allLots" "[LDyehouseLedger$Lot;", Cond.methodLink RX6 173 yX6_verdictOn, Cond.instanceMethod yX6_verdictOn, Cond.selects RX6 yX6_verdictOn yX6_verdictOn, Cond.code yX6_verdictOn cX6_verdictOn 2 (some .char), Cond.fieldLink RX6 236 "DyehouseLedger$Lot" "order" "LDyehouseLedger$Order;", Cond.fieldLink RX6 288 "DyehouseLedger$Order" "bound" "I", Cond.methodLink RX6 225 yX0_distanceFromRecipe, Cond.instanceMethod yX0_distanceFromRecipe, Cond.selects RX0 yX0_distanceFromRecipe yX0_distanceFromRecipe]
def wsX6_judge_r2 : List Cond := [Cond.initialized RX0, Cond.code yX0_distanceFromRecipe cX0_distanceFromRecipe 1 (some .int), Cond.fieldLink RX0 27 "DyehouseLedger$Lot" "shade" "LDyehouseLedger$Shade;", Cond.fieldLink RX0 15 "DyehouseLedger$Lot" "order" "LDyehouseLedger$Order;", Cond.fieldLink RX0 35 "DyehouseLedger$Order" "recipe" "LDyehouseLedger$Recipe;", Cond.fieldLink RX0 47 "DyehouseLedger$Recipe" "shade" "LDyehouseLedger$Shade;", Cond.methodLink RX0 48 yX4_distanceTo, Cond.instanceMethod yX4_distanceTo, Cond.selects RX4 yX4_distanceTo yX4_distanceTo, Cond.initialized RX4, Cond.code yX4_distanceTo cX4_distanceTo 2 (some .int), Cond.fieldLink RX4 7 "DyehouseLedger$Shade" "light" "I", Cond.methodLink RX4 19 Lib.Math.abs.name, Cond.static Lib.Math.abs.name, Cond.initialized "java/lang/Math", Cond.code Lib.Math.abs.name Lib.Math.abs.code 1 (some .int), Cond.fieldLink RX4 13 "DyehouseLedger$Shade" "red" "I", Cond.fieldLink RX4 16 "DyehouseLedger$Shade" "blue" "I", Cond.methodLink RX6 244 yX6_greatestDistanceFromPassed, Cond.instanceMethod yX6_greatestDistanceFromPassed, Cond.selects RX6 yX6_greatestDistanceFromPassed yX6_greatestDistanceFromPassed, Cond.code yX6_greatestDistanceFromPassed cX6_greatestDistanceFromPassed 7 (some .int), Cond.fieldLink RX6 140 "DyehouseLedger$Lot" "shade" "LDyehouseLedger$Shade;", Cond.methodLink RX6 247 Lib.Math.max.name]
def wsX6_judge_r3 : List Cond := [Cond.static Lib.Math.max.name, Cond.code Lib.Math.max.name Lib.Math.max.code 2 (some .int), Cond.methodLink RX6 240 yX0_isPassedOf, Cond.instanceMethod yX0_isPassedOf, Cond.selects RX0 yX0_isPassedOf yX0_isPassedOf, Cond.code yX0_isPassedOf cX0_isPassedOf 2 (some .boolean), Cond.fieldLink RX0 31 "DyehouseLedger$Lot" "state" "C", Cond.methodLink RX6 228 yX4_distanceTo, Cond.methodLink RX6 177 yX6_barVatOf, Cond.static yX6_barVatOf, Cond.code yX6_barVatOf cX6_barVatOf 2 none, Cond.fieldLink RX6 151 "DyehouseLedger$Lot" "vat" "LDyehouseLedger$Vat;", Cond.fieldLink RX6 158 "DyehouseLedger$Vat" "cleanings" "I", Cond.fieldLink RX6 161 "DyehouseLedger$Lot" "cleaningsThen" "I", Cond.fieldLink RX6 260 "DyehouseLedger$Order" "customer" "I", Cond.fieldLink RX6 167 "DyehouseLedger$Vat" "onlyCustomer" "I"]
def wsX6_judge : List Cond := .code yX6_judge cX6_judge 3 (some .boolean) :: ((wsX6_judge_r1 ++ (wsX6_judge_r2 ++ wsX6_judge_r3)) ++ wsX00 ++ wsX60 ++ wsX10 ++ wsX30 ++ wsX40 ++ wsX50 ++ (vx_at0 RX6 58 "java/lang/IllegalStateException" ["java/lang/RuntimeException", "java/lang/Exception"]).filter goodWord ++ (vx_at0 RX6 271 "java/util/NoSuchElementException" ["java/lang/RuntimeException", "java/lang/Exception"]).filter goodWord)
def wsX6_lotsInState : List Cond := .code yX6_lotsInState cX6_lotsInState 7 (some .int) :: ([.fieldLink RX6 23 "DyehouseLedger" "allLots" "[LDyehouseLedger$Lot;", .fieldLink RX6 147 "DyehouseLedger$Lot" "state" "C"] ++ wsX60 ++ wsX00)
def wsX6_again : List Cond := .code yX6_again cX6_again 3 (some .int) :: ([.classLink RX6 56 "java/lang/IllegalStateException", .initialized "java/lang/IllegalStateException", .fieldLink RX6 147 "DyehouseLedger$Lot" "state" "C", .fieldLink RX6 151 "DyehouseLedger$Lot" "vat" "LDyehouseLedger$Vat;", .methodLink RX6 107 yX6_lotNumbered, .instanceMethod yX6_lotNumbered, .selects RX6 yX6_lotNumbered yX6_lotNumbered, .initialized RX6, .code yX6_lotNumbered cX6_lotNumbered 3 (some (.object "DyehouseLedger$Lot")), .classLink RX6 269 "java/util/NoSuchElementException", .initialized "java/util/NoSuchElementException", .fieldLink RX6 23 "DyehouseLedger" "allLots" "[LDyehouseLedger$Lot;", .methodLink RX6 180 yX6_lotsInState, .instanceMethod yX6_lotsInState, .selects RX6 yX6_lotsInState yX6_lotsInState, .code yX6_lotsInState cX6_lotsInState 7 (some .int)] ++ wsX00 ++ wsX60 ++ (vx_at0 RX6 58 "java/lang/IllegalStateException" ["java/lang/RuntimeException", "java/lang/Exception"]).filter goodWord ++ (vx_at0 RX6 271 "java/util/NoSuchElementException" ["java/lang/RuntimeException", "java/lang/Exception"]).filter goodWord)
def wsX6_plannedLots : List Cond := .code yX6_plannedLots cX6_plannedLots 7 (some .int) :: ([.fieldLink RX6 23 "DyehouseLedger" "allLots" "[LDyehouseLedger$Lot;", .fieldLink RX6 164 "DyehouseLedger$Lot" "plannedFor" "LDyehouseLedger$Vat;"] ++ wsX60 ++ wsX00)
def wsX6_plan_r1 : List Cond := [Cond.classLink RX6 56 "java/lang/IllegalStateException", Cond.initialized "java/lang/IllegalStateException", Cond.classLink RX6 127 "java/lang/UnsupportedOperationException", Cond.initialized "java/lang/UnsupportedOperationException", Cond.fieldLink RX6 147 "DyehouseLedger$Lot" "state" "C", Cond.fieldLink RX6 164 "DyehouseLedger$Lot" "plannedFor" "LDyehouseLedger$Vat;", Cond.fieldLink RX6 188 "DyehouseLedger$Lot" "weight" "I", Cond.fieldLink RX6 191 "DyehouseLedger$Vat" "mostWeight" "I", Cond.methodLink RX6 107 yX6_lotNumbered, Cond.instanceMethod yX6_lotNumbered, Cond.selects RX6 yX6_lotNumbered yX6_lotNumbered, Cond.initialized RX6, Cond.code yX6_lotNumbered cX6_lotNumbered 3 (some (.object "DyehouseLedger$Lot")), Cond.classLink RX6 269 "java/util/NoSuchElementException", Cond.initialized "java/util/NoSuchElementException", Cond.fieldLink RX6 23 "DyehouseLedger" "allLots" "[LDyehouseLedger$Lot;", Cond.methodLink RX6 119 yX6_vatNumbered, Cond.instanceMethod yX6_vatNumbered, Cond.selects RX6 yX6_vatNumbered yX6_vatNumbered, Cond.code yX6_vatNumbered cX6_vatNumbered 3 (some (.object "DyehouseLedger$Vat")), Cond.fieldLink RX6 29 "DyehouseLedger" "allVats" "[LDyehouseLedger$Vat;", Cond.methodLink RX6 184 yX6_plannedLots, Cond.instanceMethod yX6_plannedLots, Cond.selects RX6 yX6_plannedLots yX6_plannedLots]
def wsX6_plan_r2 : List Cond := [Cond.code yX6_plannedLots cX6_plannedLots 7 (some .int)]
def wsX6_plan : List Cond := .code yX6_plan cX6_plan 6 (some .int) :: ((wsX6_plan_r1 ++ wsX6_plan_r2) ++ wsX00 ++ wsX50 ++ wsX60 ++ (vx_at0 RX6 58 "java/lang/IllegalStateException" ["java/lang/RuntimeException", "java/lang/Exception"]).filter goodWord ++ (vx_at0 RX6 129 "java/lang/UnsupportedOperationException" ["java/lang/RuntimeException", "java/lang/Exception"]).filter goodWord ++ (vx_at0 RX6 271 "java/util/NoSuchElementException" ["java/lang/RuntimeException", "java/lang/Exception"]).filter goodWord)
def wsX6_unplan : List Cond := .code yX6_unplan cX6_unplan 4 (some .int) :: ([.classLink RX6 56 "java/lang/IllegalStateException", .initialized "java/lang/IllegalStateException", .fieldLink RX6 164 "DyehouseLedger$Lot" "plannedFor" "LDyehouseLedger$Vat;", .fieldLink RX6 194 "DyehouseLedger$Vat" "number" "I", .methodLink RX6 107 yX6_lotNumbered, .instanceMethod yX6_lotNumbered, .selects RX6 yX6_lotNumbered yX6_lotNumbered, .initialized RX6, .code yX6_lotNumbered cX6_lotNumbered 3 (some (.object "DyehouseLedger$Lot")), .classLink RX6 269 "java/util/NoSuchElementException", .initialized "java/util/NoSuchElementException", .fieldLink RX6 23 "DyehouseLedger" "allLots" "[LDyehouseLedger$Lot;"] ++ wsX00 ++ wsX50 ++ wsX60 ++ (vx_at0 RX6 58 "java/lang/IllegalStateException" ["java/lang/RuntimeException", "java/lang/Exception"]).filter goodWord ++ (vx_at0 RX6 271 "java/util/NoSuchElementException" ["java/lang/RuntimeException", "java/lang/Exception"]).filter goodWord)
def wsX6_planned : List Cond := .code yX6_planned cX6_planned 2 (some .int) :: ([.methodLink RX6 119 yX6_vatNumbered, .instanceMethod yX6_vatNumbered, .selects RX6 yX6_vatNumbered yX6_vatNumbered, .initialized RX6, .code yX6_vatNumbered cX6_vatNumbered 3 (some (.object "DyehouseLedger$Vat")), .classLink RX6 269 "java/util/NoSuchElementException", .initialized "java/util/NoSuchElementException", .fieldLink RX6 29 "DyehouseLedger" "allVats" "[LDyehouseLedger$Vat;", .methodLink RX6 184 yX6_plannedLots, .instanceMethod yX6_plannedLots, .selects RX6 yX6_plannedLots yX6_plannedLots, .code yX6_plannedLots cX6_plannedLots 7 (some .int), .fieldLink RX6 23 "DyehouseLedger" "allLots" "[LDyehouseLedger$Lot;", .fieldLink RX6 164 "DyehouseLedger$Lot" "plannedFor" "LDyehouseLedger$Vat;"] ++ wsX60 ++ wsX00 ++ (vx_at0 RX6 271 "java/util/NoSuchElementException" ["java/lang/RuntimeException", "java/lang/Exception"]).filter goodWord)
def wsX6_plannedAt : List Cond := .code yX6_plannedAt cX6_plannedAt 9 (some .int) :: ([.classLink RX6 198 "java/lang/IndexOutOfBoundsException", .initialized "java/lang/IndexOutOfBoundsException", .fieldLink RX6 23 "DyehouseLedger" "allLots" "[LDyehouseLedger$Lot;", .fieldLink RX6 164 "DyehouseLedger$Lot" "plannedFor" "LDyehouseLedger$Vat;", .fieldLink RX6 197 "DyehouseLedger$Lot" "number" "I", .methodLink RX6 119 yX6_vatNumbered, .instanceMethod yX6_vatNumbered, .selects RX6 yX6_vatNumbered yX6_vatNumbered, .initialized RX6, .code yX6_vatNumbered cX6_vatNumbered 3 (some (.object "DyehouseLedger$Vat")), .classLink RX6 269 "java/util/NoSuchElementException", .initialized "java/util/NoSuchElementException", .fieldLink RX6 29 "DyehouseLedger" "allVats" "[LDyehouseLedger$Vat;"] ++ wsX60 ++ wsX00 ++ (vx_at0 RX6 200 "java/lang/IndexOutOfBoundsException" ["java/lang/RuntimeException", "java/lang/Exception"]).filter goodWord ++ (vx_at0 RX6 271 "java/util/NoSuchElementException" ["java/lang/RuntimeException", "java/lang/Exception"]).filter goodWord)
def wsX6_fillPlan_r1 : List Cond := [Cond.fieldLink RX6 44 "DyehouseLedger" "planAtHand" "LDyehouseLedger$Plan;", Cond.fieldLink RX6 23 "DyehouseLedger" "allLots" "[LDyehouseLedger$Lot;", Cond.fieldLink RX6 164 "DyehouseLedger$Lot" "plannedFor" "LDyehouseLedger$Vat;", Cond.methodLink RX6 291 yX2_begin, Cond.instanceMethod yX2_begin, Cond.selects RX2 yX2_begin yX2_begin, Cond.initialized RX2, Cond.code yX2_begin cX2_begin 2 none, Cond.fieldLink RX2 24 "DyehouseLedger$Plan" "size" "I", Cond.fieldLink RX2 28 "DyehouseLedger$Vat" "light" "I", Cond.fieldLink RX2 33 "DyehouseLedger$Plan" "lightAtFirst" "I", Cond.fieldLink RX2 36 "DyehouseLedger$Vat" "onlyCustomer" "I", Cond.fieldLink RX2 39 "DyehouseLedger$Plan" "onlyCustomerAtFirst" "I", Cond.methodLink RX6 294 yX2_add, Cond.instanceMethod yX2_add, Cond.selects RX2 yX2_add yX2_add, Cond.code yX2_add cX2_add 2 none, Cond.fieldLink RX2 9 "DyehouseLedger$Plan" "numbers" "[I", Cond.fieldLink RX2 42 "DyehouseLedger$Lot" "number" "I", Cond.fieldLink RX2 15 "DyehouseLedger$Plan" "lights" "[I", Cond.fieldLink RX2 47 "DyehouseLedger$Lot" "order" "LDyehouseLedger$Order;", Cond.fieldLink RX2 51 "DyehouseLedger$Order" "recipe" "LDyehouseLedger$Recipe;", Cond.fieldLink RX2 57 "DyehouseLedger$Recipe" "shade" "LDyehouseLedger$Shade;", Cond.fieldLink RX2 63 "DyehouseLedger$Shade" "light" "I"]
def wsX6_fillPlan_r2 : List Cond := [Cond.fieldLink RX2 18 "DyehouseLedger$Plan" "customers" "[I", Cond.fieldLink RX2 66 "DyehouseLedger$Order" "customer" "I", Cond.fieldLink RX2 21 "DyehouseLedger$Plan" "hours" "[I", Cond.methodLink RX2 69 yX0_dyeingHours, Cond.instanceMethod yX0_dyeingHours, Cond.selects RX0 yX0_dyeingHours yX0_dyeingHours, Cond.initialized RX0, Cond.code yX0_dyeingHours cX0_dyeingHours 1 (some .int), Cond.fieldLink RX0 19 "DyehouseLedger$Lot" "weight" "I"]
def wsX6_fillPlan : List Cond := .code yX6_fillPlan cX6_fillPlan 6 none :: ((wsX6_fillPlan_r1 ++ wsX6_fillPlan_r2) ++ wsX60 ++ wsX00 ++ wsX20 ++ wsX50 ++ wsX10 ++ wsX30 ++ wsX40 ++ (vx_atM "java/lang/ArrayIndexOutOfBoundsException" ["java/lang/IndexOutOfBoundsException", "java/lang/RuntimeException", "java/lang/Exception"]).filter goodWord)
def wsX6_leastHours_r1 : List Cond := [Cond.fieldLink RX6 44 "DyehouseLedger" "planAtHand" "LDyehouseLedger$Plan;", Cond.methodLink RX6 119 yX6_vatNumbered, Cond.instanceMethod yX6_vatNumbered, Cond.selects RX6 yX6_vatNumbered yX6_vatNumbered, Cond.initialized RX6, Cond.code yX6_vatNumbered cX6_vatNumbered 3 (some (.object "DyehouseLedger$Vat")), Cond.classLink RX6 269 "java/util/NoSuchElementException", Cond.initialized "java/util/NoSuchElementException", Cond.fieldLink RX6 29 "DyehouseLedger" "allVats" "[LDyehouseLedger$Vat;", Cond.methodLink RX6 201 yX6_fillPlan, Cond.instanceMethod yX6_fillPlan, Cond.selects RX6 yX6_fillPlan yX6_fillPlan, Cond.code yX6_fillPlan cX6_fillPlan 6 none, Cond.fieldLink RX6 23 "DyehouseLedger" "allLots" "[LDyehouseLedger$Lot;", Cond.fieldLink RX6 164 "DyehouseLedger$Lot" "plannedFor" "LDyehouseLedger$Vat;", Cond.methodLink RX6 291 yX2_begin, Cond.instanceMethod yX2_begin, Cond.selects RX2 yX2_begin yX2_begin, Cond.initialized RX2, Cond.code yX2_begin cX2_begin 2 none, Cond.fieldLink RX2 24 "DyehouseLedger$Plan" "size" "I", Cond.fieldLink RX2 28 "DyehouseLedger$Vat" "light" "I", Cond.fieldLink RX2 33 "DyehouseLedger$Plan" "lightAtFirst" "I", Cond.fieldLink RX2 36 "DyehouseLedger$Vat" "onlyCustomer" "I"]
def wsX6_leastHours_r2 : List Cond := [Cond.fieldLink RX2 39 "DyehouseLedger$Plan" "onlyCustomerAtFirst" "I", Cond.methodLink RX6 294 yX2_add, Cond.instanceMethod yX2_add, Cond.selects RX2 yX2_add yX2_add, Cond.code yX2_add cX2_add 2 none, Cond.fieldLink RX2 9 "DyehouseLedger$Plan" "numbers" "[I", Cond.fieldLink RX2 42 "DyehouseLedger$Lot" "number" "I", Cond.fieldLink RX2 15 "DyehouseLedger$Plan" "lights" "[I", Cond.fieldLink RX2 47 "DyehouseLedger$Lot" "order" "LDyehouseLedger$Order;", Cond.fieldLink RX2 51 "DyehouseLedger$Order" "recipe" "LDyehouseLedger$Recipe;", Cond.fieldLink RX2 57 "DyehouseLedger$Recipe" "shade" "LDyehouseLedger$Shade;", Cond.fieldLink RX2 63 "DyehouseLedger$Shade" "light" "I", Cond.fieldLink RX2 18 "DyehouseLedger$Plan" "customers" "[I", Cond.fieldLink RX2 66 "DyehouseLedger$Order" "customer" "I", Cond.fieldLink RX2 21 "DyehouseLedger$Plan" "hours" "[I", Cond.methodLink RX2 69 yX0_dyeingHours, Cond.instanceMethod yX0_dyeingHours, Cond.selects RX0 yX0_dyeingHours yX0_dyeingHours, Cond.initialized RX0, Cond.code yX0_dyeingHours cX0_dyeingHours 1 (some .int), Cond.fieldLink RX0 19 "DyehouseLedger$Lot" "weight" "I", Cond.methodLink RX6 205 yX2_dyeingHours, Cond.instanceMethod yX2_dyeingHours, Cond.selects RX2 yX2_dyeingHours yX2_dyeingHours]
def wsX6_leastHours_r3 : List Cond := [Cond.code yX2_dyeingHours cX2_dyeingHours 3 (some .int), Cond.methodLink RX6 206 yX2_fewestCleanings, Cond.instanceMethod yX2_fewestCleanings, Cond.selects RX2 yX2_fewestCleanings yX2_fewestCleanings, Cond.code yX2_fewestCleanings cX2_fewestCleanings 1 (some .int), Cond.methodLink RX2 73 yX2_fewestFrom, Cond.static yX2_fewestFrom, Cond.code yX2_fewestFrom cX2_fewestFrom 10 (some .int), Cond.methodLink RX2 84 yX2_mustBeCleaned, Cond.instanceMethod yX2_mustBeCleaned, Cond.selects RX2 yX2_mustBeCleaned yX2_mustBeCleaned, Cond.code yX2_mustBeCleaned cX2_mustBeCleaned 4 (some .boolean), Cond.static yX6_isTooDark, Cond.code yX6_isTooDark cX6_isTooDark 2 (some .boolean), Cond.static yX6_isBarred, Cond.code yX6_isBarred cX6_isBarred 2 (some .boolean)]
def wsX6_leastHours : List Cond := .code yX6_leastHours cX6_leastHours 2 (some .int) :: ((wsX6_leastHours_r1 ++ (wsX6_leastHours_r2 ++ wsX6_leastHours_r3)) ++ wsX60 ++ wsX00 ++ wsX20 ++ wsX50 ++ wsX10 ++ wsX30 ++ wsX40 ++ (vx_at0 RX6 271 "java/util/NoSuchElementException" ["java/lang/RuntimeException", "java/lang/Exception"]).filter goodWord ++ (vx_atM "java/lang/ArrayIndexOutOfBoundsException" ["java/lang/IndexOutOfBoundsException", "java/lang/RuntimeException", "java/lang/Exception"]).filter goodWord)
def wsX6_leastByAll_r1 : List Cond := [Cond.fieldLink RX6 44 "DyehouseLedger" "planAtHand" "LDyehouseLedger$Plan;", Cond.methodLink RX6 119 yX6_vatNumbered, Cond.instanceMethod yX6_vatNumbered, Cond.selects RX6 yX6_vatNumbered yX6_vatNumbered, Cond.initialized RX6, Cond.code yX6_vatNumbered cX6_vatNumbered 3 (some (.object "DyehouseLedger$Vat")), Cond.classLink RX6 269 "java/util/NoSuchElementException", Cond.initialized "java/util/NoSuchElementException", Cond.fieldLink RX6 29 "DyehouseLedger" "allVats" "[LDyehouseLedger$Vat;", Cond.methodLink RX6 201 yX6_fillPlan, Cond.instanceMethod yX6_fillPlan, Cond.selects RX6 yX6_fillPlan yX6_fillPlan, Cond.code yX6_fillPlan cX6_fillPlan 6 none, Cond.fieldLink RX6 23 "DyehouseLedger" "allLots" "[LDyehouseLedger$Lot;", Cond.fieldLink RX6 164 "DyehouseLedger$Lot" "plannedFor" "LDyehouseLedger$Vat;", Cond.methodLink RX6 291 yX2_begin, Cond.instanceMethod yX2_begin, Cond.selects RX2 yX2_begin yX2_begin, Cond.initialized RX2, Cond.code yX2_begin cX2_begin 2 none, Cond.fieldLink RX2 24 "DyehouseLedger$Plan" "size" "I", Cond.fieldLink RX2 28 "DyehouseLedger$Vat" "light" "I", Cond.fieldLink RX2 33 "DyehouseLedger$Plan" "lightAtFirst" "I", Cond.fieldLink RX2 36 "DyehouseLedger$Vat" "onlyCustomer" "I"]
def wsX6_leastByAll_r2 : List Cond := [Cond.fieldLink RX2 39 "DyehouseLedger$Plan" "onlyCustomerAtFirst" "I", Cond.methodLink RX6 294 yX2_add, Cond.instanceMethod yX2_add, Cond.selects RX2 yX2_add yX2_add, Cond.code yX2_add cX2_add 2 none, Cond.fieldLink RX2 9 "DyehouseLedger$Plan" "numbers" "[I", Cond.fieldLink RX2 42 "DyehouseLedger$Lot" "number" "I", Cond.fieldLink RX2 15 "DyehouseLedger$Plan" "lights" "[I", Cond.fieldLink RX2 47 "DyehouseLedger$Lot" "order" "LDyehouseLedger$Order;", Cond.fieldLink RX2 51 "DyehouseLedger$Order" "recipe" "LDyehouseLedger$Recipe;", Cond.fieldLink RX2 57 "DyehouseLedger$Recipe" "shade" "LDyehouseLedger$Shade;", Cond.fieldLink RX2 63 "DyehouseLedger$Shade" "light" "I", Cond.fieldLink RX2 18 "DyehouseLedger$Plan" "customers" "[I", Cond.fieldLink RX2 66 "DyehouseLedger$Order" "customer" "I", Cond.fieldLink RX2 21 "DyehouseLedger$Plan" "hours" "[I", Cond.methodLink RX2 69 yX0_dyeingHours, Cond.instanceMethod yX0_dyeingHours, Cond.selects RX0 yX0_dyeingHours yX0_dyeingHours, Cond.initialized RX0, Cond.code yX0_dyeingHours cX0_dyeingHours 1 (some .int), Cond.fieldLink RX0 19 "DyehouseLedger$Lot" "weight" "I", Cond.methodLink RX6 209 yX2_leastOfAllOrders, Cond.instanceMethod yX2_leastOfAllOrders, Cond.selects RX2 yX2_leastOfAllOrders yX2_leastOfAllOrders]
def wsX6_leastByAll_r3 : List Cond := [Cond.code yX2_leastOfAllOrders cX2_leastOfAllOrders 1 (some .int), Cond.methodLink RX2 88 yX2_leastFrom, Cond.static yX2_leastFrom, Cond.code yX2_leastFrom cX2_leastFrom 10 (some .int), Cond.constant RX2 99 (1000000), Cond.methodLink RX2 100 Lib.Math.min.name, Cond.static Lib.Math.min.name, Cond.initialized "java/lang/Math", Cond.code Lib.Math.min.name Lib.Math.min.code 2 (some .int), Cond.methodLink RX2 84 yX2_mustBeCleaned, Cond.instanceMethod yX2_mustBeCleaned, Cond.selects RX2 yX2_mustBeCleaned yX2_mustBeCleaned, Cond.code yX2_mustBeCleaned cX2_mustBeCleaned 4 (some .boolean), Cond.static yX6_isTooDark, Cond.code yX6_isTooDark cX6_isTooDark 2 (some .boolean), Cond.static yX6_isBarred, Cond.code yX6_isBarred cX6_isBarred 2 (some .boolean)]
def wsX6_leastByAll : List Cond := .code yX6_leastByAll cX6_leastByAll 2 (some .int) :: ((wsX6_leastByAll_r1 ++ (wsX6_leastByAll_r2 ++ wsX6_leastByAll_r3)) ++ wsX60 ++ wsX00 ++ wsX20 ++ wsX50 ++ wsX10 ++ wsX30 ++ wsX40 ++ (vx_at0 RX6 271 "java/util/NoSuchElementException" ["java/lang/RuntimeException", "java/lang/Exception"]).filter goodWord ++ (vx_atM "java/lang/ArrayIndexOutOfBoundsException" ["java/lang/IndexOutOfBoundsException", "java/lang/RuntimeException", "java/lang/Exception"]).filter goodWord)
def wsX6_firstOf_r1 : List Cond := [Cond.classLink RX6 56 "java/lang/IllegalStateException", Cond.initialized "java/lang/IllegalStateException", Cond.fieldLink RX6 44 "DyehouseLedger" "planAtHand" "LDyehouseLedger$Plan;", Cond.methodLink RX6 119 yX6_vatNumbered, Cond.instanceMethod yX6_vatNumbered, Cond.selects RX6 yX6_vatNumbered yX6_vatNumbered, Cond.initialized RX6, Cond.code yX6_vatNumbered cX6_vatNumbered 3 (some (.object "DyehouseLedger$Vat")), Cond.classLink RX6 269 "java/util/NoSuchElementException", Cond.initialized "java/util/NoSuchElementException", Cond.fieldLink RX6 29 "DyehouseLedger" "allVats" "[LDyehouseLedger$Vat;", Cond.methodLink RX6 184 yX6_plannedLots, Cond.instanceMethod yX6_plannedLots, Cond.selects RX6 yX6_plannedLots yX6_plannedLots, Cond.code yX6_plannedLots cX6_plannedLots 7 (some .int), Cond.fieldLink RX6 23 "DyehouseLedger" "allLots" "[LDyehouseLedger$Lot;", Cond.fieldLink RX6 164 "DyehouseLedger$Lot" "plannedFor" "LDyehouseLedger$Vat;", Cond.methodLink RX6 201 yX6_fillPlan, Cond.instanceMethod yX6_fillPlan, Cond.selects RX6 yX6_fillPlan yX6_fillPlan, Cond.code yX6_fillPlan cX6_fillPlan 6 none, Cond.methodLink RX6 291 yX2_begin, Cond.instanceMethod yX2_begin, Cond.selects RX2 yX2_begin yX2_begin]
def wsX6_firstOf_r2 : List Cond := [Cond.initialized RX2, Cond.code yX2_begin cX2_begin 2 none, Cond.fieldLink RX2 24 "DyehouseLedger$Plan" "size" "I", Cond.fieldLink RX2 28 "DyehouseLedger$Vat" "light" "I", Cond.fieldLink RX2 33 "DyehouseLedger$Plan" "lightAtFirst" "I", Cond.fieldLink RX2 36 "DyehouseLedger$Vat" "onlyCustomer" "I", Cond.fieldLink RX2 39 "DyehouseLedger$Plan" "onlyCustomerAtFirst" "I", Cond.methodLink RX6 294 yX2_add, Cond.instanceMethod yX2_add, Cond.selects RX2 yX2_add yX2_add, Cond.code yX2_add cX2_add 2 none, Cond.fieldLink RX2 9 "DyehouseLedger$Plan" "numbers" "[I", Cond.fieldLink RX2 42 "DyehouseLedger$Lot" "number" "I", Cond.fieldLink RX2 15 "DyehouseLedger$Plan" "lights" "[I", Cond.fieldLink RX2 47 "DyehouseLedger$Lot" "order" "LDyehouseLedger$Order;", Cond.fieldLink RX2 51 "DyehouseLedger$Order" "recipe" "LDyehouseLedger$Recipe;", Cond.fieldLink RX2 57 "DyehouseLedger$Recipe" "shade" "LDyehouseLedger$Shade;", Cond.fieldLink RX2 63 "DyehouseLedger$Shade" "light" "I", Cond.fieldLink RX2 18 "DyehouseLedger$Plan" "customers" "[I", Cond.fieldLink RX2 66 "DyehouseLedger$Order" "customer" "I", Cond.fieldLink RX2 21 "DyehouseLedger$Plan" "hours" "[I", Cond.methodLink RX2 69 yX0_dyeingHours, Cond.instanceMethod yX0_dyeingHours, Cond.selects RX0 yX0_dyeingHours yX0_dyeingHours]
def wsX6_firstOf_r3 : List Cond := [Cond.initialized RX0, Cond.code yX0_dyeingHours cX0_dyeingHours 1 (some .int), Cond.fieldLink RX0 19 "DyehouseLedger$Lot" "weight" "I", Cond.methodLink RX6 212 yX2_firstOfBestOrder, Cond.instanceMethod yX2_firstOfBestOrder, Cond.selects RX2 yX2_firstOfBestOrder yX2_firstOfBestOrder, Cond.code yX2_firstOfBestOrder cX2_firstOfBestOrder 3 (some .int), Cond.methodLink RX2 77 yX2_fewestCleanings, Cond.instanceMethod yX2_fewestCleanings, Cond.selects RX2 yX2_fewestCleanings yX2_fewestCleanings, Cond.code yX2_fewestCleanings cX2_fewestCleanings 1 (some .int), Cond.methodLink RX2 73 yX2_fewestFrom, Cond.static yX2_fewestFrom, Cond.code yX2_fewestFrom cX2_fewestFrom 10 (some .int), Cond.methodLink RX2 84 yX2_mustBeCleaned, Cond.instanceMethod yX2_mustBeCleaned, Cond.selects RX2 yX2_mustBeCleaned yX2_mustBeCleaned, Cond.code yX2_mustBeCleaned cX2_mustBeCleaned 4 (some .boolean), Cond.static yX6_isTooDark, Cond.code yX6_isTooDark cX6_isTooDark 2 (some .boolean), Cond.static yX6_isBarred, Cond.code yX6_isBarred cX6_isBarred 2 (some .boolean), Cond.methodLink RX2 80 yX2_fewestBeginningWith, Cond.instanceMethod yX2_fewestBeginningWith]
def wsX6_firstOf_r4 : List Cond := [Cond.selects RX2 yX2_fewestBeginningWith yX2_fewestBeginningWith, Cond.code yX2_fewestBeginningWith cX2_fewestBeginningWith 5 (some .int)]
def wsX6_firstOf : List Cond := .code yX6_firstOf cX6_firstOf 3 (some .int) :: ((wsX6_firstOf_r1 ++ (wsX6_firstOf_r2 ++ (wsX6_firstOf_r3 ++ wsX6_firstOf_r4))) ++ wsX60 ++ wsX00 ++ wsX20 ++ wsX50 ++ wsX10 ++ wsX30 ++ wsX40 ++ (vx_at0 RX6 58 "java/lang/IllegalStateException" ["java/lang/RuntimeException", "java/lang/Exception"]).filter goodWord ++ (vx_at0 RX6 271 "java/util/NoSuchElementException" ["java/lang/RuntimeException", "java/lang/Exception"]).filter goodWord ++ (vx_atM "java/lang/ArrayIndexOutOfBoundsException" ["java/lang/IndexOutOfBoundsException", "java/lang/RuntimeException", "java/lang/Exception"]).filter goodWord)
def wsX6_recipes : List Cond := .code yX6_recipes cX6_recipes 1 (some .int) :: ([.fieldLink RX6 52 "DyehouseLedger" "recipeCount" "I"] ++ wsX60)
def wsX6_lots : List Cond := .code yX6_lots cX6_lots 1 (some .int) :: ([.fieldLink RX6 95 "DyehouseLedger" "lotCount" "I"] ++ wsX60)
def wsX6_stateOf : List Cond := .code yX6_stateOf cX6_stateOf 2 (some .char) :: ([.fieldLink RX6 147 "DyehouseLedger$Lot" "state" "C", .methodLink RX6 107 yX6_lotNumbered, .instanceMethod yX6_lotNumbered, .selects RX6 yX6_lotNumbered yX6_lotNumbered, .initialized RX6, .code yX6_lotNumbered cX6_lotNumbered 3 (some (.object "DyehouseLedger$Lot")), .classLink RX6 269 "java/util/NoSuchElementException", .initialized "java/util/NoSuchElementException", .fieldLink RX6 23 "DyehouseLedger" "allLots" "[LDyehouseLedger$Lot;"] ++ wsX00 ++ wsX60 ++ (vx_at0 RX6 271 "java/util/NoSuchElementException" ["java/lang/RuntimeException", "java/lang/Exception"]).filter goodWord)
def wsX6_shadedLotNumbered : List Cond := .code yX6_shadedLotNumbered cX6_shadedLotNumbered 3 (some (.object "DyehouseLedger$Lot")) :: ([.classLink RX6 56 "java/lang/IllegalStateException", .initialized "java/lang/IllegalStateException", .fieldLink RX6 147 "DyehouseLedger$Lot" "state" "C", .methodLink RX6 107 yX6_lotNumbered, .instanceMethod yX6_lotNumbered, .selects RX6 yX6_lotNumbered yX6_lotNumbered, .initialized RX6, .code yX6_lotNumbered cX6_lotNumbered 3 (some (.object "DyehouseLedger$Lot")), .classLink RX6 269 "java/util/NoSuchElementException", .initialized "java/util/NoSuchElementException", .fieldLink RX6 23 "DyehouseLedger" "allLots" "[LDyehouseLedger$Lot;"] ++ wsX00 ++ wsX60 ++ (vx_at0 RX6 58 "java/lang/IllegalStateException" ["java/lang/RuntimeException", "java/lang/Exception"]).filter goodWord ++ (vx_at0 RX6 271 "java/util/NoSuchElementException" ["java/lang/RuntimeException", "java/lang/Exception"]).filter goodWord)
def wsX6_shadeOf : List Cond := .code yX6_shadeOf cX6_shadeOf 4 (some .int) :: ([.classLink RX6 198 "java/lang/IndexOutOfBoundsException", .initialized "java/lang/IndexOutOfBoundsException", .fieldLink RX6 140 "DyehouseLedger$Lot" "shade" "LDyehouseLedger$Shade;", .fieldLink RX6 218 "DyehouseLedger$Shade" "light" "I", .fieldLink RX6 219 "DyehouseLedger$Shade" "red" "I", .fieldLink RX6 222 "DyehouseLedger$Shade" "blue" "I", .methodLink RX6 215 yX6_shadedLotNumbered, .instanceMethod yX6_shadedLotNumbered, .selects RX6 yX6_shadedLotNumbered yX6_shadedLotNumbered, .initialized RX6, .code yX6_shadedLotNumbered cX6_shadedLotNumbered 3 (some (.object "DyehouseLedger$Lot")), .classLink RX6 56 "java/lang/IllegalStateException", .initialized "java/lang/IllegalStateException", .fieldLink RX6 147 "DyehouseLedger$Lot" "state" "C", .methodLink RX6 107 yX6_lotNumbered, .instanceMethod yX6_lotNumbered, .selects RX6 yX6_lotNumbered yX6_lotNumbered, .code yX6_lotNumbered cX6_lotNumbered 3 (some (.object "DyehouseLedger$Lot")), .classLink RX6 269 "java/util/NoSuchElementException", .initialized "java/util/NoSuchElementException", .fieldLink RX6 23 "DyehouseLedger" "allLots" "[LDyehouseLedger$Lot;"] ++ wsX00 ++ wsX40 ++ wsX60 ++ (vx_at0 RX6 200 "java/lang/IndexOutOfBoundsException" ["java/lang/RuntimeException", "java/lang/Exception"]).filter goodWord ++ (vx_at0 RX6 58 "java/lang/IllegalStateException" ["java/lang/RuntimeException", "java/lang/Exception"]).filter goodWord ++ (vx_at0 RX6 271 "java/util/NoSuchElementException" ["java/lang/RuntimeException", "java/lang/Exception"]).filter goodWord)
def wsX6_vatOf : List Cond := .code yX6_vatOf cX6_vatOf 3 (some .int) :: ([.classLink RX6 56 "java/lang/IllegalStateException", .initialized "java/lang/IllegalStateException", .fieldLink RX6 151 "DyehouseLedger$Lot" "vat" "LDyehouseLedger$Vat;", .fieldLink RX6 194 "DyehouseLedger$Vat" "number" "I", .methodLink RX6 107 yX6_lotNumbered, .instanceMethod yX6_lotNumbered, .selects RX6 yX6_lotNumbered yX6_lotNumbered, .initialized RX6, .code yX6_lotNumbered cX6_lotNumbered 3 (some (.object "DyehouseLedger$Lot")), .classLink RX6 269 "java/util/NoSuchElementException", .initialized "java/util/NoSuchElementException", .fieldLink RX6 23 "DyehouseLedger" "allLots" "[LDyehouseLedger$Lot;"] ++ wsX00 ++ wsX50 ++ wsX60 ++ (vx_at0 RX6 58 "java/lang/IllegalStateException" ["java/lang/RuntimeException", "java/lang/Exception"]).filter goodWord ++ (vx_at0 RX6 271 "java/util/NoSuchElementException" ["java/lang/RuntimeException", "java/lang/Exception"]).filter goodWord)
def wsX6_offBy_r1 : List Cond := [Cond.methodLink RX6 215 yX6_shadedLotNumbered, Cond.instanceMethod yX6_shadedLotNumbered, Cond.selects RX6 yX6_shadedLotNumbered yX6_shadedLotNumbered, Cond.initialized RX6, Cond.code yX6_shadedLotNumbered cX6_shadedLotNumbered 3 (some (.object "DyehouseLedger$Lot")), Cond.classLink RX6 56 "java/lang/IllegalStateException", Cond.initialized "java/lang/IllegalStateException", Cond.fieldLink RX6 147 "DyehouseLedger$Lot" "state" "C", Cond.methodLink RX6 107 yX6_lotNumbered, Cond.instanceMethod yX6_lotNumbered, Cond.selects RX6 yX6_lotNumbered yX6_lotNumbered, Cond.code yX6_lotNumbered cX6_lotNumbered 3 (some (.object "DyehouseLedger$Lot")), Cond.classLink RX6 269 "java/util/NoSuchElementException", Cond.initialized "java/util/NoSuchElementException", Cond.fieldLink RX6 23 "DyehouseLedger" "allLots" "[LDyehouseLedger$Lot;", Cond.methodLink RX6 225 yX0_distanceFromRecipe, Cond.instanceMethod yX0_distanceFromRecipe, Cond.selects RX0 yX0_distanceFromRecipe yX0_distanceFromRecipe, Cond.initialized RX0, Cond.code yX0_distanceFromRecipe cX0_distanceFromRecipe 1 (some .int), Cond.fieldLink RX0 27 "DyehouseLedger$Lot" "shade" "LDyehouseLedger$Shade;", Cond.fieldLink RX0 15 "DyehouseLedger$Lot" "order" "LDyehouseLedger$Order;", Cond.fieldLink RX0 35 "DyehouseLedger$Order" "recipe" "LDyehouseLedger$Recipe;", Cond.fieldLink RX0 47 "DyehouseLedger$Recipe" "shade" "LDyehouseLedger$Shade;"]
def wsX6_offBy_r2 : List Cond := [Cond.methodLink RX0 48 yX4_distanceTo, Cond.instanceMethod yX4_distanceTo, Cond.selects RX4 yX4_distanceTo yX4_distanceTo, Cond.initialized RX4, Cond.code yX4_distanceTo cX4_distanceTo 2 (some .int), Cond.fieldLink RX4 7 "DyehouseLedger$Shade" "light" "I", Cond.methodLink RX4 19 Lib.Math.abs.name, Cond.static Lib.Math.abs.name, Cond.initialized "java/lang/Math", Cond.code Lib.Math.abs.name Lib.Math.abs.code 1 (some .int), Cond.fieldLink RX4 13 "DyehouseLedger$Shade" "red" "I", Cond.fieldLink RX4 16 "DyehouseLedger$Shade" "blue" "I"]
def wsX6_offBy : List Cond := .code yX6_offBy cX6_offBy 2 (some .int) :: ((wsX6_offBy_r1 ++ wsX6_offBy_r2) ++ wsX00 ++ wsX60 ++ wsX10 ++ wsX30 ++ wsX40 ++ (vx_at0 RX6 58 "java/lang/IllegalStateException" ["java/lang/RuntimeException", "java/lang/Exception"]).filter goodWord ++ (vx_at0 RX6 271 "java/util/NoSuchElementException" ["java/lang/RuntimeException", "java/lang/Exception"]).filter goodWord)
def wsX6_distance : List Cond := .code yX6_distance cX6_distance 5 (some .int) :: ([.classLink RX6 56 "java/lang/IllegalStateException", .initialized "java/lang/IllegalStateException", .fieldLink RX6 147 "DyehouseLedger$Lot" "state" "C", .fieldLink RX6 140 "DyehouseLedger$Lot" "shade" "LDyehouseLedger$Shade;", .methodLink RX6 107 yX6_lotNumbered, .instanceMethod yX6_lotNumbered, .selects RX6 yX6_lotNumbered yX6_lotNumbered, .initialized RX6, .code yX6_lotNumbered cX6_lotNumbered 3 (some (.object "DyehouseLedger$Lot")), .classLink RX6 269 "java/util/NoSuchElementException", .initialized "java/util/NoSuchElementException", .fieldLink RX6 23 "DyehouseLedger" "allLots" "[LDyehouseLedger$Lot;", .methodLink RX6 228 yX4_distanceTo, .instanceMethod yX4_distanceTo, .selects RX4 yX4_distanceTo yX4_distanceTo, .initialized RX4, .code yX4_distanceTo cX4_distanceTo 2 (some .int), .fieldLink RX4 7 "DyehouseLedger$Shade" "light" "I", .methodLink RX4 19 Lib.Math.abs.name, .static Lib.Math.abs.name, .initialized "java/lang/Math", .code Lib.Math.abs.name Lib.Math.abs.code 1 (some .int), .fieldLink RX4 13 "DyehouseLedger$Shade" "red" "I", .fieldLink RX4 16 "DyehouseLedger$Shade" "blue" "I"] ++ wsX00 ++ wsX60 ++ wsX40 ++ (vx_at0 RX6 58 "java/lang/IllegalStateException" ["java/lang/RuntimeException", "java/lang/Exception"]).filter goodWord ++ (vx_at0 RX6 271 "java/util/NoSuchElementException" ["java/lang/RuntimeException", "java/lang/Exception"]).filter goodWord)
def wsX6_nearest_r1 : List Cond := [Cond.classLink RX6 127 "java/lang/UnsupportedOperationException", Cond.initialized "java/lang/UnsupportedOperationException", Cond.fieldLink RX6 23 "DyehouseLedger" "allLots" "[LDyehouseLedger$Lot;", Cond.fieldLink RX6 147 "DyehouseLedger$Lot" "state" "C", Cond.fieldLink RX6 140 "DyehouseLedger$Lot" "shade" "LDyehouseLedger$Shade;", Cond.fieldLink RX6 197 "DyehouseLedger$Lot" "number" "I", Cond.methodLink RX6 215 yX6_shadedLotNumbered, Cond.instanceMethod yX6_shadedLotNumbered, Cond.selects RX6 yX6_shadedLotNumbered yX6_shadedLotNumbered, Cond.initialized RX6, Cond.code yX6_shadedLotNumbered cX6_shadedLotNumbered 3 (some (.object "DyehouseLedger$Lot")), Cond.classLink RX6 56 "java/lang/IllegalStateException", Cond.initialized "java/lang/IllegalStateException", Cond.methodLink RX6 107 yX6_lotNumbered, Cond.instanceMethod yX6_lotNumbered, Cond.selects RX6 yX6_lotNumbered yX6_lotNumbered, Cond.code yX6_lotNumbered cX6_lotNumbered 3 (some (.object "DyehouseLedger$Lot")), Cond.classLink RX6 269 "java/util/NoSuchElementException", Cond.initialized "java/util/NoSuchElementException", Cond.methodLink RX6 228 yX4_distanceTo, Cond.instanceMethod yX4_distanceTo, Cond.selects RX4 yX4_distanceTo yX4_distanceTo, Cond.initialized RX4, Cond.code yX4_distanceTo cX4_distanceTo 2 (some .int)]
def wsX6_nearest_r2 : List Cond := [Cond.fieldLink RX4 7 "DyehouseLedger$Shade" "light" "I", Cond.methodLink RX4 19 Lib.Math.abs.name, Cond.static Lib.Math.abs.name, Cond.initialized "java/lang/Math", Cond.code Lib.Math.abs.name Lib.Math.abs.code 1 (some .int), Cond.fieldLink RX4 13 "DyehouseLedger$Shade" "red" "I", Cond.fieldLink RX4 16 "DyehouseLedger$Shade" "blue" "I"]
def wsX6_nearest : List Cond := .code yX6_nearest cX6_nearest 10 (some .int) :: ((wsX6_nearest_r1 ++ wsX6_nearest_r2) ++ wsX60 ++ wsX00 ++ wsX40 ++ (vx_at0 RX6 129 "java/lang/UnsupportedOperationException" ["java/lang/RuntimeException", "java/lang/Exception"]).filter goodWord ++ (vx_at0 RX6 58 "java/lang/IllegalStateException" ["java/lang/RuntimeException", "java/lang/Exception"]).filter goodWord ++ (vx_at0 RX6 271 "java/util/NoSuchElementException" ["java/lang/RuntimeException", "java/lang/Exception"]).filter goodWord)
def wsX6_placeByLight : List Cond := .code yX6_placeByLight cX6_placeByLight 7 (some .int) :: ([.fieldLink RX6 23 "DyehouseLedger" "allLots" "[LDyehouseLedger$Lot;", .fieldLink RX6 147 "DyehouseLedger$Lot" "state" "C", .methodLink RX6 297 yX0_comesBeforeByLight, .instanceMethod yX0_comesBeforeByLight, .selects RX0 yX0_comesBeforeByLight yX0_comesBeforeByLight, .initialized RX0, .code yX0_comesBeforeByLight cX0_comesBeforeByLight 2 (some .boolean), .fieldLink RX0 27 "DyehouseLedger$Lot" "shade" "LDyehouseLedger$Shade;", .fieldLink RX0 52 "DyehouseLedger$Shade" "light" "I", .fieldLink RX0 55 "DyehouseLedger$Shade" "red" "I", .fieldLink RX0 58 "DyehouseLedger$Shade" "blue" "I", .fieldLink RX0 9 "DyehouseLedger$Lot" "number" "I"] ++ wsX60 ++ wsX00 ++ wsX40)
def wsX6_byLight : List Cond := .code yX6_byLight cX6_byLight 6 (some .int) :: ([.classLink RX6 198 "java/lang/IndexOutOfBoundsException", .initialized "java/lang/IndexOutOfBoundsException", .fieldLink RX6 23 "DyehouseLedger" "allLots" "[LDyehouseLedger$Lot;", .fieldLink RX6 147 "DyehouseLedger$Lot" "state" "C", .fieldLink RX6 197 "DyehouseLedger$Lot" "number" "I", .methodLink RX6 232 yX6_placeByLight, .instanceMethod yX6_placeByLight, .selects RX6 yX6_placeByLight yX6_placeByLight, .initialized RX6, .code yX6_placeByLight cX6_placeByLight 7 (some .int), .methodLink RX6 297 yX0_comesBeforeByLight, .instanceMethod yX0_comesBeforeByLight, .selects RX0 yX0_comesBeforeByLight yX0_comesBeforeByLight, .initialized RX0, .code yX0_comesBeforeByLight cX0_comesBeforeByLight 2 (some .boolean), .fieldLink RX0 27 "DyehouseLedger$Lot" "shade" "LDyehouseLedger$Shade;", .fieldLink RX0 52 "DyehouseLedger$Shade" "light" "I", .fieldLink RX0 55 "DyehouseLedger$Shade" "red" "I", .fieldLink RX0 58 "DyehouseLedger$Shade" "blue" "I", .fieldLink RX0 9 "DyehouseLedger$Lot" "number" "I"] ++ wsX60 ++ wsX00 ++ wsX40 ++ (vx_at0 RX6 200 "java/lang/IndexOutOfBoundsException" ["java/lang/RuntimeException", "java/lang/Exception"]).filter goodWord)
def wsX6_clock : List Cond := .code yX6_clock cX6_clock 2 (some .int) :: ([.fieldLink RX6 137 "DyehouseLedger$Vat" "clock" "I", .methodLink RX6 119 yX6_vatNumbered, .instanceMethod yX6_vatNumbered, .selects RX6 yX6_vatNumbered yX6_vatNumbered, .initialized RX6, .code yX6_vatNumbered cX6_vatNumbered 3 (some (.object "DyehouseLedger$Vat")), .classLink RX6 269 "java/util/NoSuchElementException", .initialized "java/util/NoSuchElementException", .fieldLink RX6 29 "DyehouseLedger" "allVats" "[LDyehouseLedger$Vat;"] ++ wsX50 ++ wsX60 ++ (vx_at0 RX6 271 "java/util/NoSuchElementException" ["java/lang/RuntimeException", "java/lang/Exception"]).filter goodWord)
def wsX6_cleanings : List Cond := .code yX6_cleanings cX6_cleanings 2 (some .int) :: ([.fieldLink RX6 158 "DyehouseLedger$Vat" "cleanings" "I", .methodLink RX6 119 yX6_vatNumbered, .instanceMethod yX6_vatNumbered, .selects RX6 yX6_vatNumbered yX6_vatNumbered, .initialized RX6, .code yX6_vatNumbered cX6_vatNumbered 3 (some (.object "DyehouseLedger$Vat")), .classLink RX6 269 "java/util/NoSuchElementException", .initialized "java/util/NoSuchElementException", .fieldLink RX6 29 "DyehouseLedger" "allVats" "[LDyehouseLedger$Vat;"] ++ wsX50 ++ wsX60 ++ (vx_at0 RX6 271 "java/util/NoSuchElementException" ["java/lang/RuntimeException", "java/lang/Exception"]).filter goodWord)
def wsX6_lightIn : List Cond := .code yX6_lightIn cX6_lightIn 3 (some .int) :: ([.classLink RX6 56 "java/lang/IllegalStateException", .initialized "java/lang/IllegalStateException", .fieldLink RX6 134 "DyehouseLedger$Vat" "light" "I", .methodLink RX6 119 yX6_vatNumbered, .instanceMethod yX6_vatNumbered, .selects RX6 yX6_vatNumbered yX6_vatNumbered, .initialized RX6, .code yX6_vatNumbered cX6_vatNumbered 3 (some (.object "DyehouseLedger$Vat")), .classLink RX6 269 "java/util/NoSuchElementException", .initialized "java/util/NoSuchElementException", .fieldLink RX6 29 "DyehouseLedger" "allVats" "[LDyehouseLedger$Vat;"] ++ wsX50 ++ wsX60 ++ (vx_at0 RX6 58 "java/lang/IllegalStateException" ["java/lang/RuntimeException", "java/lang/Exception"]).filter goodWord ++ (vx_at0 RX6 271 "java/util/NoSuchElementException" ["java/lang/RuntimeException", "java/lang/Exception"]).filter goodWord)
def wsX6_customerOf : List Cond := .code yX6_customerOf cX6_customerOf 3 (some .int) :: ([.classLink RX6 56 "java/lang/IllegalStateException", .initialized "java/lang/IllegalStateException", .fieldLink RX6 167 "DyehouseLedger$Vat" "onlyCustomer" "I", .methodLink RX6 119 yX6_vatNumbered, .instanceMethod yX6_vatNumbered, .selects RX6 yX6_vatNumbered yX6_vatNumbered, .initialized RX6, .code yX6_vatNumbered cX6_vatNumbered 3 (some (.object "DyehouseLedger$Vat")), .classLink RX6 269 "java/util/NoSuchElementException", .initialized "java/util/NoSuchElementException", .fieldLink RX6 29 "DyehouseLedger" "allVats" "[LDyehouseLedger$Vat;"] ++ wsX50 ++ wsX60 ++ (vx_at0 RX6 58 "java/lang/IllegalStateException" ["java/lang/RuntimeException", "java/lang/Exception"]).filter goodWord ++ (vx_at0 RX6 271 "java/util/NoSuchElementException" ["java/lang/RuntimeException", "java/lang/Exception"]).filter goodWord)
def wsX6_lotsOf : List Cond := .code yX6_lotsOf cX6_lotsOf 8 (some .int) :: ([.fieldLink RX6 23 "DyehouseLedger" "allLots" "[LDyehouseLedger$Lot;", .fieldLink RX6 236 "DyehouseLedger$Lot" "order" "LDyehouseLedger$Order;", .methodLink RX6 91 yX6_orderNumbered, .instanceMethod yX6_orderNumbered, .selects RX6 yX6_orderNumbered yX6_orderNumbered, .initialized RX6, .code yX6_orderNumbered cX6_orderNumbered 3 (some (.object "DyehouseLedger$Order")), .classLink RX6 269 "java/util/NoSuchElementException", .initialized "java/util/NoSuchElementException", .fieldLink RX6 17 "DyehouseLedger" "allOrders" "[LDyehouseLedger$Order;"] ++ wsX60 ++ wsX00 ++ (vx_at0 RX6 271 "java/util/NoSuchElementException" ["java/lang/RuntimeException", "java/lang/Exception"]).filter goodWord)
def wsX6_passedOf : List Cond := .code yX6_passedOf cX6_passedOf 8 (some .int) :: ([.fieldLink RX6 23 "DyehouseLedger" "allLots" "[LDyehouseLedger$Lot;", .methodLink RX6 91 yX6_orderNumbered, .instanceMethod yX6_orderNumbered, .selects RX6 yX6_orderNumbered yX6_orderNumbered, .initialized RX6, .code yX6_orderNumbered cX6_orderNumbered 3 (some (.object "DyehouseLedger$Order")), .classLink RX6 269 "java/util/NoSuchElementException", .initialized "java/util/NoSuchElementException", .fieldLink RX6 17 "DyehouseLedger" "allOrders" "[LDyehouseLedger$Order;", .methodLink RX6 240 yX0_isPassedOf, .instanceMethod yX0_isPassedOf, .selects RX0 yX0_isPassedOf yX0_isPassedOf, .initialized RX0, .code yX0_isPassedOf cX0_isPassedOf 2 (some .boolean), .fieldLink RX0 15 "DyehouseLedger$Lot" "order" "LDyehouseLedger$Order;", .fieldLink RX0 31 "DyehouseLedger$Lot" "state" "C"] ++ wsX60 ++ wsX00 ++ (vx_at0 RX6 271 "java/util/NoSuchElementException" ["java/lang/RuntimeException", "java/lang/Exception"]).filter goodWord)
def wsX6_spread_r1 : List Cond := [Cond.fieldLink RX6 23 "DyehouseLedger" "allLots" "[LDyehouseLedger$Lot;", Cond.methodLink RX6 247 Lib.Math.max.name, Cond.static Lib.Math.max.name, Cond.initialized "java/lang/Math", Cond.code Lib.Math.max.name Lib.Math.max.code 2 (some .int), Cond.methodLink RX6 91 yX6_orderNumbered, Cond.instanceMethod yX6_orderNumbered, Cond.selects RX6 yX6_orderNumbered yX6_orderNumbered, Cond.initialized RX6, Cond.code yX6_orderNumbered cX6_orderNumbered 3 (some (.object "DyehouseLedger$Order")), Cond.classLink RX6 269 "java/util/NoSuchElementException", Cond.initialized "java/util/NoSuchElementException", Cond.fieldLink RX6 17 "DyehouseLedger" "allOrders" "[LDyehouseLedger$Order;", Cond.methodLink RX6 240 yX0_isPassedOf, Cond.instanceMethod yX0_isPassedOf, Cond.selects RX0 yX0_isPassedOf yX0_isPassedOf, Cond.initialized RX0, Cond.code yX0_isPassedOf cX0_isPassedOf 2 (some .boolean), Cond.fieldLink RX0 15 "DyehouseLedger$Lot" "order" "LDyehouseLedger$Order;", Cond.fieldLink RX0 31 "DyehouseLedger$Lot" "state" "C", Cond.methodLink RX6 244 yX6_greatestDistanceFromPassed, Cond.instanceMethod yX6_greatestDistanceFromPassed, Cond.selects RX6 yX6_greatestDistanceFromPassed yX6_greatestDistanceFromPassed, Cond.code yX6_greatestDistanceFromPassed cX6_greatestDistanceFromPassed 7 (some .int)]
def wsX6_spread_r2 : List Cond := [Cond.fieldLink RX6 236 "DyehouseLedger$Lot" "order" "LDyehouseLedger$Order;", Cond.fieldLink RX6 140 "DyehouseLedger$Lot" "shade" "LDyehouseLedger$Shade;", Cond.methodLink RX6 228 yX4_distanceTo, Cond.instanceMethod yX4_distanceTo, Cond.selects RX4 yX4_distanceTo yX4_distanceTo, Cond.initialized RX4, Cond.code yX4_distanceTo cX4_distanceTo 2 (some .int), Cond.fieldLink RX4 7 "DyehouseLedger$Shade" "light" "I", Cond.methodLink RX4 19 Lib.Math.abs.name, Cond.static Lib.Math.abs.name, Cond.code Lib.Math.abs.name Lib.Math.abs.code 1 (some .int), Cond.fieldLink RX4 13 "DyehouseLedger$Shade" "red" "I", Cond.fieldLink RX4 16 "DyehouseLedger$Shade" "blue" "I"]
def wsX6_spread : List Cond := .code yX6_spread cX6_spread 8 (some .int) :: ((wsX6_spread_r1 ++ wsX6_spread_r2) ++ wsX60 ++ wsX00 ++ wsX40 ++ (vx_at0 RX6 271 "java/util/NoSuchElementException" ["java/lang/RuntimeException", "java/lang/Exception"]).filter goodWord)
def wsX6_daysLate : List Cond := .code yX6_daysLate cX6_daysLate 7 (some .int) :: ([.fieldLink RX6 23 "DyehouseLedger" "allLots" "[LDyehouseLedger$Lot;", .fieldLink RX6 236 "DyehouseLedger$Lot" "order" "LDyehouseLedger$Order;", .fieldLink RX6 147 "DyehouseLedger$Lot" "state" "C", .fieldLink RX6 155 "DyehouseLedger$Lot" "clockThen" "I", .methodLink RX6 247 Lib.Math.max.name, .static Lib.Math.max.name, .initialized "java/lang/Math", .code Lib.Math.max.name Lib.Math.max.code 2 (some .int), .fieldLink RX6 300 "DyehouseLedger$Order" "day" "I"] ++ wsX60 ++ wsX00 ++ wsX10)
def wsX6_lateBy : List Cond := .code yX6_lateBy cX6_lateBy 2 (some .int) :: ([.methodLink RX6 91 yX6_orderNumbered, .instanceMethod yX6_orderNumbered, .selects RX6 yX6_orderNumbered yX6_orderNumbered, .initialized RX6, .code yX6_orderNumbered cX6_orderNumbered 3 (some (.object "DyehouseLedger$Order")), .classLink RX6 269 "java/util/NoSuchElementException", .initialized "java/util/NoSuchElementException", .fieldLink RX6 17 "DyehouseLedger" "allOrders" "[LDyehouseLedger$Order;", .methodLink RX6 253 yX6_daysLate, .instanceMethod yX6_daysLate, .selects RX6 yX6_daysLate yX6_daysLate, .code yX6_daysLate cX6_daysLate 7 (some .int), .fieldLink RX6 23 "DyehouseLedger" "allLots" "[LDyehouseLedger$Lot;", .fieldLink RX6 236 "DyehouseLedger$Lot" "order" "LDyehouseLedger$Order;", .fieldLink RX6 147 "DyehouseLedger$Lot" "state" "C", .fieldLink RX6 155 "DyehouseLedger$Lot" "clockThen" "I", .methodLink RX6 247 Lib.Math.max.name, .static Lib.Math.max.name, .initialized "java/lang/Math", .code Lib.Math.max.name Lib.Math.max.code 2 (some .int), .fieldLink RX6 300 "DyehouseLedger$Order" "day" "I"] ++ wsX60 ++ wsX00 ++ wsX10 ++ (vx_at0 RX6 271 "java/util/NoSuchElementException" ["java/lang/RuntimeException", "java/lang/Exception"]).filter goodWord)
def wsX6_amountDue : List Cond := .code yX6_amountDue cX6_amountDue 7 (some .int) :: ([.fieldLink RX6 23 "DyehouseLedger" "allLots" "[LDyehouseLedger$Lot;", .fieldLink RX6 188 "DyehouseLedger$Lot" "weight" "I", .fieldLink RX6 303 "DyehouseLedger$Order" "price" "I", .methodLink RX6 247 Lib.Math.max.name, .static Lib.Math.max.name, .initialized "java/lang/Math", .code Lib.Math.max.name Lib.Math.max.code 2 (some .int), .methodLink RX6 240 yX0_isPassedOf, .instanceMethod yX0_isPassedOf, .selects RX0 yX0_isPassedOf yX0_isPassedOf, .initialized RX0, .code yX0_isPassedOf cX0_isPassedOf 2 (some .boolean), .fieldLink RX0 15 "DyehouseLedger$Lot" "order" "LDyehouseLedger$Order;", .fieldLink RX0 31 "DyehouseLedger$Lot" "state" "C", .methodLink RX6 253 yX6_daysLate, .instanceMethod yX6_daysLate, .selects RX6 yX6_daysLate yX6_daysLate, .initialized RX6, .code yX6_daysLate cX6_daysLate 7 (some .int), .fieldLink RX6 236 "DyehouseLedger$Lot" "order" "LDyehouseLedger$Order;", .fieldLink RX6 147 "DyehouseLedger$Lot" "state" "C", .fieldLink RX6 155 "DyehouseLedger$Lot" "clockThen" "I", .fieldLink RX6 300 "DyehouseLedger$Order" "day" "I"] ++ wsX60 ++ wsX00 ++ wsX10)
def wsX6_due_r1 : List Cond := [Cond.methodLink RX6 91 yX6_orderNumbered, Cond.instanceMethod yX6_orderNumbered, Cond.selects RX6 yX6_orderNumbered yX6_orderNumbered, Cond.initialized RX6, Cond.code yX6_orderNumbered cX6_orderNumbered 3 (some (.object "DyehouseLedger$Order")), Cond.classLink RX6 269 "java/util/NoSuchElementException", Cond.initialized "java/util/NoSuchElementException", Cond.fieldLink RX6 17 "DyehouseLedger" "allOrders" "[LDyehouseLedger$Order;", Cond.methodLink RX6 257 yX6_amountDue, Cond.instanceMethod yX6_amountDue, Cond.selects RX6 yX6_amountDue yX6_amountDue, Cond.code yX6_amountDue cX6_amountDue 7 (some .int), Cond.fieldLink RX6 23 "DyehouseLedger" "allLots" "[LDyehouseLedger$Lot;", Cond.fieldLink RX6 188 "DyehouseLedger$Lot" "weight" "I", Cond.fieldLink RX6 303 "DyehouseLedger$Order" "price" "I", Cond.methodLink RX6 247 Lib.Math.max.name, Cond.static Lib.Math.max.name, Cond.initialized "java/lang/Math", Cond.code Lib.Math.max.name Lib.Math.max.code 2 (some .int), Cond.methodLink RX6 240 yX0_isPassedOf, Cond.instanceMethod yX0_isPassedOf, Cond.selects RX0 yX0_isPassedOf yX0_isPassedOf, Cond.initialized RX0, Cond.code yX0_isPassedOf cX0_isPassedOf 2 (some .boolean)]
def wsX6_due_r2 : List Cond := [Cond.fieldLink RX0 15 "DyehouseLedger$Lot" "order" "LDyehouseLedger$Order;", Cond.fieldLink RX0 31 "DyehouseLedger$Lot" "state" "C", Cond.methodLink RX6 253 yX6_daysLate, Cond.instanceMethod yX6_daysLate, Cond.selects RX6 yX6_daysLate yX6_daysLate, Cond.code yX6_daysLate cX6_daysLate 7 (some .int), Cond.fieldLink RX6 236 "DyehouseLedger$Lot" "order" "LDyehouseLedger$Order;", Cond.fieldLink RX6 147 "DyehouseLedger$Lot" "state" "C", Cond.fieldLink RX6 155 "DyehouseLedger$Lot" "clockThen" "I", Cond.fieldLink RX6 300 "DyehouseLedger$Order" "day" "I"]
def wsX6_due : List Cond := .code yX6_due cX6_due 2 (some .int) :: ((wsX6_due_r1 ++ wsX6_due_r2) ++ wsX60 ++ wsX00 ++ wsX10 ++ (vx_at0 RX6 271 "java/util/NoSuchElementException" ["java/lang/RuntimeException", "java/lang/Exception"]).filter goodWord)
def wsX6_dues_r1 : List Cond := [Cond.fieldLink RX6 17 "DyehouseLedger" "allOrders" "[LDyehouseLedger$Order;", Cond.fieldLink RX6 260 "DyehouseLedger$Order" "customer" "I", Cond.methodLink RX6 82 yX6_checkCustomer, Cond.static yX6_checkCustomer, Cond.initialized RX6, Cond.code yX6_checkCustomer cX6_checkCustomer 1 none, Cond.methodLink RX6 74 yX6_checkRange, Cond.static yX6_checkRange, Cond.code yX6_checkRange cX6_checkRange 3 none, Cond.classLink RX6 266 "java/lang/IllegalArgumentException", Cond.initialized "java/lang/IllegalArgumentException", Cond.methodLink RX6 257 yX6_amountDue, Cond.instanceMethod yX6_amountDue, Cond.selects RX6 yX6_amountDue yX6_amountDue, Cond.code yX6_amountDue cX6_amountDue 7 (some .int), Cond.fieldLink RX6 23 "DyehouseLedger" "allLots" "[LDyehouseLedger$Lot;", Cond.fieldLink RX6 188 "DyehouseLedger$Lot" "weight" "I", Cond.fieldLink RX6 303 "DyehouseLedger$Order" "price" "I", Cond.methodLink RX6 247 Lib.Math.max.name, Cond.static Lib.Math.max.name, Cond.initialized "java/lang/Math", Cond.code Lib.Math.max.name Lib.Math.max.code 2 (some .int), Cond.methodLink RX6 240 yX0_isPassedOf, Cond.instanceMethod yX0_isPassedOf]
def wsX6_dues_r2 : List Cond := [Cond.selects RX0 yX0_isPassedOf yX0_isPassedOf, Cond.initialized RX0, Cond.code yX0_isPassedOf cX0_isPassedOf 2 (some .boolean), Cond.fieldLink RX0 15 "DyehouseLedger$Lot" "order" "LDyehouseLedger$Order;", Cond.fieldLink RX0 31 "DyehouseLedger$Lot" "state" "C", Cond.methodLink RX6 253 yX6_daysLate, Cond.instanceMethod yX6_daysLate, Cond.selects RX6 yX6_daysLate yX6_daysLate, Cond.code yX6_daysLate cX6_daysLate 7 (some .int), Cond.fieldLink RX6 236 "DyehouseLedger$Lot" "order" "LDyehouseLedger$Order;", Cond.fieldLink RX6 147 "DyehouseLedger$Lot" "state" "C", Cond.fieldLink RX6 155 "DyehouseLedger$Lot" "clockThen" "I", Cond.fieldLink RX6 300 "DyehouseLedger$Order" "day" "I"]
def wsX6_dues : List Cond := .code yX6_dues cX6_dues 8 (some .long) :: ((wsX6_dues_r1 ++ wsX6_dues_r2) ++ wsX60 ++ wsX10 ++ wsX00 ++ (vx_at0 RX6 268 "java/lang/IllegalArgumentException" ["java/lang/RuntimeException", "java/lang/Exception"]).filter goodWord)
def wsX6_used : List Cond := .code yX6_used cX6_used 2 (some .long) :: ([.fieldLink RX6 37 "DyehouseLedger" "gramsUsed" "[J", .methodLink RX6 70 yX6_checkDye, .static yX6_checkDye, .initialized RX6, .code yX6_checkDye cX6_checkDye 1 none, .methodLink RX6 74 yX6_checkRange, .static yX6_checkRange, .code yX6_checkRange cX6_checkRange 3 none, .classLink RX6 266 "java/lang/IllegalArgumentException", .initialized "java/lang/IllegalArgumentException"] ++ wsX60 ++ (vx_atM "java/lang/ArrayIndexOutOfBoundsException" ["java/lang/IndexOutOfBoundsException", "java/lang/RuntimeException", "java/lang/Exception"]).filter goodWord ++ (vx_at0 RX6 268 "java/lang/IllegalArgumentException" ["java/lang/RuntimeException", "java/lang/Exception"]).filter goodWord)
def wsX6_passedShare : List Cond := .code yX6_passedShare cX6_passedShare 3 (some .float) :: ([.classLink RX6 263 "java/lang/ArithmeticException", .initialized "java/lang/ArithmeticException", .methodLink RX6 180 yX6_lotsInState, .instanceMethod yX6_lotsInState, .selects RX6 yX6_lotsInState yX6_lotsInState, .initialized RX6, .code yX6_lotsInState cX6_lotsInState 7 (some .int), .fieldLink RX6 23 "DyehouseLedger" "allLots" "[LDyehouseLedger$Lot;", .fieldLink RX6 147 "DyehouseLedger$Lot" "state" "C"] ++ wsX60 ++ wsX00 ++ (vx_at0 RX6 265 "java/lang/ArithmeticException" ["java/lang/RuntimeException", "java/lang/Exception"]).filter goodWord)
def wsX6_meanOff_r1 : List Cond := [Cond.classLink RX6 263 "java/lang/ArithmeticException", Cond.initialized "java/lang/ArithmeticException", Cond.fieldLink RX6 23 "DyehouseLedger" "allLots" "[LDyehouseLedger$Lot;", Cond.fieldLink RX6 147 "DyehouseLedger$Lot" "state" "C", Cond.methodLink RX6 225 yX0_distanceFromRecipe, Cond.instanceMethod yX0_distanceFromRecipe, Cond.selects RX0 yX0_distanceFromRecipe yX0_distanceFromRecipe, Cond.initialized RX0, Cond.code yX0_distanceFromRecipe cX0_distanceFromRecipe 1 (some .int), Cond.fieldLink RX0 27 "DyehouseLedger$Lot" "shade" "LDyehouseLedger$Shade;", Cond.fieldLink RX0 15 "DyehouseLedger$Lot" "order" "LDyehouseLedger$Order;", Cond.fieldLink RX0 35 "DyehouseLedger$Order" "recipe" "LDyehouseLedger$Recipe;", Cond.fieldLink RX0 47 "DyehouseLedger$Recipe" "shade" "LDyehouseLedger$Shade;", Cond.methodLink RX0 48 yX4_distanceTo, Cond.instanceMethod yX4_distanceTo, Cond.selects RX4 yX4_distanceTo yX4_distanceTo, Cond.initialized RX4, Cond.code yX4_distanceTo cX4_distanceTo 2 (some .int), Cond.fieldLink RX4 7 "DyehouseLedger$Shade" "light" "I", Cond.methodLink RX4 19 Lib.Math.abs.name, Cond.static Lib.Math.abs.name, Cond.initialized "java/lang/Math", Cond.code Lib.Math.abs.name Lib.Math.abs.code 1 (some .int), Cond.fieldLink RX4 13 "DyehouseLedger$Shade" "red" "I"]
def wsX6_meanOff_r2 : List Cond := [Cond.fieldLink RX4 16 "DyehouseLedger$Shade" "blue" "I"]
def wsX6_meanOff : List Cond := .code yX6_meanOff cX6_meanOff 7 (some .double) :: ((wsX6_meanOff_r1 ++ wsX6_meanOff_r2) ++ wsX60 ++ wsX00 ++ wsX10 ++ wsX30 ++ wsX40 ++ (vx_at0 RX6 265 "java/lang/ArithmeticException" ["java/lang/RuntimeException", "java/lang/Exception"]).filter goodWord)
def wsX7_init_r1 : List Cond := [Cond.methodLink RX7 1 objectInit, Cond.instanceMethod objectInit, Cond.code objectInit ⟨#[0xb1]⟩ 1 none, Cond.arrayClass .int, Cond.fieldLink RX7 7 "DyehouseLedgerModel" "shade" "[I", Cond.fieldLink RX7 13 "DyehouseLedgerModel" "grams" "[I", Cond.fieldLink RX7 16 "DyehouseLedgerModel" "stock" "[I", Cond.arrayClass .long, Cond.fieldLink RX7 19 "DyehouseLedgerModel" "used" "[J", Cond.fieldLink RX7 23 "DyehouseLedgerModel" "customer" "[I", Cond.fieldLink RX7 26 "DyehouseLedgerModel" "recipe" "[I", Cond.fieldLink RX7 29 "DyehouseLedgerModel" "bound" "[I", Cond.fieldLink RX7 32 "DyehouseLedgerModel" "day" "[I", Cond.fieldLink RX7 35 "DyehouseLedgerModel" "price" "[I", Cond.fieldLink RX7 38 "DyehouseLedgerModel" "order" "[I", Cond.fieldLink RX7 41 "DyehouseLedgerModel" "weight" "[I", Cond.fieldLink RX7 44 "DyehouseLedgerModel" "out" "[I", Cond.fieldLink RX7 47 "DyehouseLedgerModel" "vat" "[I", Cond.fieldLink RX7 50 "DyehouseLedgerModel" "at" "[I", Cond.fieldLink RX7 53 "DyehouseLedgerModel" "cleaned" "[I", Cond.fieldLink RX7 56 "DyehouseLedgerModel" "plan" "[I", Cond.arrayClass .char, Cond.fieldLink RX7 59 "DyehouseLedgerModel" "state" "[C", Cond.fieldLink RX7 63 "DyehouseLedgerModel" "room" "[I"]
def wsX7_init_r2 : List Cond := [Cond.fieldLink RX7 66 "DyehouseLedgerModel" "light" "[I", Cond.fieldLink RX7 69 "DyehouseLedgerModel" "barred" "[I", Cond.fieldLink RX7 72 "DyehouseLedgerModel" "clock" "[I", Cond.fieldLink RX7 75 "DyehouseLedgerModel" "cleanings" "[I", Cond.fieldLink RX7 78 "DyehouseLedgerModel" "row" "[I", Cond.fieldLink RX7 81 "DyehouseLedgerModel" "taken" "[I"]
def wsX7_init : List Cond := .code yX7_init cX7_init 1 none :: ((wsX7_init_r1 ++ wsX7_init_r2) ++ wsX70)
def wsX7_thrown : List Cond := .code yX7_thrown cX7_thrown 1 (some .int) :: ([.fieldLink RX7 84 "DyehouseLedgerModel" "thrown" "I"] ++ wsX70)
def wsX7_refuse : List Cond := .code yX7_refuse cX7_refuse 2 (some .int) :: ([.fieldLink RX7 84 "DyehouseLedgerModel" "thrown" "I"] ++ wsX70)
def wsX7_isIn : List Cond := .code yX7_isIn cX7_isIn 3 (some .boolean) :: ([])
def wsX7_isShade : List Cond := .code yX7_isShade cX7_isShade 3 (some .boolean) :: ([.methodLink RX7 88 yX7_isIn, .static yX7_isIn, .initialized RX7, .code yX7_isIn cX7_isIn 3 (some .boolean)])
def wsX7_noLot : List Cond := .code yX7_noLot cX7_noLot 2 (some .boolean) :: ([.fieldLink RX7 92 "DyehouseLedgerModel" "lots" "I", .fieldLink RX7 84 "DyehouseLedgerModel" "thrown" "I", .methodLink RX7 88 yX7_isIn, .static yX7_isIn, .initialized RX7, .code yX7_isIn cX7_isIn 3 (some .boolean)] ++ wsX70)
def wsX7_noVat : List Cond := .code yX7_noVat cX7_noVat 2 (some .boolean) :: ([.fieldLink RX7 95 "DyehouseLedgerModel" "vats" "I", .fieldLink RX7 84 "DyehouseLedgerModel" "thrown" "I", .methodLink RX7 88 yX7_isIn, .static yX7_isIn, .initialized RX7, .code yX7_isIn cX7_isIn 3 (some .boolean)] ++ wsX70)
def wsX7_noOrder : List Cond := .code yX7_noOrder cX7_noOrder 2 (some .boolean) :: ([.fieldLink RX7 98 "DyehouseLedgerModel" "orders" "I", .fieldLink RX7 84 "DyehouseLedgerModel" "thrown" "I", .methodLink RX7 88 yX7_isIn, .static yX7_isIn, .initialized RX7, .code yX7_isIn cX7_isIn 3 (some .boolean)] ++ wsX70)
def wsX7_noDye : List Cond := .code yX7_noDye cX7_noDye 2 (some .boolean) :: ([.fieldLink RX7 84 "DyehouseLedgerModel" "thrown" "I", .methodLink RX7 88 yX7_isIn, .static yX7_isIn, .initialized RX7, .code yX7_isIn cX7_isIn 3 (some .boolean)] ++ wsX70)
def wsX7_addRecipe : List Cond := .code yX7_addRecipe cX7_addRecipe 4 (some .int) :: ([.fieldLink RX7 108 "DyehouseLedgerModel" "recipes" "I", .fieldLink RX7 84 "DyehouseLedgerModel" "thrown" "I", .fieldLink RX7 7 "DyehouseLedgerModel" "shade" "[I", .methodLink RX7 101 yX7_isShade, .static yX7_isShade, .initialized RX7, .code yX7_isShade cX7_isShade 3 (some .boolean), .methodLink RX7 88 yX7_isIn, .static yX7_isIn, .code yX7_isIn cX7_isIn 3 (some .boolean), .methodLink RX7 104 yX7_refuse, .instanceMethod yX7_refuse, .selects RX7 yX7_refuse yX7_refuse, .code yX7_refuse cX7_refuse 2 (some .int)] ++ wsX70 ++ (vx_atM "java/lang/ArrayIndexOutOfBoundsException" ["java/lang/IndexOutOfBoundsException", "java/lang/RuntimeException", "java/lang/Exception"]).filter goodWord)
def wsX7_setDye : List Cond := .code yX7_setDye cX7_setDye 5 (some .int) :: ([.fieldLink RX7 108 "DyehouseLedgerModel" "recipes" "I", .fieldLink RX7 84 "DyehouseLedgerModel" "thrown" "I", .fieldLink RX7 13 "DyehouseLedgerModel" "grams" "[I", .methodLink RX7 88 yX7_isIn, .static yX7_isIn, .initialized RX7, .code yX7_isIn cX7_isIn 3 (some .boolean), .methodLink RX7 104 yX7_refuse, .instanceMethod yX7_refuse, .selects RX7 yX7_refuse yX7_refuse, .code yX7_refuse cX7_refuse 2 (some .int)] ++ wsX70 ++ (vx_atM "java/lang/ArrayIndexOutOfBoundsException" ["java/lang/IndexOutOfBoundsException", "java/lang/RuntimeException", "java/lang/Exception"]).filter goodWord)
def wsX7_supply : List Cond := .code yX7_supply cX7_supply 3 (some .int) :: ([.constant RX7 111 (99999), .fieldLink RX7 16 "DyehouseLedgerModel" "stock" "[I", .constant RX7 112 (9999999), .fieldLink RX7 84 "DyehouseLedgerModel" "thrown" "I", .methodLink RX7 88 yX7_isIn, .static yX7_isIn, .initialized RX7, .code yX7_isIn cX7_isIn 3 (some .boolean), .methodLink RX7 104 yX7_refuse, .instanceMethod yX7_refuse, .selects RX7 yX7_refuse yX7_refuse, .code yX7_refuse cX7_refuse 2 (some .int)] ++ wsX70 ++ (vx_atM "java/lang/ArrayIndexOutOfBoundsException" ["java/lang/IndexOutOfBoundsException", "java/lang/RuntimeException", "java/lang/Exception"]).filter goodWord)
def wsX7_stock : List Cond := .code yX7_stock cX7_stock 2 (some .int) :: ([.fieldLink RX7 16 "DyehouseLedgerModel" "stock" "[I", .methodLink RX7 113 yX7_noDye, .instanceMethod yX7_noDye, .selects RX7 yX7_noDye yX7_noDye, .initialized RX7, .code yX7_noDye cX7_noDye 2 (some .boolean), .fieldLink RX7 84 "DyehouseLedgerModel" "thrown" "I", .methodLink RX7 88 yX7_isIn, .static yX7_isIn, .code yX7_isIn cX7_isIn 3 (some .boolean)] ++ wsX70 ++ (vx_atM "java/lang/ArrayIndexOutOfBoundsException" ["java/lang/IndexOutOfBoundsException", "java/lang/RuntimeException", "java/lang/Exception"]).filter goodWord)
def wsX7_addOrder : List Cond := .code yX7_addOrder cX7_addOrder 6 (some .int) :: ([.fieldLink RX7 108 "DyehouseLedgerModel" "recipes" "I", .fieldLink RX7 98 "DyehouseLedgerModel" "orders" "I", .fieldLink RX7 84 "DyehouseLedgerModel" "thrown" "I", .fieldLink RX7 23 "DyehouseLedgerModel" "customer" "[I", .fieldLink RX7 26 "DyehouseLedgerModel" "recipe" "[I", .fieldLink RX7 29 "DyehouseLedgerModel" "bound" "[I", .fieldLink RX7 32 "DyehouseLedgerModel" "day" "[I", .fieldLink RX7 35 "DyehouseLedgerModel" "price" "[I", .methodLink RX7 88 yX7_isIn, .static yX7_isIn, .initialized RX7, .code yX7_isIn cX7_isIn 3 (some .boolean), .methodLink RX7 104 yX7_refuse, .instanceMethod yX7_refuse, .selects RX7 yX7_refuse yX7_refuse, .code yX7_refuse cX7_refuse 2 (some .int)] ++ wsX70 ++ (vx_atM "java/lang/ArrayIndexOutOfBoundsException" ["java/lang/IndexOutOfBoundsException", "java/lang/RuntimeException", "java/lang/Exception"]).filter goodWord)
def wsX7_addLot : List Cond := .code yX7_addLot cX7_addLot 3 (some .int) :: ([.fieldLink RX7 92 "DyehouseLedgerModel" "lots" "I", .fieldLink RX7 38 "DyehouseLedgerModel" "order" "[I", .fieldLink RX7 41 "DyehouseLedgerModel" "weight" "[I", .fieldLink RX7 59 "DyehouseLedgerModel" "state" "[C", .fieldLink RX7 56 "DyehouseLedgerModel" "plan" "[I", .methodLink RX7 117 yX7_noOrder, .instanceMethod yX7_noOrder, .selects RX7 yX7_noOrder yX7_noOrder, .initialized RX7, .code yX7_noOrder cX7_noOrder 2 (some .boolean), .fieldLink RX7 98 "DyehouseLedgerModel" "orders" "I", .fieldLink RX7 84 "DyehouseLedgerModel" "thrown" "I", .methodLink RX7 88 yX7_isIn, .static yX7_isIn, .code yX7_isIn cX7_isIn 3 (some .boolean), .methodLink RX7 104 yX7_refuse, .instanceMethod yX7_refuse, .selects RX7 yX7_refuse yX7_refuse, .code yX7_refuse cX7_refuse 2 (some .int)] ++ wsX70 ++ (vx_atM "java/lang/ArrayIndexOutOfBoundsException" ["java/lang/IndexOutOfBoundsException", "java/lang/RuntimeException", "java/lang/Exception"]).filter goodWord)
def wsX7_addVat : List Cond := .code yX7_addVat cX7_addVat 2 (some .int) :: ([.fieldLink RX7 95 "DyehouseLedgerModel" "vats" "I", .fieldLink RX7 84 "DyehouseLedgerModel" "thrown" "I", .fieldLink RX7 63 "DyehouseLedgerModel" "room" "[I", .fieldLink RX7 66 "DyehouseLedgerModel" "light" "[I", .fieldLink RX7 69 "DyehouseLedgerModel" "barred" "[I", .methodLink RX7 88 yX7_isIn, .static yX7_isIn, .initialized RX7, .code yX7_isIn cX7_isIn 3 (some .boolean), .methodLink RX7 104 yX7_refuse, .instanceMethod yX7_refuse, .selects RX7 yX7_refuse yX7_refuse, .code yX7_refuse cX7_refuse 2 (some .int)] ++ wsX70 ++ (vx_atM "java/lang/ArrayIndexOutOfBoundsException" ["java/lang/IndexOutOfBoundsException", "java/lang/RuntimeException", "java/lang/Exception"]).filter goodWord)
def wsX7_needed : List Cond := .code yX7_needed cX7_needed 3 (some .int) :: ([.fieldLink RX7 13 "DyehouseLedgerModel" "grams" "[I", .fieldLink RX7 26 "DyehouseLedgerModel" "recipe" "[I", .fieldLink RX7 38 "DyehouseLedgerModel" "order" "[I", .fieldLink RX7 41 "DyehouseLedgerModel" "weight" "[I"] ++ wsX70 ++ (vx_atM "java/lang/ArrayIndexOutOfBoundsException" ["java/lang/IndexOutOfBoundsException", "java/lang/RuntimeException", "java/lang/Exception"]).filter goodWord)
def wsX7_needs : List Cond := .code yX7_needs cX7_needs 3 (some .int) :: ([.methodLink RX7 120 yX7_noLot, .instanceMethod yX7_noLot, .selects RX7 yX7_noLot yX7_noLot, .initialized RX7, .code yX7_noLot cX7_noLot 2 (some .boolean), .fieldLink RX7 92 "DyehouseLedgerModel" "lots" "I", .fieldLink RX7 84 "DyehouseLedgerModel" "thrown" "I", .methodLink RX7 88 yX7_isIn, .static yX7_isIn, .code yX7_isIn cX7_isIn 3 (some .boolean), .methodLink RX7 104 yX7_refuse, .instanceMethod yX7_refuse, .selects RX7 yX7_refuse yX7_refuse, .code yX7_refuse cX7_refuse 2 (some .int), .methodLink RX7 123 yX7_needed, .instanceMethod yX7_needed, .selects RX7 yX7_needed yX7_needed, .code yX7_needed cX7_needed 3 (some .int), .fieldLink RX7 13 "DyehouseLedgerModel" "grams" "[I", .fieldLink RX7 26 "DyehouseLedgerModel" "recipe" "[I", .fieldLink RX7 38 "DyehouseLedgerModel" "order" "[I", .fieldLink RX7 41 "DyehouseLedgerModel" "weight" "[I"] ++ wsX70 ++ (vx_atM "java/lang/ArrayIndexOutOfBoundsException" ["java/lang/IndexOutOfBoundsException", "java/lang/RuntimeException", "java/lang/Exception"]).filter goodWord)
def wsX7_hours : List Cond := .code yX7_hours cX7_hours 2 (some .int) :: ([.fieldLink RX7 41 "DyehouseLedgerModel" "weight" "[I"] ++ wsX70 ++ (vx_atM "java/lang/ArrayIndexOutOfBoundsException" ["java/lang/IndexOutOfBoundsException", "java/lang/RuntimeException", "java/lang/Exception"]).filter goodWord)
def wsX7_hoursFor : List Cond := .code yX7_hoursFor cX7_hoursFor 2 (some .int) :: ([.methodLink RX7 120 yX7_noLot, .instanceMethod yX7_noLot, .selects RX7 yX7_noLot yX7_noLot, .initialized RX7, .code yX7_noLot cX7_noLot 2 (some .boolean), .fieldLink RX7 92 "DyehouseLedgerModel" "lots" "I", .fieldLink RX7 84 "DyehouseLedgerModel" "thrown" "I", .methodLink RX7 88 yX7_isIn, .static yX7_isIn, .code yX7_isIn cX7_isIn 3 (some .boolean), .methodLink RX7 127 yX7_hours, .instanceMethod yX7_hours, .selects RX7 yX7_hours yX7_hours, .code yX7_hours cX7_hours 2 (some .int), .fieldLink RX7 41 "DyehouseLedgerModel" "weight" "[I"] ++ wsX70 ++ (vx_atM "java/lang/ArrayIndexOutOfBoundsException" ["java/lang/IndexOutOfBoundsException", "java/lang/RuntimeException", "java/lang/Exception"]).filter goodWord)
def wsX7_lightOf : List Cond := .code yX7_lightOf cX7_lightOf 2 (some .int) :: ([.fieldLink RX7 7 "DyehouseLedgerModel" "shade" "[I", .fieldLink RX7 26 "DyehouseLedgerModel" "recipe" "[I", .fieldLink RX7 38 "DyehouseLedgerModel" "order" "[I"] ++ wsX70 ++ (vx_atM "java/lang/ArrayIndexOutOfBoundsException" ["java/lang/IndexOutOfBoundsException", "java/lang/RuntimeException", "java/lang/Exception"]).filter goodWord)
def wsX7_why : List Cond := .code yX7_why cX7_why 4 (some .char) :: ([.fieldLink RX7 59 "DyehouseLedgerModel" "state" "[C", .fieldLink RX7 41 "DyehouseLedgerModel" "weight" "[I", .fieldLink RX7 63 "DyehouseLedgerModel" "room" "[I", .fieldLink RX7 66 "DyehouseLedgerModel" "light" "[I", .fieldLink RX7 69 "DyehouseLedgerModel" "barred" "[I", .fieldLink RX7 23 "DyehouseLedgerModel" "customer" "[I", .fieldLink RX7 38 "DyehouseLedgerModel" "order" "[I", .fieldLink RX7 16 "DyehouseLedgerModel" "stock" "[I", .methodLink RX7 130 yX7_lightOf, .instanceMethod yX7_lightOf, .selects RX7 yX7_lightOf yX7_lightOf, .initialized RX7, .code yX7_lightOf cX7_lightOf 2 (some .int), .fieldLink RX7 7 "DyehouseLedgerModel" "shade" "[I", .fieldLink RX7 26 "DyehouseLedgerModel" "recipe" "[I", .methodLink RX7 123 yX7_needed, .instanceMethod yX7_needed, .selects RX7 yX7_needed yX7_needed, .code yX7_needed cX7_needed 3 (some .int), .fieldLink RX7 13 "DyehouseLedgerModel" "grams" "[I"] ++ wsX70 ++ (vx_atM "java/lang/ArrayIndexOutOfBoundsException" ["java/lang/IndexOutOfBoundsException", "java/lang/RuntimeException", "java/lang/Exception"]).filter goodWord)
def wsX7_reason_r1 : List Cond := [Cond.methodLink RX7 120 yX7_noLot, Cond.instanceMethod yX7_noLot, Cond.selects RX7 yX7_noLot yX7_noLot, Cond.initialized RX7, Cond.code yX7_noLot cX7_noLot 2 (some .boolean), Cond.fieldLink RX7 92 "DyehouseLedgerModel" "lots" "I", Cond.fieldLink RX7 84 "DyehouseLedgerModel" "thrown" "I", Cond.methodLink RX7 88 yX7_isIn, Cond.static yX7_isIn, Cond.code yX7_isIn cX7_isIn 3 (some .boolean), Cond.methodLink RX7 133 yX7_noVat, Cond.instanceMethod yX7_noVat, Cond.selects RX7 yX7_noVat yX7_noVat, Cond.code yX7_noVat cX7_noVat 2 (some .boolean), Cond.fieldLink RX7 95 "DyehouseLedgerModel" "vats" "I", Cond.methodLink RX7 136 yX7_why, Cond.instanceMethod yX7_why, Cond.selects RX7 yX7_why yX7_why, Cond.code yX7_why cX7_why 4 (some .char), Cond.fieldLink RX7 59 "DyehouseLedgerModel" "state" "[C", Cond.fieldLink RX7 41 "DyehouseLedgerModel" "weight" "[I", Cond.fieldLink RX7 63 "DyehouseLedgerModel" "room" "[I", Cond.fieldLink RX7 66 "DyehouseLedgerModel" "light" "[I", Cond.fieldLink RX7 69 "DyehouseLedgerModel" "barred" "[I"]
def wsX7_reason_r2 : List Cond := [Cond.fieldLink RX7 23 "DyehouseLedgerModel" "customer" "[I", Cond.fieldLink RX7 38 "DyehouseLedgerModel" "order" "[I", Cond.fieldLink RX7 16 "DyehouseLedgerModel" "stock" "[I", Cond.methodLink RX7 130 yX7_lightOf, Cond.instanceMethod yX7_lightOf, Cond.selects RX7 yX7_lightOf yX7_lightOf, Cond.code yX7_lightOf cX7_lightOf 2 (some .int), Cond.fieldLink RX7 7 "DyehouseLedgerModel" "shade" "[I", Cond.fieldLink RX7 26 "DyehouseLedgerModel" "recipe" "[I", Cond.methodLink RX7 123 yX7_needed, Cond.instanceMethod yX7_needed, Cond.selects RX7 yX7_needed yX7_needed, Cond.code yX7_needed cX7_needed 3 (some .int), Cond.fieldLink RX7 13 "DyehouseLedgerModel" "grams" "[I"]
def wsX7_reason : List Cond := .code yX7_reason cX7_reason 3 (some .char) :: ((wsX7_reason_r1 ++ wsX7_reason_r2) ++ wsX70 ++ (vx_atM "java/lang/ArrayIndexOutOfBoundsException" ["java/lang/IndexOutOfBoundsException", "java/lang/RuntimeException", "java/lang/Exception"]).filter goodWord)
def wsX7_dye_r1 : List Cond := [Cond.fieldLink RX7 16 "DyehouseLedgerModel" "stock" "[I", Cond.fieldLink RX7 19 "DyehouseLedgerModel" "used" "[J", Cond.fieldLink RX7 44 "DyehouseLedgerModel" "out" "[I", Cond.fieldLink RX7 59 "DyehouseLedgerModel" "state" "[C", Cond.fieldLink RX7 56 "DyehouseLedgerModel" "plan" "[I", Cond.fieldLink RX7 47 "DyehouseLedgerModel" "vat" "[I", Cond.fieldLink RX7 66 "DyehouseLedgerModel" "light" "[I", Cond.fieldLink RX7 72 "DyehouseLedgerModel" "clock" "[I", Cond.fieldLink RX7 50 "DyehouseLedgerModel" "at" "[I", Cond.fieldLink RX7 53 "DyehouseLedgerModel" "cleaned" "[I", Cond.fieldLink RX7 75 "DyehouseLedgerModel" "cleanings" "[I", Cond.methodLink RX7 120 yX7_noLot, Cond.instanceMethod yX7_noLot, Cond.selects RX7 yX7_noLot yX7_noLot, Cond.initialized RX7, Cond.code yX7_noLot cX7_noLot 2 (some .boolean), Cond.fieldLink RX7 92 "DyehouseLedgerModel" "lots" "I", Cond.fieldLink RX7 84 "DyehouseLedgerModel" "thrown" "I", Cond.methodLink RX7 88 yX7_isIn, Cond.static yX7_isIn, Cond.code yX7_isIn cX7_isIn 3 (some .boolean), Cond.methodLink RX7 133 yX7_noVat, Cond.instanceMethod yX7_noVat, Cond.selects RX7 yX7_noVat yX7_noVat]
def wsX7_dye_r2 : List Cond := [Cond.code yX7_noVat cX7_noVat 2 (some .boolean), Cond.fieldLink RX7 95 "DyehouseLedgerModel" "vats" "I", Cond.methodLink RX7 101 yX7_isShade, Cond.static yX7_isShade, Cond.code yX7_isShade cX7_isShade 3 (some .boolean), Cond.methodLink RX7 104 yX7_refuse, Cond.instanceMethod yX7_refuse, Cond.selects RX7 yX7_refuse yX7_refuse, Cond.code yX7_refuse cX7_refuse 2 (some .int), Cond.methodLink RX7 136 yX7_why, Cond.instanceMethod yX7_why, Cond.selects RX7 yX7_why yX7_why, Cond.code yX7_why cX7_why 4 (some .char), Cond.fieldLink RX7 41 "DyehouseLedgerModel" "weight" "[I", Cond.fieldLink RX7 63 "DyehouseLedgerModel" "room" "[I", Cond.fieldLink RX7 69 "DyehouseLedgerModel" "barred" "[I", Cond.fieldLink RX7 23 "DyehouseLedgerModel" "customer" "[I", Cond.fieldLink RX7 38 "DyehouseLedgerModel" "order" "[I", Cond.methodLink RX7 130 yX7_lightOf, Cond.instanceMethod yX7_lightOf, Cond.selects RX7 yX7_lightOf yX7_lightOf, Cond.code yX7_lightOf cX7_lightOf 2 (some .int), Cond.fieldLink RX7 7 "DyehouseLedgerModel" "shade" "[I", Cond.fieldLink RX7 26 "DyehouseLedgerModel" "recipe" "[I"]
def wsX7_dye_r3 : List Cond := [Cond.methodLink RX7 123 yX7_needed, Cond.instanceMethod yX7_needed, Cond.selects RX7 yX7_needed yX7_needed, Cond.code yX7_needed cX7_needed 3 (some .int), Cond.fieldLink RX7 13 "DyehouseLedgerModel" "grams" "[I", Cond.methodLink RX7 127 yX7_hours, Cond.instanceMethod yX7_hours, Cond.selects RX7 yX7_hours yX7_hours, Cond.code yX7_hours cX7_hours 2 (some .int)]
def wsX7_dye : List Cond := .code yX7_dye cX7_dye 7 (some .int) :: ((wsX7_dye_r1 ++ (wsX7_dye_r2 ++ wsX7_dye_r3)) ++ wsX70 ++ (vx_atM "java/lang/ArrayIndexOutOfBoundsException" ["java/lang/IndexOutOfBoundsException", "java/lang/RuntimeException", "java/lang/Exception"]).filter goodWord)
def wsX7_clean : List Cond := .code yX7_clean cX7_clean 2 (some .int) :: ([.fieldLink RX7 66 "DyehouseLedgerModel" "light" "[I", .fieldLink RX7 69 "DyehouseLedgerModel" "barred" "[I", .fieldLink RX7 75 "DyehouseLedgerModel" "cleanings" "[I", .fieldLink RX7 72 "DyehouseLedgerModel" "clock" "[I", .methodLink RX7 133 yX7_noVat, .instanceMethod yX7_noVat, .selects RX7 yX7_noVat yX7_noVat, .initialized RX7, .code yX7_noVat cX7_noVat 2 (some .boolean), .fieldLink RX7 95 "DyehouseLedgerModel" "vats" "I", .fieldLink RX7 84 "DyehouseLedgerModel" "thrown" "I", .methodLink RX7 88 yX7_isIn, .static yX7_isIn, .code yX7_isIn cX7_isIn 3 (some .boolean)] ++ wsX70 ++ (vx_atM "java/lang/ArrayIndexOutOfBoundsException" ["java/lang/IndexOutOfBoundsException", "java/lang/RuntimeException", "java/lang/Exception"]).filter goodWord)
def wsX7_gap : List Cond := .code yX7_gap cX7_gap 2 (some .int) :: ([])
def wsX7_off : List Cond := .code yX7_off cX7_off 3 (some .int) :: ([.fieldLink RX7 26 "DyehouseLedgerModel" "recipe" "[I", .fieldLink RX7 38 "DyehouseLedgerModel" "order" "[I", .fieldLink RX7 44 "DyehouseLedgerModel" "out" "[I", .fieldLink RX7 7 "DyehouseLedgerModel" "shade" "[I", .methodLink RX7 140 yX7_gap, .static yX7_gap, .initialized RX7, .code yX7_gap cX7_gap 2 (some .int)] ++ wsX70 ++ (vx_atM "java/lang/ArrayIndexOutOfBoundsException" ["java/lang/IndexOutOfBoundsException", "java/lang/RuntimeException", "java/lang/Exception"]).filter goodWord)
def wsX7_apart : List Cond := .code yX7_apart cX7_apart 3 (some .int) :: ([.fieldLink RX7 44 "DyehouseLedgerModel" "out" "[I", .methodLink RX7 140 yX7_gap, .static yX7_gap, .initialized RX7, .code yX7_gap cX7_gap 2 (some .int)] ++ wsX70 ++ (vx_atM "java/lang/ArrayIndexOutOfBoundsException" ["java/lang/IndexOutOfBoundsException", "java/lang/RuntimeException", "java/lang/Exception"]).filter goodWord)
def wsX7_judged : List Cond := .code yX7_judged cX7_judged 3 (some .char) :: ([.fieldLink RX7 29 "DyehouseLedgerModel" "bound" "[I", .fieldLink RX7 38 "DyehouseLedgerModel" "order" "[I", .fieldLink RX7 92 "DyehouseLedgerModel" "lots" "I", .fieldLink RX7 59 "DyehouseLedgerModel" "state" "[C", .methodLink RX7 143 yX7_off, .instanceMethod yX7_off, .selects RX7 yX7_off yX7_off, .initialized RX7, .code yX7_off cX7_off 3 (some .int), .fieldLink RX7 26 "DyehouseLedgerModel" "recipe" "[I", .fieldLink RX7 44 "DyehouseLedgerModel" "out" "[I", .fieldLink RX7 7 "DyehouseLedgerModel" "shade" "[I", .methodLink RX7 140 yX7_gap, .static yX7_gap, .code yX7_gap cX7_gap 2 (some .int), .methodLink RX7 146 yX7_apart, .instanceMethod yX7_apart, .selects RX7 yX7_apart yX7_apart, .code yX7_apart cX7_apart 3 (some .int)] ++ wsX70 ++ (vx_atM "java/lang/ArrayIndexOutOfBoundsException" ["java/lang/IndexOutOfBoundsException", "java/lang/RuntimeException", "java/lang/Exception"]).filter goodWord)
def wsX7_isNot : List Cond := .code yX7_isNot cX7_isNot 3 (some .boolean) :: ([.fieldLink RX7 59 "DyehouseLedgerModel" "state" "[C", .fieldLink RX7 84 "DyehouseLedgerModel" "thrown" "I", .methodLink RX7 120 yX7_noLot, .instanceMethod yX7_noLot, .selects RX7 yX7_noLot yX7_noLot, .initialized RX7, .code yX7_noLot cX7_noLot 2 (some .boolean), .fieldLink RX7 92 "DyehouseLedgerModel" "lots" "I", .methodLink RX7 88 yX7_isIn, .static yX7_isIn, .code yX7_isIn cX7_isIn 3 (some .boolean)] ++ wsX70 ++ (vx_atM "java/lang/ArrayIndexOutOfBoundsException" ["java/lang/IndexOutOfBoundsException", "java/lang/RuntimeException", "java/lang/Exception"]).filter goodWord)
def wsX7_verdict_r1 : List Cond := [Cond.methodLink RX7 149 yX7_isNot, Cond.instanceMethod yX7_isNot, Cond.selects RX7 yX7_isNot yX7_isNot, Cond.initialized RX7, Cond.code yX7_isNot cX7_isNot 3 (some .boolean), Cond.fieldLink RX7 59 "DyehouseLedgerModel" "state" "[C", Cond.fieldLink RX7 84 "DyehouseLedgerModel" "thrown" "I", Cond.methodLink RX7 120 yX7_noLot, Cond.instanceMethod yX7_noLot, Cond.selects RX7 yX7_noLot yX7_noLot, Cond.code yX7_noLot cX7_noLot 2 (some .boolean), Cond.fieldLink RX7 92 "DyehouseLedgerModel" "lots" "I", Cond.methodLink RX7 88 yX7_isIn, Cond.static yX7_isIn, Cond.code yX7_isIn cX7_isIn 3 (some .boolean), Cond.methodLink RX7 153 yX7_judged, Cond.instanceMethod yX7_judged, Cond.selects RX7 yX7_judged yX7_judged, Cond.code yX7_judged cX7_judged 3 (some .char), Cond.fieldLink RX7 29 "DyehouseLedgerModel" "bound" "[I", Cond.fieldLink RX7 38 "DyehouseLedgerModel" "order" "[I", Cond.methodLink RX7 143 yX7_off, Cond.instanceMethod yX7_off, Cond.selects RX7 yX7_off yX7_off]
def wsX7_verdict_r2 : List Cond := [Cond.code yX7_off cX7_off 3 (some .int), Cond.fieldLink RX7 26 "DyehouseLedgerModel" "recipe" "[I", Cond.fieldLink RX7 44 "DyehouseLedgerModel" "out" "[I", Cond.fieldLink RX7 7 "DyehouseLedgerModel" "shade" "[I", Cond.methodLink RX7 140 yX7_gap, Cond.static yX7_gap, Cond.code yX7_gap cX7_gap 2 (some .int), Cond.methodLink RX7 146 yX7_apart, Cond.instanceMethod yX7_apart, Cond.selects RX7 yX7_apart yX7_apart, Cond.code yX7_apart cX7_apart 3 (some .int)]
def wsX7_verdict : List Cond := .code yX7_verdict cX7_verdict 2 (some .char) :: ((wsX7_verdict_r1 ++ wsX7_verdict_r2) ++ wsX70 ++ (vx_atM "java/lang/ArrayIndexOutOfBoundsException" ["java/lang/IndexOutOfBoundsException", "java/lang/RuntimeException", "java/lang/Exception"]).filter goodWord)
def wsX7_judge_r1 : List Cond := [Cond.fieldLink RX7 59 "DyehouseLedgerModel" "state" "[C", Cond.fieldLink RX7 53 "DyehouseLedgerModel" "cleaned" "[I", Cond.fieldLink RX7 75 "DyehouseLedgerModel" "cleanings" "[I", Cond.fieldLink RX7 47 "DyehouseLedgerModel" "vat" "[I", Cond.fieldLink RX7 69 "DyehouseLedgerModel" "barred" "[I", Cond.fieldLink RX7 23 "DyehouseLedgerModel" "customer" "[I", Cond.fieldLink RX7 38 "DyehouseLedgerModel" "order" "[I", Cond.methodLink RX7 149 yX7_isNot, Cond.instanceMethod yX7_isNot, Cond.selects RX7 yX7_isNot yX7_isNot, Cond.initialized RX7, Cond.code yX7_isNot cX7_isNot 3 (some .boolean), Cond.fieldLink RX7 84 "DyehouseLedgerModel" "thrown" "I", Cond.methodLink RX7 120 yX7_noLot, Cond.instanceMethod yX7_noLot, Cond.selects RX7 yX7_noLot yX7_noLot, Cond.code yX7_noLot cX7_noLot 2 (some .boolean), Cond.fieldLink RX7 92 "DyehouseLedgerModel" "lots" "I", Cond.methodLink RX7 88 yX7_isIn, Cond.static yX7_isIn, Cond.code yX7_isIn cX7_isIn 3 (some .boolean), Cond.methodLink RX7 153 yX7_judged, Cond.instanceMethod yX7_judged, Cond.selects RX7 yX7_judged yX7_judged]
def wsX7_judge_r2 : List Cond := [Cond.code yX7_judged cX7_judged 3 (some .char), Cond.fieldLink RX7 29 "DyehouseLedgerModel" "bound" "[I", Cond.methodLink RX7 143 yX7_off, Cond.instanceMethod yX7_off, Cond.selects RX7 yX7_off yX7_off, Cond.code yX7_off cX7_off 3 (some .int), Cond.fieldLink RX7 26 "DyehouseLedgerModel" "recipe" "[I", Cond.fieldLink RX7 44 "DyehouseLedgerModel" "out" "[I", Cond.fieldLink RX7 7 "DyehouseLedgerModel" "shade" "[I", Cond.methodLink RX7 140 yX7_gap, Cond.static yX7_gap, Cond.code yX7_gap cX7_gap 2 (some .int), Cond.methodLink RX7 146 yX7_apart, Cond.instanceMethod yX7_apart, Cond.selects RX7 yX7_apart yX7_apart, Cond.code yX7_apart cX7_apart 3 (some .int)]
def wsX7_judge : List Cond := .code yX7_judge cX7_judge 3 (some .boolean) :: ((wsX7_judge_r1 ++ wsX7_judge_r2) ++ wsX70 ++ (vx_atM "java/lang/ArrayIndexOutOfBoundsException" ["java/lang/IndexOutOfBoundsException", "java/lang/RuntimeException", "java/lang/Exception"]).filter goodWord)
def wsX7_waiting : List Cond := .code yX7_waiting cX7_waiting 3 (some .int) :: ([.fieldLink RX7 92 "DyehouseLedgerModel" "lots" "I", .fieldLink RX7 59 "DyehouseLedgerModel" "state" "[C"] ++ wsX70 ++ (vx_atM "java/lang/ArrayIndexOutOfBoundsException" ["java/lang/IndexOutOfBoundsException", "java/lang/RuntimeException", "java/lang/Exception"]).filter goodWord)
def wsX7_again : List Cond := .code yX7_again cX7_again 2 (some .int) :: ([.fieldLink RX7 59 "DyehouseLedgerModel" "state" "[C", .methodLink RX7 149 yX7_isNot, .instanceMethod yX7_isNot, .selects RX7 yX7_isNot yX7_isNot, .initialized RX7, .code yX7_isNot cX7_isNot 3 (some .boolean), .fieldLink RX7 84 "DyehouseLedgerModel" "thrown" "I", .methodLink RX7 120 yX7_noLot, .instanceMethod yX7_noLot, .selects RX7 yX7_noLot yX7_noLot, .code yX7_noLot cX7_noLot 2 (some .boolean), .fieldLink RX7 92 "DyehouseLedgerModel" "lots" "I", .methodLink RX7 88 yX7_isIn, .static yX7_isIn, .code yX7_isIn cX7_isIn 3 (some .boolean), .methodLink RX7 157 yX7_waiting, .instanceMethod yX7_waiting, .selects RX7 yX7_waiting yX7_waiting, .code yX7_waiting cX7_waiting 3 (some .int)] ++ wsX70 ++ (vx_atM "java/lang/ArrayIndexOutOfBoundsException" ["java/lang/IndexOutOfBoundsException", "java/lang/RuntimeException", "java/lang/Exception"]).filter goodWord)
def wsX7_inPlan : List Cond := .code yX7_inPlan cX7_inPlan 4 (some .int) :: ([.fieldLink RX7 92 "DyehouseLedgerModel" "lots" "I", .fieldLink RX7 56 "DyehouseLedgerModel" "plan" "[I"] ++ wsX70 ++ (vx_atM "java/lang/ArrayIndexOutOfBoundsException" ["java/lang/IndexOutOfBoundsException", "java/lang/RuntimeException", "java/lang/Exception"]).filter goodWord)
def wsX7_plan_r1 : List Cond := [Cond.fieldLink RX7 59 "DyehouseLedgerModel" "state" "[C", Cond.fieldLink RX7 56 "DyehouseLedgerModel" "plan" "[I", Cond.fieldLink RX7 41 "DyehouseLedgerModel" "weight" "[I", Cond.fieldLink RX7 63 "DyehouseLedgerModel" "room" "[I", Cond.methodLink RX7 120 yX7_noLot, Cond.instanceMethod yX7_noLot, Cond.selects RX7 yX7_noLot yX7_noLot, Cond.initialized RX7, Cond.code yX7_noLot cX7_noLot 2 (some .boolean), Cond.fieldLink RX7 92 "DyehouseLedgerModel" "lots" "I", Cond.fieldLink RX7 84 "DyehouseLedgerModel" "thrown" "I", Cond.methodLink RX7 88 yX7_isIn, Cond.static yX7_isIn, Cond.code yX7_isIn cX7_isIn 3 (some .boolean), Cond.methodLink RX7 133 yX7_noVat, Cond.instanceMethod yX7_noVat, Cond.selects RX7 yX7_noVat yX7_noVat, Cond.code yX7_noVat cX7_noVat 2 (some .boolean), Cond.fieldLink RX7 95 "DyehouseLedgerModel" "vats" "I", Cond.methodLink RX7 161 yX7_inPlan, Cond.instanceMethod yX7_inPlan, Cond.selects RX7 yX7_inPlan yX7_inPlan, Cond.code yX7_inPlan cX7_inPlan 4 (some .int), Cond.methodLink RX7 104 yX7_refuse]
def wsX7_plan_r2 : List Cond := [Cond.instanceMethod yX7_refuse, Cond.selects RX7 yX7_refuse yX7_refuse, Cond.code yX7_refuse cX7_refuse 2 (some .int)]
def wsX7_plan : List Cond := .code yX7_plan cX7_plan 3 (some .int) :: ((wsX7_plan_r1 ++ wsX7_plan_r2) ++ wsX70 ++ (vx_atM "java/lang/ArrayIndexOutOfBoundsException" ["java/lang/IndexOutOfBoundsException", "java/lang/RuntimeException", "java/lang/Exception"]).filter goodWord)
def wsX7_unplan : List Cond := .code yX7_unplan cX7_unplan 3 (some .int) :: ([.fieldLink RX7 56 "DyehouseLedgerModel" "plan" "[I", .methodLink RX7 120 yX7_noLot, .instanceMethod yX7_noLot, .selects RX7 yX7_noLot yX7_noLot, .initialized RX7, .code yX7_noLot cX7_noLot 2 (some .boolean), .fieldLink RX7 92 "DyehouseLedgerModel" "lots" "I", .fieldLink RX7 84 "DyehouseLedgerModel" "thrown" "I", .methodLink RX7 88 yX7_isIn, .static yX7_isIn, .code yX7_isIn cX7_isIn 3 (some .boolean), .methodLink RX7 104 yX7_refuse, .instanceMethod yX7_refuse, .selects RX7 yX7_refuse yX7_refuse, .code yX7_refuse cX7_refuse 2 (some .int)] ++ wsX70 ++ (vx_atM "java/lang/ArrayIndexOutOfBoundsException" ["java/lang/IndexOutOfBoundsException", "java/lang/RuntimeException", "java/lang/Exception"]).filter goodWord)
def wsX7_planned : List Cond := .code yX7_planned cX7_planned 2 (some .int) :: ([.methodLink RX7 133 yX7_noVat, .instanceMethod yX7_noVat, .selects RX7 yX7_noVat yX7_noVat, .initialized RX7, .code yX7_noVat cX7_noVat 2 (some .boolean), .fieldLink RX7 95 "DyehouseLedgerModel" "vats" "I", .fieldLink RX7 84 "DyehouseLedgerModel" "thrown" "I", .methodLink RX7 88 yX7_isIn, .static yX7_isIn, .code yX7_isIn cX7_isIn 3 (some .boolean), .methodLink RX7 161 yX7_inPlan, .instanceMethod yX7_inPlan, .selects RX7 yX7_inPlan yX7_inPlan, .code yX7_inPlan cX7_inPlan 4 (some .int), .fieldLink RX7 92 "DyehouseLedgerModel" "lots" "I", .fieldLink RX7 56 "DyehouseLedgerModel" "plan" "[I"] ++ wsX70 ++ (vx_atM "java/lang/ArrayIndexOutOfBoundsException" ["java/lang/IndexOutOfBoundsException", "java/lang/RuntimeException", "java/lang/Exception"]).filter goodWord)
def wsX7_lotAt : List Cond := .code yX7_lotAt cX7_lotAt 5 (some .int) :: ([.fieldLink RX7 92 "DyehouseLedgerModel" "lots" "I", .fieldLink RX7 56 "DyehouseLedgerModel" "plan" "[I"] ++ wsX70 ++ (vx_atM "java/lang/ArrayIndexOutOfBoundsException" ["java/lang/IndexOutOfBoundsException", "java/lang/RuntimeException", "java/lang/Exception"]).filter goodWord)
def wsX7_plannedAt : List Cond := .code yX7_plannedAt cX7_plannedAt 4 (some .int) :: ([.methodLink RX7 133 yX7_noVat, .instanceMethod yX7_noVat, .selects RX7 yX7_noVat yX7_noVat, .initialized RX7, .code yX7_noVat cX7_noVat 2 (some .boolean), .fieldLink RX7 95 "DyehouseLedgerModel" "vats" "I", .fieldLink RX7 84 "DyehouseLedgerModel" "thrown" "I", .methodLink RX7 88 yX7_isIn, .static yX7_isIn, .code yX7_isIn cX7_isIn 3 (some .boolean), .methodLink RX7 164 yX7_lotAt, .instanceMethod yX7_lotAt, .selects RX7 yX7_lotAt yX7_lotAt, .code yX7_lotAt cX7_lotAt 5 (some .int), .fieldLink RX7 92 "DyehouseLedgerModel" "lots" "I", .fieldLink RX7 56 "DyehouseLedgerModel" "plan" "[I", .methodLink RX7 104 yX7_refuse, .instanceMethod yX7_refuse, .selects RX7 yX7_refuse yX7_refuse, .code yX7_refuse cX7_refuse 2 (some .int)] ++ wsX70 ++ (vx_atM "java/lang/ArrayIndexOutOfBoundsException" ["java/lang/IndexOutOfBoundsException", "java/lang/RuntimeException", "java/lang/Exception"]).filter goodWord)
def wsX7_lasts : List Cond := .code yX7_lasts cX7_lasts 8 (some .int) :: ([.fieldLink RX7 66 "DyehouseLedgerModel" "light" "[I", .fieldLink RX7 69 "DyehouseLedgerModel" "barred" "[I", .fieldLink RX7 78 "DyehouseLedgerModel" "row" "[I", .fieldLink RX7 23 "DyehouseLedgerModel" "customer" "[I", .fieldLink RX7 38 "DyehouseLedgerModel" "order" "[I", .methodLink RX7 130 yX7_lightOf, .instanceMethod yX7_lightOf, .selects RX7 yX7_lightOf yX7_lightOf, .initialized RX7, .code yX7_lightOf cX7_lightOf 2 (some .int), .fieldLink RX7 7 "DyehouseLedgerModel" "shade" "[I", .fieldLink RX7 26 "DyehouseLedgerModel" "recipe" "[I", .methodLink RX7 127 yX7_hours, .instanceMethod yX7_hours, .selects RX7 yX7_hours yX7_hours, .code yX7_hours cX7_hours 2 (some .int), .fieldLink RX7 41 "DyehouseLedgerModel" "weight" "[I"] ++ wsX70 ++ (vx_atM "java/lang/ArrayIndexOutOfBoundsException" ["java/lang/IndexOutOfBoundsException", "java/lang/RuntimeException", "java/lang/Exception"]).filter goodWord)
def wsX7_swap : List Cond := .code yX7_swap cX7_swap 4 none :: ([.fieldLink RX7 78 "DyehouseLedgerModel" "row" "[I"] ++ wsX70 ++ (vx_atM "java/lang/ArrayIndexOutOfBoundsException" ["java/lang/IndexOutOfBoundsException", "java/lang/RuntimeException", "java/lang/Exception"]).filter goodWord)
def wsX7_isNext : List Cond := .code yX7_isNext cX7_isNext 6 (some .boolean) :: ([.fieldLink RX7 78 "DyehouseLedgerModel" "row" "[I", .methodLink RX7 167 yX7_swap, .instanceMethod yX7_swap, .selects RX7 yX7_swap yX7_swap, .initialized RX7, .code yX7_swap cX7_swap 4 none] ++ wsX70 ++ (vx_atM "java/lang/ArrayIndexOutOfBoundsException" ["java/lang/IndexOutOfBoundsException", "java/lang/RuntimeException", "java/lang/Exception"]).filter goodWord)
def wsX7_least_r1 : List Cond := [Cond.fieldLink RX7 78 "DyehouseLedgerModel" "row" "[I", Cond.fieldLink RX7 81 "DyehouseLedgerModel" "taken" "[I", Cond.methodLink RX7 161 yX7_inPlan, Cond.instanceMethod yX7_inPlan, Cond.selects RX7 yX7_inPlan yX7_inPlan, Cond.initialized RX7, Cond.code yX7_inPlan cX7_inPlan 4 (some .int), Cond.fieldLink RX7 92 "DyehouseLedgerModel" "lots" "I", Cond.fieldLink RX7 56 "DyehouseLedgerModel" "plan" "[I", Cond.methodLink RX7 164 yX7_lotAt, Cond.instanceMethod yX7_lotAt, Cond.selects RX7 yX7_lotAt yX7_lotAt, Cond.code yX7_lotAt cX7_lotAt 5 (some .int), Cond.methodLink RX7 171 yX7_lasts, Cond.instanceMethod yX7_lasts, Cond.selects RX7 yX7_lasts yX7_lasts, Cond.code yX7_lasts cX7_lasts 8 (some .int), Cond.fieldLink RX7 66 "DyehouseLedgerModel" "light" "[I", Cond.fieldLink RX7 69 "DyehouseLedgerModel" "barred" "[I", Cond.fieldLink RX7 23 "DyehouseLedgerModel" "customer" "[I", Cond.fieldLink RX7 38 "DyehouseLedgerModel" "order" "[I", Cond.methodLink RX7 130 yX7_lightOf, Cond.instanceMethod yX7_lightOf, Cond.selects RX7 yX7_lightOf yX7_lightOf]
def wsX7_least_r2 : List Cond := [Cond.code yX7_lightOf cX7_lightOf 2 (some .int), Cond.fieldLink RX7 7 "DyehouseLedgerModel" "shade" "[I", Cond.fieldLink RX7 26 "DyehouseLedgerModel" "recipe" "[I", Cond.methodLink RX7 127 yX7_hours, Cond.instanceMethod yX7_hours, Cond.selects RX7 yX7_hours yX7_hours, Cond.code yX7_hours cX7_hours 2 (some .int), Cond.fieldLink RX7 41 "DyehouseLedgerModel" "weight" "[I", Cond.methodLink RX7 174 yX7_isNext, Cond.instanceMethod yX7_isNext, Cond.selects RX7 yX7_isNext yX7_isNext, Cond.code yX7_isNext cX7_isNext 6 (some .boolean), Cond.methodLink RX7 167 yX7_swap, Cond.instanceMethod yX7_swap, Cond.selects RX7 yX7_swap yX7_swap, Cond.code yX7_swap cX7_swap 4 none]
def wsX7_least : List Cond := .code yX7_least cX7_least 5 (some .int) :: ((wsX7_least_r1 ++ wsX7_least_r2) ++ wsX70 ++ (vx_atM "java/lang/ArrayIndexOutOfBoundsException" ["java/lang/IndexOutOfBoundsException", "java/lang/RuntimeException", "java/lang/Exception"]).filter goodWord)
def wsX7_leastHours_r1 : List Cond := [Cond.methodLink RX7 133 yX7_noVat, Cond.instanceMethod yX7_noVat, Cond.selects RX7 yX7_noVat yX7_noVat, Cond.initialized RX7, Cond.code yX7_noVat cX7_noVat 2 (some .boolean), Cond.fieldLink RX7 95 "DyehouseLedgerModel" "vats" "I", Cond.fieldLink RX7 84 "DyehouseLedgerModel" "thrown" "I", Cond.methodLink RX7 88 yX7_isIn, Cond.static yX7_isIn, Cond.code yX7_isIn cX7_isIn 3 (some .boolean), Cond.methodLink RX7 177 yX7_least, Cond.instanceMethod yX7_least, Cond.selects RX7 yX7_least yX7_least, Cond.code yX7_least cX7_least 5 (some .int), Cond.fieldLink RX7 78 "DyehouseLedgerModel" "row" "[I", Cond.fieldLink RX7 81 "DyehouseLedgerModel" "taken" "[I", Cond.methodLink RX7 161 yX7_inPlan, Cond.instanceMethod yX7_inPlan, Cond.selects RX7 yX7_inPlan yX7_inPlan, Cond.code yX7_inPlan cX7_inPlan 4 (some .int), Cond.fieldLink RX7 92 "DyehouseLedgerModel" "lots" "I", Cond.fieldLink RX7 56 "DyehouseLedgerModel" "plan" "[I", Cond.methodLink RX7 164 yX7_lotAt, Cond.instanceMethod yX7_lotAt]
def wsX7_leastHours_r2 : List Cond := [Cond.selects RX7 yX7_lotAt yX7_lotAt, Cond.code yX7_lotAt cX7_lotAt 5 (some .int), Cond.methodLink RX7 171 yX7_lasts, Cond.instanceMethod yX7_lasts, Cond.selects RX7 yX7_lasts yX7_lasts, Cond.code yX7_lasts cX7_lasts 8 (some .int), Cond.fieldLink RX7 66 "DyehouseLedgerModel" "light" "[I", Cond.fieldLink RX7 69 "DyehouseLedgerModel" "barred" "[I", Cond.fieldLink RX7 23 "DyehouseLedgerModel" "customer" "[I", Cond.fieldLink RX7 38 "DyehouseLedgerModel" "order" "[I", Cond.methodLink RX7 130 yX7_lightOf, Cond.instanceMethod yX7_lightOf, Cond.selects RX7 yX7_lightOf yX7_lightOf, Cond.code yX7_lightOf cX7_lightOf 2 (some .int), Cond.fieldLink RX7 7 "DyehouseLedgerModel" "shade" "[I", Cond.fieldLink RX7 26 "DyehouseLedgerModel" "recipe" "[I", Cond.methodLink RX7 127 yX7_hours, Cond.instanceMethod yX7_hours, Cond.selects RX7 yX7_hours yX7_hours, Cond.code yX7_hours cX7_hours 2 (some .int), Cond.fieldLink RX7 41 "DyehouseLedgerModel" "weight" "[I", Cond.methodLink RX7 174 yX7_isNext, Cond.instanceMethod yX7_isNext, Cond.selects RX7 yX7_isNext yX7_isNext]
def wsX7_leastHours_r3 : List Cond := [Cond.code yX7_isNext cX7_isNext 6 (some .boolean), Cond.methodLink RX7 167 yX7_swap, Cond.instanceMethod yX7_swap, Cond.selects RX7 yX7_swap yX7_swap, Cond.code yX7_swap cX7_swap 4 none]
def wsX7_leastHours : List Cond := .code yX7_leastHours cX7_leastHours 2 (some .int) :: ((wsX7_leastHours_r1 ++ (wsX7_leastHours_r2 ++ wsX7_leastHours_r3)) ++ wsX70 ++ (vx_atM "java/lang/ArrayIndexOutOfBoundsException" ["java/lang/IndexOutOfBoundsException", "java/lang/RuntimeException", "java/lang/Exception"]).filter goodWord)
def wsX7_leastByAll_r1 : List Cond := [Cond.methodLink RX7 180 yX7_leastHours, Cond.instanceMethod yX7_leastHours, Cond.selects RX7 yX7_leastHours yX7_leastHours, Cond.initialized RX7, Cond.code yX7_leastHours cX7_leastHours 2 (some .int), Cond.methodLink RX7 133 yX7_noVat, Cond.instanceMethod yX7_noVat, Cond.selects RX7 yX7_noVat yX7_noVat, Cond.code yX7_noVat cX7_noVat 2 (some .boolean), Cond.fieldLink RX7 95 "DyehouseLedgerModel" "vats" "I", Cond.fieldLink RX7 84 "DyehouseLedgerModel" "thrown" "I", Cond.methodLink RX7 88 yX7_isIn, Cond.static yX7_isIn, Cond.code yX7_isIn cX7_isIn 3 (some .boolean), Cond.methodLink RX7 177 yX7_least, Cond.instanceMethod yX7_least, Cond.selects RX7 yX7_least yX7_least, Cond.code yX7_least cX7_least 5 (some .int), Cond.fieldLink RX7 78 "DyehouseLedgerModel" "row" "[I", Cond.fieldLink RX7 81 "DyehouseLedgerModel" "taken" "[I", Cond.methodLink RX7 161 yX7_inPlan, Cond.instanceMethod yX7_inPlan, Cond.selects RX7 yX7_inPlan yX7_inPlan, Cond.code yX7_inPlan cX7_inPlan 4 (some .int)]
def wsX7_leastByAll_r2 : List Cond := [Cond.fieldLink RX7 92 "DyehouseLedgerModel" "lots" "I", Cond.fieldLink RX7 56 "DyehouseLedgerModel" "plan" "[I", Cond.methodLink RX7 164 yX7_lotAt, Cond.instanceMethod yX7_lotAt, Cond.selects RX7 yX7_lotAt yX7_lotAt, Cond.code yX7_lotAt cX7_lotAt 5 (some .int), Cond.methodLink RX7 171 yX7_lasts, Cond.instanceMethod yX7_lasts, Cond.selects RX7 yX7_lasts yX7_lasts, Cond.code yX7_lasts cX7_lasts 8 (some .int), Cond.fieldLink RX7 66 "DyehouseLedgerModel" "light" "[I", Cond.fieldLink RX7 69 "DyehouseLedgerModel" "barred" "[I", Cond.fieldLink RX7 23 "DyehouseLedgerModel" "customer" "[I", Cond.fieldLink RX7 38 "DyehouseLedgerModel" "order" "[I", Cond.methodLink RX7 130 yX7_lightOf, Cond.instanceMethod yX7_lightOf, Cond.selects RX7 yX7_lightOf yX7_lightOf, Cond.code yX7_lightOf cX7_lightOf 2 (some .int), Cond.fieldLink RX7 7 "DyehouseLedgerModel" "shade" "[I", Cond.fieldLink RX7 26 "DyehouseLedgerModel" "recipe" "[I", Cond.methodLink RX7 127 yX7_hours, Cond.instanceMethod yX7_hours, Cond.selects RX7 yX7_hours yX7_hours, Cond.code yX7_hours cX7_hours 2 (some .int)]
def wsX7_leastByAll_r3 : List Cond := [Cond.fieldLink RX7 41 "DyehouseLedgerModel" "weight" "[I", Cond.methodLink RX7 174 yX7_isNext, Cond.instanceMethod yX7_isNext, Cond.selects RX7 yX7_isNext yX7_isNext, Cond.code yX7_isNext cX7_isNext 6 (some .boolean), Cond.methodLink RX7 167 yX7_swap, Cond.instanceMethod yX7_swap, Cond.selects RX7 yX7_swap yX7_swap, Cond.code yX7_swap cX7_swap 4 none]
def wsX7_leastByAll : List Cond := .code yX7_leastByAll cX7_leastByAll 2 (some .int) :: ((wsX7_leastByAll_r1 ++ (wsX7_leastByAll_r2 ++ wsX7_leastByAll_r3)) ++ wsX70 ++ (vx_atM "java/lang/ArrayIndexOutOfBoundsException" ["java/lang/IndexOutOfBoundsException", "java/lang/RuntimeException", "java/lang/Exception"]).filter goodWord)
def wsX7_firstOf_r1 : List Cond := [Cond.fieldLink RX7 81 "DyehouseLedgerModel" "taken" "[I", Cond.methodLink RX7 133 yX7_noVat, Cond.instanceMethod yX7_noVat, Cond.selects RX7 yX7_noVat yX7_noVat, Cond.initialized RX7, Cond.code yX7_noVat cX7_noVat 2 (some .boolean), Cond.fieldLink RX7 95 "DyehouseLedgerModel" "vats" "I", Cond.fieldLink RX7 84 "DyehouseLedgerModel" "thrown" "I", Cond.methodLink RX7 88 yX7_isIn, Cond.static yX7_isIn, Cond.code yX7_isIn cX7_isIn 3 (some .boolean), Cond.methodLink RX7 161 yX7_inPlan, Cond.instanceMethod yX7_inPlan, Cond.selects RX7 yX7_inPlan yX7_inPlan, Cond.code yX7_inPlan cX7_inPlan 4 (some .int), Cond.fieldLink RX7 92 "DyehouseLedgerModel" "lots" "I", Cond.fieldLink RX7 56 "DyehouseLedgerModel" "plan" "[I", Cond.methodLink RX7 104 yX7_refuse, Cond.instanceMethod yX7_refuse, Cond.selects RX7 yX7_refuse yX7_refuse, Cond.code yX7_refuse cX7_refuse 2 (some .int), Cond.methodLink RX7 177 yX7_least, Cond.instanceMethod yX7_least, Cond.selects RX7 yX7_least yX7_least]
def wsX7_firstOf_r2 : List Cond := [Cond.code yX7_least cX7_least 5 (some .int), Cond.fieldLink RX7 78 "DyehouseLedgerModel" "row" "[I", Cond.methodLink RX7 164 yX7_lotAt, Cond.instanceMethod yX7_lotAt, Cond.selects RX7 yX7_lotAt yX7_lotAt, Cond.code yX7_lotAt cX7_lotAt 5 (some .int), Cond.methodLink RX7 171 yX7_lasts, Cond.instanceMethod yX7_lasts, Cond.selects RX7 yX7_lasts yX7_lasts, Cond.code yX7_lasts cX7_lasts 8 (some .int), Cond.fieldLink RX7 66 "DyehouseLedgerModel" "light" "[I", Cond.fieldLink RX7 69 "DyehouseLedgerModel" "barred" "[I", Cond.fieldLink RX7 23 "DyehouseLedgerModel" "customer" "[I", Cond.fieldLink RX7 38 "DyehouseLedgerModel" "order" "[I", Cond.methodLink RX7 130 yX7_lightOf, Cond.instanceMethod yX7_lightOf, Cond.selects RX7 yX7_lightOf yX7_lightOf, Cond.code yX7_lightOf cX7_lightOf 2 (some .int), Cond.fieldLink RX7 7 "DyehouseLedgerModel" "shade" "[I", Cond.fieldLink RX7 26 "DyehouseLedgerModel" "recipe" "[I", Cond.methodLink RX7 127 yX7_hours, Cond.instanceMethod yX7_hours, Cond.selects RX7 yX7_hours yX7_hours, Cond.code yX7_hours cX7_hours 2 (some .int)]
def wsX7_firstOf_r3 : List Cond := [Cond.fieldLink RX7 41 "DyehouseLedgerModel" "weight" "[I", Cond.methodLink RX7 174 yX7_isNext, Cond.instanceMethod yX7_isNext, Cond.selects RX7 yX7_isNext yX7_isNext, Cond.code yX7_isNext cX7_isNext 6 (some .boolean), Cond.methodLink RX7 167 yX7_swap, Cond.instanceMethod yX7_swap, Cond.selects RX7 yX7_swap yX7_swap, Cond.code yX7_swap cX7_swap 4 none]
def wsX7_firstOf : List Cond := .code yX7_firstOf cX7_firstOf 3 (some .int) :: ((wsX7_firstOf_r1 ++ (wsX7_firstOf_r2 ++ wsX7_firstOf_r3)) ++ wsX70 ++ (vx_atM "java/lang/ArrayIndexOutOfBoundsException" ["java/lang/IndexOutOfBoundsException", "java/lang/RuntimeException", "java/lang/Exception"]).filter goodWord)
def wsX7_recipes : List Cond := .code yX7_recipes cX7_recipes 1 (some .int) :: ([.fieldLink RX7 108 "DyehouseLedgerModel" "recipes" "I"] ++ wsX70)
def wsX7_lots : List Cond := .code yX7_lots cX7_lots 1 (some .int) :: ([.fieldLink RX7 92 "DyehouseLedgerModel" "lots" "I"] ++ wsX70)
def wsX7_stateOf : List Cond := .code yX7_stateOf cX7_stateOf 2 (some .char) :: ([.fieldLink RX7 59 "DyehouseLedgerModel" "state" "[C", .methodLink RX7 120 yX7_noLot, .instanceMethod yX7_noLot, .selects RX7 yX7_noLot yX7_noLot, .initialized RX7, .code yX7_noLot cX7_noLot 2 (some .boolean), .fieldLink RX7 92 "DyehouseLedgerModel" "lots" "I", .fieldLink RX7 84 "DyehouseLedgerModel" "thrown" "I", .methodLink RX7 88 yX7_isIn, .static yX7_isIn, .code yX7_isIn cX7_isIn 3 (some .boolean)] ++ wsX70 ++ (vx_atM "java/lang/ArrayIndexOutOfBoundsException" ["java/lang/IndexOutOfBoundsException", "java/lang/RuntimeException", "java/lang/Exception"]).filter goodWord)
def wsX7_isWaiting : List Cond := .code yX7_isWaiting cX7_isWaiting 2 (some .boolean) :: ([.fieldLink RX7 59 "DyehouseLedgerModel" "state" "[C", .fieldLink RX7 84 "DyehouseLedgerModel" "thrown" "I", .methodLink RX7 120 yX7_noLot, .instanceMethod yX7_noLot, .selects RX7 yX7_noLot yX7_noLot, .initialized RX7, .code yX7_noLot cX7_noLot 2 (some .boolean), .fieldLink RX7 92 "DyehouseLedgerModel" "lots" "I", .methodLink RX7 88 yX7_isIn, .static yX7_isIn, .code yX7_isIn cX7_isIn 3 (some .boolean)] ++ wsX70 ++ (vx_atM "java/lang/ArrayIndexOutOfBoundsException" ["java/lang/IndexOutOfBoundsException", "java/lang/RuntimeException", "java/lang/Exception"]).filter goodWord)
def wsX7_shadeOf : List Cond := .code yX7_shadeOf cX7_shadeOf 3 (some .int) :: ([.fieldLink RX7 44 "DyehouseLedgerModel" "out" "[I", .methodLink RX7 183 yX7_isWaiting, .instanceMethod yX7_isWaiting, .selects RX7 yX7_isWaiting yX7_isWaiting, .initialized RX7, .code yX7_isWaiting cX7_isWaiting 2 (some .boolean), .fieldLink RX7 59 "DyehouseLedgerModel" "state" "[C", .fieldLink RX7 84 "DyehouseLedgerModel" "thrown" "I", .methodLink RX7 120 yX7_noLot, .instanceMethod yX7_noLot, .selects RX7 yX7_noLot yX7_noLot, .code yX7_noLot cX7_noLot 2 (some .boolean), .fieldLink RX7 92 "DyehouseLedgerModel" "lots" "I", .methodLink RX7 88 yX7_isIn, .static yX7_isIn, .code yX7_isIn cX7_isIn 3 (some .boolean), .methodLink RX7 104 yX7_refuse, .instanceMethod yX7_refuse, .selects RX7 yX7_refuse yX7_refuse, .code yX7_refuse cX7_refuse 2 (some .int)] ++ wsX70 ++ (vx_atM "java/lang/ArrayIndexOutOfBoundsException" ["java/lang/IndexOutOfBoundsException", "java/lang/RuntimeException", "java/lang/Exception"]).filter goodWord)
def wsX7_vatOf : List Cond := .code yX7_vatOf cX7_vatOf 2 (some .int) :: ([.fieldLink RX7 47 "DyehouseLedgerModel" "vat" "[I", .methodLink RX7 183 yX7_isWaiting, .instanceMethod yX7_isWaiting, .selects RX7 yX7_isWaiting yX7_isWaiting, .initialized RX7, .code yX7_isWaiting cX7_isWaiting 2 (some .boolean), .fieldLink RX7 59 "DyehouseLedgerModel" "state" "[C", .fieldLink RX7 84 "DyehouseLedgerModel" "thrown" "I", .methodLink RX7 120 yX7_noLot, .instanceMethod yX7_noLot, .selects RX7 yX7_noLot yX7_noLot, .code yX7_noLot cX7_noLot 2 (some .boolean), .fieldLink RX7 92 "DyehouseLedgerModel" "lots" "I", .methodLink RX7 88 yX7_isIn, .static yX7_isIn, .code yX7_isIn cX7_isIn 3 (some .boolean)] ++ wsX70 ++ (vx_atM "java/lang/ArrayIndexOutOfBoundsException" ["java/lang/IndexOutOfBoundsException", "java/lang/RuntimeException", "java/lang/Exception"]).filter goodWord)
def wsX7_offBy_r1 : List Cond := [Cond.methodLink RX7 183 yX7_isWaiting, Cond.instanceMethod yX7_isWaiting, Cond.selects RX7 yX7_isWaiting yX7_isWaiting, Cond.initialized RX7, Cond.code yX7_isWaiting cX7_isWaiting 2 (some .boolean), Cond.fieldLink RX7 59 "DyehouseLedgerModel" "state" "[C", Cond.fieldLink RX7 84 "DyehouseLedgerModel" "thrown" "I", Cond.methodLink RX7 120 yX7_noLot, Cond.instanceMethod yX7_noLot, Cond.selects RX7 yX7_noLot yX7_noLot, Cond.code yX7_noLot cX7_noLot 2 (some .boolean), Cond.fieldLink RX7 92 "DyehouseLedgerModel" "lots" "I", Cond.methodLink RX7 88 yX7_isIn, Cond.static yX7_isIn, Cond.code yX7_isIn cX7_isIn 3 (some .boolean), Cond.methodLink RX7 143 yX7_off, Cond.instanceMethod yX7_off, Cond.selects RX7 yX7_off yX7_off, Cond.code yX7_off cX7_off 3 (some .int), Cond.fieldLink RX7 26 "DyehouseLedgerModel" "recipe" "[I", Cond.fieldLink RX7 38 "DyehouseLedgerModel" "order" "[I", Cond.fieldLink RX7 44 "DyehouseLedgerModel" "out" "[I", Cond.fieldLink RX7 7 "DyehouseLedgerModel" "shade" "[I", Cond.methodLink RX7 140 yX7_gap]
def wsX7_offBy_r2 : List Cond := [Cond.static yX7_gap, Cond.code yX7_gap cX7_gap 2 (some .int)]
def wsX7_offBy : List Cond := .code yX7_offBy cX7_offBy 2 (some .int) :: ((wsX7_offBy_r1 ++ wsX7_offBy_r2) ++ wsX70 ++ (vx_atM "java/lang/ArrayIndexOutOfBoundsException" ["java/lang/IndexOutOfBoundsException", "java/lang/RuntimeException", "java/lang/Exception"]).filter goodWord)
def wsX7_distance : List Cond := .code yX7_distance cX7_distance 3 (some .int) :: ([.methodLink RX7 120 yX7_noLot, .instanceMethod yX7_noLot, .selects RX7 yX7_noLot yX7_noLot, .initialized RX7, .code yX7_noLot cX7_noLot 2 (some .boolean), .fieldLink RX7 92 "DyehouseLedgerModel" "lots" "I", .fieldLink RX7 84 "DyehouseLedgerModel" "thrown" "I", .methodLink RX7 88 yX7_isIn, .static yX7_isIn, .code yX7_isIn cX7_isIn 3 (some .boolean), .methodLink RX7 183 yX7_isWaiting, .instanceMethod yX7_isWaiting, .selects RX7 yX7_isWaiting yX7_isWaiting, .code yX7_isWaiting cX7_isWaiting 2 (some .boolean), .fieldLink RX7 59 "DyehouseLedgerModel" "state" "[C", .methodLink RX7 146 yX7_apart, .instanceMethod yX7_apart, .selects RX7 yX7_apart yX7_apart, .code yX7_apart cX7_apart 3 (some .int), .fieldLink RX7 44 "DyehouseLedgerModel" "out" "[I", .methodLink RX7 140 yX7_gap, .static yX7_gap, .code yX7_gap cX7_gap 2 (some .int)] ++ wsX70 ++ (vx_atM "java/lang/ArrayIndexOutOfBoundsException" ["java/lang/IndexOutOfBoundsException", "java/lang/RuntimeException", "java/lang/Exception"]).filter goodWord)
def wsX7_nearest_r1 : List Cond := [Cond.fieldLink RX7 92 "DyehouseLedgerModel" "lots" "I", Cond.fieldLink RX7 59 "DyehouseLedgerModel" "state" "[C", Cond.methodLink RX7 183 yX7_isWaiting, Cond.instanceMethod yX7_isWaiting, Cond.selects RX7 yX7_isWaiting yX7_isWaiting, Cond.initialized RX7, Cond.code yX7_isWaiting cX7_isWaiting 2 (some .boolean), Cond.fieldLink RX7 84 "DyehouseLedgerModel" "thrown" "I", Cond.methodLink RX7 120 yX7_noLot, Cond.instanceMethod yX7_noLot, Cond.selects RX7 yX7_noLot yX7_noLot, Cond.code yX7_noLot cX7_noLot 2 (some .boolean), Cond.methodLink RX7 88 yX7_isIn, Cond.static yX7_isIn, Cond.code yX7_isIn cX7_isIn 3 (some .boolean), Cond.methodLink RX7 146 yX7_apart, Cond.instanceMethod yX7_apart, Cond.selects RX7 yX7_apart yX7_apart, Cond.code yX7_apart cX7_apart 3 (some .int), Cond.fieldLink RX7 44 "DyehouseLedgerModel" "out" "[I", Cond.methodLink RX7 140 yX7_gap, Cond.static yX7_gap, Cond.code yX7_gap cX7_gap 2 (some .int), Cond.methodLink RX7 104 yX7_refuse]
def wsX7_nearest_r2 : List Cond := [Cond.instanceMethod yX7_refuse, Cond.selects RX7 yX7_refuse yX7_refuse, Cond.code yX7_refuse cX7_refuse 2 (some .int)]
def wsX7_nearest : List Cond := .code yX7_nearest cX7_nearest 4 (some .int) :: ((wsX7_nearest_r1 ++ wsX7_nearest_r2) ++ wsX70 ++ (vx_atM "java/lang/ArrayIndexOutOfBoundsException" ["java/lang/IndexOutOfBoundsException", "java/lang/RuntimeException", "java/lang/Exception"]).filter goodWord)
def wsX7_isAhead : List Cond := .code yX7_isAhead cX7_isAhead 6 (some .boolean) :: ([.fieldLink RX7 44 "DyehouseLedgerModel" "out" "[I"] ++ wsX70 ++ (vx_atM "java/lang/ArrayIndexOutOfBoundsException" ["java/lang/IndexOutOfBoundsException", "java/lang/RuntimeException", "java/lang/Exception"]).filter goodWord)
def wsX7_byLight : List Cond := .code yX7_byLight cX7_byLight 5 (some .int) :: ([.fieldLink RX7 92 "DyehouseLedgerModel" "lots" "I", .fieldLink RX7 59 "DyehouseLedgerModel" "state" "[C", .fieldLink RX7 84 "DyehouseLedgerModel" "thrown" "I", .methodLink RX7 186 yX7_isAhead, .instanceMethod yX7_isAhead, .selects RX7 yX7_isAhead yX7_isAhead, .initialized RX7, .code yX7_isAhead cX7_isAhead 6 (some .boolean), .fieldLink RX7 44 "DyehouseLedgerModel" "out" "[I", .methodLink RX7 104 yX7_refuse, .instanceMethod yX7_refuse, .selects RX7 yX7_refuse yX7_refuse, .code yX7_refuse cX7_refuse 2 (some .int)] ++ wsX70 ++ (vx_atM "java/lang/ArrayIndexOutOfBoundsException" ["java/lang/IndexOutOfBoundsException", "java/lang/RuntimeException", "java/lang/Exception"]).filter goodWord)
def wsX7_clock : List Cond := .code yX7_clock cX7_clock 2 (some .int) :: ([.fieldLink RX7 72 "DyehouseLedgerModel" "clock" "[I", .methodLink RX7 133 yX7_noVat, .instanceMethod yX7_noVat, .selects RX7 yX7_noVat yX7_noVat, .initialized RX7, .code yX7_noVat cX7_noVat 2 (some .boolean), .fieldLink RX7 95 "DyehouseLedgerModel" "vats" "I", .fieldLink RX7 84 "DyehouseLedgerModel" "thrown" "I", .methodLink RX7 88 yX7_isIn, .static yX7_isIn, .code yX7_isIn cX7_isIn 3 (some .boolean)] ++ wsX70 ++ (vx_atM "java/lang/ArrayIndexOutOfBoundsException" ["java/lang/IndexOutOfBoundsException", "java/lang/RuntimeException", "java/lang/Exception"]).filter goodWord)
def wsX7_cleanings : List Cond := .code yX7_cleanings cX7_cleanings 2 (some .int) :: ([.fieldLink RX7 75 "DyehouseLedgerModel" "cleanings" "[I", .methodLink RX7 133 yX7_noVat, .instanceMethod yX7_noVat, .selects RX7 yX7_noVat yX7_noVat, .initialized RX7, .code yX7_noVat cX7_noVat 2 (some .boolean), .fieldLink RX7 95 "DyehouseLedgerModel" "vats" "I", .fieldLink RX7 84 "DyehouseLedgerModel" "thrown" "I", .methodLink RX7 88 yX7_isIn, .static yX7_isIn, .code yX7_isIn cX7_isIn 3 (some .boolean)] ++ wsX70 ++ (vx_atM "java/lang/ArrayIndexOutOfBoundsException" ["java/lang/IndexOutOfBoundsException", "java/lang/RuntimeException", "java/lang/Exception"]).filter goodWord)
def wsX7_lightIn : List Cond := .code yX7_lightIn cX7_lightIn 2 (some .int) :: ([.fieldLink RX7 66 "DyehouseLedgerModel" "light" "[I", .methodLink RX7 133 yX7_noVat, .instanceMethod yX7_noVat, .selects RX7 yX7_noVat yX7_noVat, .initialized RX7, .code yX7_noVat cX7_noVat 2 (some .boolean), .fieldLink RX7 95 "DyehouseLedgerModel" "vats" "I", .fieldLink RX7 84 "DyehouseLedgerModel" "thrown" "I", .methodLink RX7 88 yX7_isIn, .static yX7_isIn, .code yX7_isIn cX7_isIn 3 (some .boolean), .methodLink RX7 104 yX7_refuse, .instanceMethod yX7_refuse, .selects RX7 yX7_refuse yX7_refuse, .code yX7_refuse cX7_refuse 2 (some .int)] ++ wsX70 ++ (vx_atM "java/lang/ArrayIndexOutOfBoundsException" ["java/lang/IndexOutOfBoundsException", "java/lang/RuntimeException", "java/lang/Exception"]).filter goodWord)
def wsX7_customerOf : List Cond := .code yX7_customerOf cX7_customerOf 2 (some .int) :: ([.fieldLink RX7 69 "DyehouseLedgerModel" "barred" "[I", .methodLink RX7 133 yX7_noVat, .instanceMethod yX7_noVat, .selects RX7 yX7_noVat yX7_noVat, .initialized RX7, .code yX7_noVat cX7_noVat 2 (some .boolean), .fieldLink RX7 95 "DyehouseLedgerModel" "vats" "I", .fieldLink RX7 84 "DyehouseLedgerModel" "thrown" "I", .methodLink RX7 88 yX7_isIn, .static yX7_isIn, .code yX7_isIn cX7_isIn 3 (some .boolean), .methodLink RX7 104 yX7_refuse, .instanceMethod yX7_refuse, .selects RX7 yX7_refuse yX7_refuse, .code yX7_refuse cX7_refuse 2 (some .int)] ++ wsX70 ++ (vx_atM "java/lang/ArrayIndexOutOfBoundsException" ["java/lang/IndexOutOfBoundsException", "java/lang/RuntimeException", "java/lang/Exception"]).filter goodWord)
def wsX7_lotsOf : List Cond := .code yX7_lotsOf cX7_lotsOf 4 (some .int) :: ([.fieldLink RX7 92 "DyehouseLedgerModel" "lots" "I", .fieldLink RX7 38 "DyehouseLedgerModel" "order" "[I", .methodLink RX7 117 yX7_noOrder, .instanceMethod yX7_noOrder, .selects RX7 yX7_noOrder yX7_noOrder, .initialized RX7, .code yX7_noOrder cX7_noOrder 2 (some .boolean), .fieldLink RX7 98 "DyehouseLedgerModel" "orders" "I", .fieldLink RX7 84 "DyehouseLedgerModel" "thrown" "I", .methodLink RX7 88 yX7_isIn, .static yX7_isIn, .code yX7_isIn cX7_isIn 3 (some .boolean)] ++ wsX70 ++ (vx_atM "java/lang/ArrayIndexOutOfBoundsException" ["java/lang/IndexOutOfBoundsException", "java/lang/RuntimeException", "java/lang/Exception"]).filter goodWord)
def wsX7_passedOf : List Cond := .code yX7_passedOf cX7_passedOf 4 (some .int) :: ([.fieldLink RX7 92 "DyehouseLedgerModel" "lots" "I", .fieldLink RX7 38 "DyehouseLedgerModel" "order" "[I", .fieldLink RX7 59 "DyehouseLedgerModel" "state" "[C", .methodLink RX7 117 yX7_noOrder, .instanceMethod yX7_noOrder, .selects RX7 yX7_noOrder yX7_noOrder, .initialized RX7, .code yX7_noOrder cX7_noOrder 2 (some .boolean), .fieldLink RX7 98 "DyehouseLedgerModel" "orders" "I", .fieldLink RX7 84 "DyehouseLedgerModel" "thrown" "I", .methodLink RX7 88 yX7_isIn, .static yX7_isIn, .code yX7_isIn cX7_isIn 3 (some .boolean)] ++ wsX70 ++ (vx_atM "java/lang/ArrayIndexOutOfBoundsException" ["java/lang/IndexOutOfBoundsException", "java/lang/RuntimeException", "java/lang/Exception"]).filter goodWord)
def wsX7_spread : List Cond := .code yX7_spread cX7_spread 5 (some .int) :: ([.fieldLink RX7 92 "DyehouseLedgerModel" "lots" "I", .fieldLink RX7 38 "DyehouseLedgerModel" "order" "[I", .fieldLink RX7 59 "DyehouseLedgerModel" "state" "[C", .methodLink RX7 117 yX7_noOrder, .instanceMethod yX7_noOrder, .selects RX7 yX7_noOrder yX7_noOrder, .initialized RX7, .code yX7_noOrder cX7_noOrder 2 (some .boolean), .fieldLink RX7 98 "DyehouseLedgerModel" "orders" "I", .fieldLink RX7 84 "DyehouseLedgerModel" "thrown" "I", .methodLink RX7 88 yX7_isIn, .static yX7_isIn, .code yX7_isIn cX7_isIn 3 (some .boolean), .methodLink RX7 146 yX7_apart, .instanceMethod yX7_apart, .selects RX7 yX7_apart yX7_apart, .code yX7_apart cX7_apart 3 (some .int), .fieldLink RX7 44 "DyehouseLedgerModel" "out" "[I", .methodLink RX7 140 yX7_gap, .static yX7_gap, .code yX7_gap cX7_gap 2 (some .int)] ++ wsX70 ++ (vx_atM "java/lang/ArrayIndexOutOfBoundsException" ["java/lang/IndexOutOfBoundsException", "java/lang/RuntimeException", "java/lang/Exception"]).filter goodWord)
def wsX7_late : List Cond := .code yX7_late cX7_late 4 (some .int) :: ([.fieldLink RX7 92 "DyehouseLedgerModel" "lots" "I", .fieldLink RX7 38 "DyehouseLedgerModel" "order" "[I", .fieldLink RX7 59 "DyehouseLedgerModel" "state" "[C", .fieldLink RX7 50 "DyehouseLedgerModel" "at" "[I", .fieldLink RX7 32 "DyehouseLedgerModel" "day" "[I"] ++ wsX70 ++ (vx_atM "java/lang/ArrayIndexOutOfBoundsException" ["java/lang/IndexOutOfBoundsException", "java/lang/RuntimeException", "java/lang/Exception"]).filter goodWord)
def wsX7_lateBy : List Cond := .code yX7_lateBy cX7_lateBy 2 (some .int) :: ([.methodLink RX7 117 yX7_noOrder, .instanceMethod yX7_noOrder, .selects RX7 yX7_noOrder yX7_noOrder, .initialized RX7, .code yX7_noOrder cX7_noOrder 2 (some .boolean), .fieldLink RX7 98 "DyehouseLedgerModel" "orders" "I", .fieldLink RX7 84 "DyehouseLedgerModel" "thrown" "I", .methodLink RX7 88 yX7_isIn, .static yX7_isIn, .code yX7_isIn cX7_isIn 3 (some .boolean), .methodLink RX7 190 yX7_late, .instanceMethod yX7_late, .selects RX7 yX7_late yX7_late, .code yX7_late cX7_late 4 (some .int), .fieldLink RX7 92 "DyehouseLedgerModel" "lots" "I", .fieldLink RX7 38 "DyehouseLedgerModel" "order" "[I", .fieldLink RX7 59 "DyehouseLedgerModel" "state" "[C", .fieldLink RX7 50 "DyehouseLedgerModel" "at" "[I", .fieldLink RX7 32 "DyehouseLedgerModel" "day" "[I"] ++ wsX70 ++ (vx_atM "java/lang/ArrayIndexOutOfBoundsException" ["java/lang/IndexOutOfBoundsException", "java/lang/RuntimeException", "java/lang/Exception"]).filter goodWord)
def wsX7_worth : List Cond := .code yX7_worth cX7_worth 4 (some .int) :: ([.fieldLink RX7 92 "DyehouseLedgerModel" "lots" "I", .fieldLink RX7 38 "DyehouseLedgerModel" "order" "[I", .fieldLink RX7 59 "DyehouseLedgerModel" "state" "[C", .fieldLink RX7 41 "DyehouseLedgerModel" "weight" "[I", .fieldLink RX7 35 "DyehouseLedgerModel" "price" "[I", .methodLink RX7 190 yX7_late, .instanceMethod yX7_late, .selects RX7 yX7_late yX7_late, .initialized RX7, .code yX7_late cX7_late 4 (some .int), .fieldLink RX7 50 "DyehouseLedgerModel" "at" "[I", .fieldLink RX7 32 "DyehouseLedgerModel" "day" "[I"] ++ wsX70 ++ (vx_atM "java/lang/ArrayIndexOutOfBoundsException" ["java/lang/IndexOutOfBoundsException", "java/lang/RuntimeException", "java/lang/Exception"]).filter goodWord)
def wsX7_due_r1 : List Cond := [Cond.methodLink RX7 117 yX7_noOrder, Cond.instanceMethod yX7_noOrder, Cond.selects RX7 yX7_noOrder yX7_noOrder, Cond.initialized RX7, Cond.code yX7_noOrder cX7_noOrder 2 (some .boolean), Cond.fieldLink RX7 98 "DyehouseLedgerModel" "orders" "I", Cond.fieldLink RX7 84 "DyehouseLedgerModel" "thrown" "I", Cond.methodLink RX7 88 yX7_isIn, Cond.static yX7_isIn, Cond.code yX7_isIn cX7_isIn 3 (some .boolean), Cond.methodLink RX7 193 yX7_worth, Cond.instanceMethod yX7_worth, Cond.selects RX7 yX7_worth yX7_worth, Cond.code yX7_worth cX7_worth 4 (some .int), Cond.fieldLink RX7 92 "DyehouseLedgerModel" "lots" "I", Cond.fieldLink RX7 38 "DyehouseLedgerModel" "order" "[I", Cond.fieldLink RX7 59 "DyehouseLedgerModel" "state" "[C", Cond.fieldLink RX7 41 "DyehouseLedgerModel" "weight" "[I", Cond.fieldLink RX7 35 "DyehouseLedgerModel" "price" "[I", Cond.methodLink RX7 190 yX7_late, Cond.instanceMethod yX7_late, Cond.selects RX7 yX7_late yX7_late, Cond.code yX7_late cX7_late 4 (some .int), Cond.fieldLink RX7 50 "DyehouseLedgerModel" "at" "[I"]
def wsX7_due_r2 : List Cond := [Cond.fieldLink RX7 32 "DyehouseLedgerModel" "day" "[I"]
def wsX7_due : List Cond := .code yX7_due cX7_due 2 (some .int) :: ((wsX7_due_r1 ++ wsX7_due_r2) ++ wsX70 ++ (vx_atM "java/lang/ArrayIndexOutOfBoundsException" ["java/lang/IndexOutOfBoundsException", "java/lang/RuntimeException", "java/lang/Exception"]).filter goodWord)
def wsX7_dues : List Cond := .code yX7_dues cX7_dues 5 (some .long) :: ([.fieldLink RX7 84 "DyehouseLedgerModel" "thrown" "I", .fieldLink RX7 98 "DyehouseLedgerModel" "orders" "I", .fieldLink RX7 23 "DyehouseLedgerModel" "customer" "[I", .methodLink RX7 88 yX7_isIn, .static yX7_isIn, .initialized RX7, .code yX7_isIn cX7_isIn 3 (some .boolean), .methodLink RX7 193 yX7_worth, .instanceMethod yX7_worth, .selects RX7 yX7_worth yX7_worth, .code yX7_worth cX7_worth 4 (some .int), .fieldLink RX7 92 "DyehouseLedgerModel" "lots" "I", .fieldLink RX7 38 "DyehouseLedgerModel" "order" "[I", .fieldLink RX7 59 "DyehouseLedgerModel" "state" "[C", .fieldLink RX7 41 "DyehouseLedgerModel" "weight" "[I", .fieldLink RX7 35 "DyehouseLedgerModel" "price" "[I", .methodLink RX7 190 yX7_late, .instanceMethod yX7_late, .selects RX7 yX7_late yX7_late, .code yX7_late cX7_late 4 (some .int), .fieldLink RX7 50 "DyehouseLedgerModel" "at" "[I", .fieldLink RX7 32 "DyehouseLedgerModel" "day" "[I"] ++ wsX70 ++ (vx_atM "java/lang/ArrayIndexOutOfBoundsException" ["java/lang/IndexOutOfBoundsException", "java/lang/RuntimeException", "java/lang/Exception"]).filter goodWord)
def wsX7_used : List Cond := .code yX7_used cX7_used 2 (some .long) :: ([.fieldLink RX7 19 "DyehouseLedgerModel" "used" "[J", .methodLink RX7 113 yX7_noDye, .instanceMethod yX7_noDye, .selects RX7 yX7_noDye yX7_noDye, .initialized RX7, .code yX7_noDye cX7_noDye 2 (some .boolean), .fieldLink RX7 84 "DyehouseLedgerModel" "thrown" "I", .methodLink RX7 88 yX7_isIn, .static yX7_isIn, .code yX7_isIn cX7_isIn 3 (some .boolean)] ++ wsX70 ++ (vx_atM "java/lang/ArrayIndexOutOfBoundsException" ["java/lang/IndexOutOfBoundsException", "java/lang/RuntimeException", "java/lang/Exception"]).filter goodWord)
def wsX7_passedShare : List Cond := .code yX7_passedShare cX7_passedShare 4 (some .float) :: ([.fieldLink RX7 92 "DyehouseLedgerModel" "lots" "I", .fieldLink RX7 59 "DyehouseLedgerModel" "state" "[C", .fieldLink RX7 84 "DyehouseLedgerModel" "thrown" "I"] ++ wsX70 ++ (vx_atM "java/lang/ArrayIndexOutOfBoundsException" ["java/lang/IndexOutOfBoundsException", "java/lang/RuntimeException", "java/lang/Exception"]).filter goodWord)
def wsX7_meanOff : List Cond := .code yX7_meanOff cX7_meanOff 4 (some .double) :: ([.fieldLink RX7 92 "DyehouseLedgerModel" "lots" "I", .fieldLink RX7 59 "DyehouseLedgerModel" "state" "[C", .fieldLink RX7 84 "DyehouseLedgerModel" "thrown" "I", .methodLink RX7 143 yX7_off, .instanceMethod yX7_off, .selects RX7 yX7_off yX7_off, .initialized RX7, .code yX7_off cX7_off 3 (some .int), .fieldLink RX7 26 "DyehouseLedgerModel" "recipe" "[I", .fieldLink RX7 38 "DyehouseLedgerModel" "order" "[I", .fieldLink RX7 44 "DyehouseLedgerModel" "out" "[I", .fieldLink RX7 7 "DyehouseLedgerModel" "shade" "[I", .methodLink RX7 140 yX7_gap, .static yX7_gap, .code yX7_gap cX7_gap 2 (some .int)] ++ wsX70 ++ (vx_atM "java/lang/ArrayIndexOutOfBoundsException" ["java/lang/IndexOutOfBoundsException", "java/lang/RuntimeException", "java/lang/Exception"]).filter goodWord)
def wsJx00060_init_a7421 : List Cond := .code yJx00060_init_a7421 cJx00060_init_a7421 2 none :: ([])
def wsJ9_abs_0f7a4 : List Cond := .code yJ9_abs_0f7a4 cJ9_abs_0f7a4 1 (some .int) :: ([])
def wsJ9_max_7cf53 : List Cond := .code yJ9_max_7cf53 cJ9_max_7cf53 2 (some .int) :: ([])
def wsJ9_min_7cf53 : List Cond := .code yJ9_min_7cf53 cJ9_min_7cf53 2 (some .int) :: ([])
def wsL_addRecipe_r1 : List Cond := [Cond.classLink RL 13 "java/lang/IllegalArgumentException", Cond.classLink RL 15 "java/lang/IllegalStateException", Cond.methodLink RL 7 yX6_addRecipe, Cond.instanceMethod yX6_addRecipe, Cond.selects RX6 yX6_addRecipe yX6_addRecipe, Cond.initialized RX6, Cond.code yX6_addRecipe cX6_addRecipe 4 (some .int), Cond.classLink RX6 56 "java/lang/IllegalStateException", Cond.initialized "java/lang/IllegalStateException", Cond.fieldLink RX6 52 "DyehouseLedger" "recipeCount" "I", Cond.fieldLink RX6 11 "DyehouseLedger" "allRecipes" "[LDyehouseLedger$Recipe;", Cond.classLink RX6 9 RX3, Cond.instantiable RX3 2, Cond.initialized RX3, Cond.classLink RX6 59 RX4, Cond.instantiable RX4 3, Cond.initialized RX4, Cond.methodLink RX6 48 yX6_checkShade, Cond.static yX6_checkShade, Cond.code yX6_checkShade cX6_checkShade 3 none, Cond.methodLink RX6 74 yX6_checkRange, Cond.static yX6_checkRange, Cond.code yX6_checkRange cX6_checkRange 3 none, Cond.classLink RX6 266 "java/lang/IllegalArgumentException"]
def wsL_addRecipe_r2 : List Cond := [Cond.initialized "java/lang/IllegalArgumentException", Cond.methodLink RX6 61 yX4_init, Cond.instanceMethod yX4_init, Cond.code yX4_init cX4_init 4 none, Cond.methodLink RX4 1 objectInit, Cond.instanceMethod objectInit, Cond.code objectInit ⟨#[0xb1]⟩ 1 none, Cond.fieldLink RX4 7 "DyehouseLedger$Shade" "light" "I", Cond.fieldLink RX4 13 "DyehouseLedger$Shade" "red" "I", Cond.fieldLink RX4 16 "DyehouseLedger$Shade" "blue" "I", Cond.methodLink RX6 63 yX3_init, Cond.instanceMethod yX3_init, Cond.code yX3_init cX3_init 2 none, Cond.methodLink RX3 3 objectInit, Cond.fieldLink RX3 9 "DyehouseLedger$Recipe" "shade" "LDyehouseLedger$Shade;", Cond.arrayClass .int, Cond.fieldLink RX3 15 "DyehouseLedger$Recipe" "grams" "[I"]
def wsL_addRecipe : List Cond := .codeWith yL_addRecipe cL_addRecipe 6 (some .int) [(0, 12, 15, 13), (0, 12, 19, 15)] :: ((wsL_addRecipe_r1 ++ wsL_addRecipe_r2) ++ wsX60 ++ wsX30 ++ wsX40 ++ (vx_atM "java/lang/ArrayIndexOutOfBoundsException" ["java/lang/IndexOutOfBoundsException", "java/lang/RuntimeException", "java/lang/Exception"]).filter goodWord ++ (vx_at0 RX6 58 "java/lang/IllegalStateException" ["java/lang/RuntimeException", "java/lang/Exception"]).filter goodWord ++ (vx_at0 RX6 268 "java/lang/IllegalArgumentException" ["java/lang/RuntimeException", "java/lang/Exception"]).filter goodWord)
def wsL_setDye : List Cond := .codeWith yL_setDye cL_setDye 6 (some .int) [(0, 12, 15, 20), (0, 12, 19, 13)] :: ([.classLink RL 20 "java/util/NoSuchElementException", .classLink RL 13 "java/lang/IllegalArgumentException", .methodLink RL 17 yX6_setDye, .instanceMethod yX6_setDye, .selects RX6 yX6_setDye yX6_setDye, .initialized RX6, .code yX6_setDye cX6_setDye 6 (some .int), .fieldLink RX6 77 "DyehouseLedger$Recipe" "grams" "[I", .methodLink RX6 66 yX6_recipeNumbered, .instanceMethod yX6_recipeNumbered, .selects RX6 yX6_recipeNumbered yX6_recipeNumbered, .code yX6_recipeNumbered cX6_recipeNumbered 3 (some (.object "DyehouseLedger$Recipe")), .classLink RX6 269 "java/util/NoSuchElementException", .initialized "java/util/NoSuchElementException", .fieldLink RX6 11 "DyehouseLedger" "allRecipes" "[LDyehouseLedger$Recipe;", .methodLink RX6 70 yX6_checkDye, .static yX6_checkDye, .code yX6_checkDye cX6_checkDye 1 none, .methodLink RX6 74 yX6_checkRange, .static yX6_checkRange, .code yX6_checkRange cX6_checkRange 3 none, .classLink RX6 266 "java/lang/IllegalArgumentException", .initialized "java/lang/IllegalArgumentException"] ++ wsX30 ++ wsX60 ++ (vx_atM "java/lang/ArrayIndexOutOfBoundsException" ["java/lang/IndexOutOfBoundsException", "java/lang/RuntimeException", "java/lang/Exception"]).filter goodWord ++ (vx_at0 RX6 271 "java/util/NoSuchElementException" ["java/lang/RuntimeException", "java/lang/Exception"]).filter goodWord ++ (vx_at0 RX6 268 "java/lang/IllegalArgumentException" ["java/lang/RuntimeException", "java/lang/Exception"]).filter goodWord)
def wsL_supply : List Cond := .codeWith yL_supply cL_supply 5 (some .int) [(0, 10, 13, 13), (0, 10, 17, 15)] :: ([.classLink RL 13 "java/lang/IllegalArgumentException", .classLink RL 15 "java/lang/IllegalStateException", .methodLink RL 22 yX6_supply, .instanceMethod yX6_supply, .selects RX6 yX6_supply yX6_supply, .initialized RX6, .code yX6_supply cX6_supply 3 (some .int), .classLink RX6 56 "java/lang/IllegalStateException", .initialized "java/lang/IllegalStateException", .constant RX6 80 (99999), .fieldLink RX6 33 "DyehouseLedger" "gramsInStock" "[I", .constant RX6 81 (9999999), .methodLink RX6 70 yX6_checkDye, .static yX6_checkDye, .code yX6_checkDye cX6_checkDye 1 none, .methodLink RX6 74 yX6_checkRange, .static yX6_checkRange, .code yX6_checkRange cX6_checkRange 3 none, .classLink RX6 266 "java/lang/IllegalArgumentException", .initialized "java/lang/IllegalArgumentException"] ++ wsX60 ++ (vx_atM "java/lang/ArrayIndexOutOfBoundsException" ["java/lang/IndexOutOfBoundsException", "java/lang/RuntimeException", "java/lang/Exception"]).filter goodWord ++ (vx_at0 RX6 58 "java/lang/IllegalStateException" ["java/lang/RuntimeException", "java/lang/Exception"]).filter goodWord ++ (vx_at0 RX6 268 "java/lang/IllegalArgumentException" ["java/lang/RuntimeException", "java/lang/Exception"]).filter goodWord)
def wsL_stock : List Cond := .codeWith yL_stock cL_stock 4 (some .int) [(0, 9, 12, 13)] :: ([.classLink RL 13 "java/lang/IllegalArgumentException", .methodLink RL 26 yX6_stock, .instanceMethod yX6_stock, .selects RX6 yX6_stock yX6_stock, .initialized RX6, .code yX6_stock cX6_stock 2 (some .int), .fieldLink RX6 33 "DyehouseLedger" "gramsInStock" "[I", .methodLink RX6 70 yX6_checkDye, .static yX6_checkDye, .code yX6_checkDye cX6_checkDye 1 none, .methodLink RX6 74 yX6_checkRange, .static yX6_checkRange, .code yX6_checkRange cX6_checkRange 3 none, .classLink RX6 266 "java/lang/IllegalArgumentException", .initialized "java/lang/IllegalArgumentException"] ++ wsX60 ++ (vx_atM "java/lang/ArrayIndexOutOfBoundsException" ["java/lang/IndexOutOfBoundsException", "java/lang/RuntimeException", "java/lang/Exception"]).filter goodWord ++ (vx_at0 RX6 268 "java/lang/IllegalArgumentException" ["java/lang/RuntimeException", "java/lang/Exception"]).filter goodWord)
def wsL_addOrder_r1 : List Cond := [Cond.classLink RL 20 "java/util/NoSuchElementException", Cond.classLink RL 13 "java/lang/IllegalArgumentException", Cond.classLink RL 15 "java/lang/IllegalStateException", Cond.methodLink RL 30 yX6_addOrder, Cond.instanceMethod yX6_addOrder, Cond.selects RX6 yX6_addOrder yX6_addOrder, Cond.initialized RX6, Cond.code yX6_addOrder cX6_addOrder 7 (some .int), Cond.classLink RX6 56 "java/lang/IllegalStateException", Cond.initialized "java/lang/IllegalStateException", Cond.fieldLink RX6 85 "DyehouseLedger" "orderCount" "I", Cond.fieldLink RX6 17 "DyehouseLedger" "allOrders" "[LDyehouseLedger$Order;", Cond.classLink RX6 15 RX1, Cond.instantiable RX1 5, Cond.initialized RX1, Cond.methodLink RX6 66 yX6_recipeNumbered, Cond.instanceMethod yX6_recipeNumbered, Cond.selects RX6 yX6_recipeNumbered yX6_recipeNumbered, Cond.code yX6_recipeNumbered cX6_recipeNumbered 3 (some (.object "DyehouseLedger$Recipe")), Cond.classLink RX6 269 "java/util/NoSuchElementException", Cond.initialized "java/util/NoSuchElementException", Cond.fieldLink RX6 11 "DyehouseLedger" "allRecipes" "[LDyehouseLedger$Recipe;", Cond.methodLink RX6 82 yX6_checkCustomer, Cond.static yX6_checkCustomer]
def wsL_addOrder_r2 : List Cond := [Cond.code yX6_checkCustomer cX6_checkCustomer 1 none, Cond.methodLink RX6 74 yX6_checkRange, Cond.static yX6_checkRange, Cond.code yX6_checkRange cX6_checkRange 3 none, Cond.classLink RX6 266 "java/lang/IllegalArgumentException", Cond.initialized "java/lang/IllegalArgumentException", Cond.methodLink RX6 88 yX1_init, Cond.instanceMethod yX1_init, Cond.code yX1_init cX1_init 6 none, Cond.methodLink RX1 1 objectInit, Cond.instanceMethod objectInit, Cond.code objectInit ⟨#[0xb1]⟩ 1 none, Cond.fieldLink RX1 7 "DyehouseLedger$Order" "customer" "I", Cond.fieldLink RX1 13 "DyehouseLedger$Order" "recipe" "LDyehouseLedger$Recipe;", Cond.fieldLink RX1 17 "DyehouseLedger$Order" "bound" "I", Cond.fieldLink RX1 20 "DyehouseLedger$Order" "day" "I", Cond.fieldLink RX1 23 "DyehouseLedger$Order" "price" "I"]
def wsL_addOrder : List Cond := .codeWith yL_addOrder cL_addOrder 8 (some .int) [(0, 16, 19, 20), (0, 16, 23, 13), (0, 16, 27, 15)] :: ((wsL_addOrder_r1 ++ wsL_addOrder_r2) ++ wsX60 ++ wsX10 ++ (vx_atM "java/lang/ArrayIndexOutOfBoundsException" ["java/lang/IndexOutOfBoundsException", "java/lang/RuntimeException", "java/lang/Exception"]).filter goodWord ++ (vx_at0 RX6 58 "java/lang/IllegalStateException" ["java/lang/RuntimeException", "java/lang/Exception"]).filter goodWord ++ (vx_at0 RX6 271 "java/util/NoSuchElementException" ["java/lang/RuntimeException", "java/lang/Exception"]).filter goodWord ++ (vx_at0 RX6 268 "java/lang/IllegalArgumentException" ["java/lang/RuntimeException", "java/lang/Exception"]).filter goodWord)
def wsL_addLot_r1 : List Cond := [Cond.classLink RL 20 "java/util/NoSuchElementException", Cond.classLink RL 13 "java/lang/IllegalArgumentException", Cond.classLink RL 15 "java/lang/IllegalStateException", Cond.methodLink RL 34 yX6_addLot, Cond.instanceMethod yX6_addLot, Cond.selects RX6 yX6_addLot yX6_addLot, Cond.initialized RX6, Cond.code yX6_addLot cX6_addLot 4 (some .int), Cond.classLink RX6 56 "java/lang/IllegalStateException", Cond.initialized "java/lang/IllegalStateException", Cond.fieldLink RX6 95 "DyehouseLedger" "lotCount" "I", Cond.fieldLink RX6 23 "DyehouseLedger" "allLots" "[LDyehouseLedger$Lot;", Cond.classLink RX6 21 RX0, Cond.instantiable RX0 9, Cond.initialized RX0, Cond.methodLink RX6 91 yX6_orderNumbered, Cond.instanceMethod yX6_orderNumbered, Cond.selects RX6 yX6_orderNumbered yX6_orderNumbered, Cond.code yX6_orderNumbered cX6_orderNumbered 3 (some (.object "DyehouseLedger$Order")), Cond.classLink RX6 269 "java/util/NoSuchElementException", Cond.initialized "java/util/NoSuchElementException", Cond.fieldLink RX6 17 "DyehouseLedger" "allOrders" "[LDyehouseLedger$Order;", Cond.methodLink RX6 74 yX6_checkRange, Cond.static yX6_checkRange]
def wsL_addLot_r2 : List Cond := [Cond.code yX6_checkRange cX6_checkRange 3 none, Cond.classLink RX6 266 "java/lang/IllegalArgumentException", Cond.initialized "java/lang/IllegalArgumentException", Cond.methodLink RX6 98 yX0_init, Cond.instanceMethod yX0_init, Cond.code yX0_init cX0_init 4 none, Cond.methodLink RX0 3 objectInit, Cond.instanceMethod objectInit, Cond.code objectInit ⟨#[0xb1]⟩ 1 none, Cond.fieldLink RX0 9 "DyehouseLedger$Lot" "number" "I", Cond.fieldLink RX0 15 "DyehouseLedger$Lot" "order" "LDyehouseLedger$Order;", Cond.fieldLink RX0 19 "DyehouseLedger$Lot" "weight" "I", Cond.classLink RX0 22 RX4, Cond.instantiable RX4 3, Cond.initialized RX4, Cond.fieldLink RX0 27 "DyehouseLedger$Lot" "shade" "LDyehouseLedger$Shade;", Cond.fieldLink RX0 31 "DyehouseLedger$Lot" "state" "C", Cond.methodLink RX0 24 yX4_init, Cond.instanceMethod yX4_init, Cond.code yX4_init cX4_init 4 none, Cond.methodLink RX4 1 objectInit, Cond.fieldLink RX4 7 "DyehouseLedger$Shade" "light" "I", Cond.fieldLink RX4 13 "DyehouseLedger$Shade" "red" "I", Cond.fieldLink RX4 16 "DyehouseLedger$Shade" "blue" "I"]
def wsL_addLot : List Cond := .codeWith yL_addLot cL_addLot 5 (some .int) [(0, 10, 13, 20), (0, 10, 17, 13), (0, 10, 21, 15)] :: ((wsL_addLot_r1 ++ wsL_addLot_r2) ++ wsX60 ++ wsX00 ++ wsX40 ++ (vx_atM "java/lang/ArrayIndexOutOfBoundsException" ["java/lang/IndexOutOfBoundsException", "java/lang/RuntimeException", "java/lang/Exception"]).filter goodWord ++ (vx_at0 RX6 58 "java/lang/IllegalStateException" ["java/lang/RuntimeException", "java/lang/Exception"]).filter goodWord ++ (vx_at0 RX6 271 "java/util/NoSuchElementException" ["java/lang/RuntimeException", "java/lang/Exception"]).filter goodWord ++ (vx_at0 RX6 268 "java/lang/IllegalArgumentException" ["java/lang/RuntimeException", "java/lang/Exception"]).filter goodWord)
def wsL_addVat_r1 : List Cond := [Cond.classLink RL 13 "java/lang/IllegalArgumentException", Cond.classLink RL 15 "java/lang/IllegalStateException", Cond.methodLink RL 37 yX6_addVat, Cond.instanceMethod yX6_addVat, Cond.selects RX6 yX6_addVat yX6_addVat, Cond.initialized RX6, Cond.code yX6_addVat cX6_addVat 2 (some .int), Cond.classLink RX6 56 "java/lang/IllegalStateException", Cond.initialized "java/lang/IllegalStateException", Cond.fieldLink RX6 101 "DyehouseLedger" "vatCount" "I", Cond.fieldLink RX6 29 "DyehouseLedger" "allVats" "[LDyehouseLedger$Vat;", Cond.classLink RX6 27 RX5, Cond.instantiable RX5 6, Cond.initialized RX5, Cond.methodLink RX6 74 yX6_checkRange, Cond.static yX6_checkRange, Cond.code yX6_checkRange cX6_checkRange 3 none, Cond.classLink RX6 266 "java/lang/IllegalArgumentException", Cond.initialized "java/lang/IllegalArgumentException", Cond.methodLink RX6 104 yX5_init, Cond.instanceMethod yX5_init, Cond.code yX5_init cX5_init 3 none, Cond.methodLink RX5 3 objectInit, Cond.instanceMethod objectInit]
def wsL_addVat_r2 : List Cond := [Cond.code objectInit ⟨#[0xb1]⟩ 1 none, Cond.fieldLink RX5 9 "DyehouseLedger$Vat" "number" "I", Cond.fieldLink RX5 15 "DyehouseLedger$Vat" "mostWeight" "I", Cond.fieldLink RX5 18 "DyehouseLedger$Vat" "light" "I", Cond.fieldLink RX5 21 "DyehouseLedger$Vat" "onlyCustomer" "I"]
def wsL_addVat : List Cond := .codeWith yL_addVat cL_addVat 4 (some .int) [(0, 9, 12, 13), (0, 9, 15, 15)] :: ((wsL_addVat_r1 ++ wsL_addVat_r2) ++ wsX60 ++ wsX50 ++ (vx_atM "java/lang/ArrayIndexOutOfBoundsException" ["java/lang/IndexOutOfBoundsException", "java/lang/RuntimeException", "java/lang/Exception"]).filter goodWord ++ (vx_at0 RX6 58 "java/lang/IllegalStateException" ["java/lang/RuntimeException", "java/lang/Exception"]).filter goodWord ++ (vx_at0 RX6 268 "java/lang/IllegalArgumentException" ["java/lang/RuntimeException", "java/lang/Exception"]).filter goodWord)
def wsL_needs_r1 : List Cond := [Cond.classLink RL 20 "java/util/NoSuchElementException", Cond.classLink RL 13 "java/lang/IllegalArgumentException", Cond.methodLink RL 40 yX6_needs, Cond.instanceMethod yX6_needs, Cond.selects RX6 yX6_needs yX6_needs, Cond.initialized RX6, Cond.code yX6_needs cX6_needs 4 (some .int), Cond.methodLink RX6 107 yX6_lotNumbered, Cond.instanceMethod yX6_lotNumbered, Cond.selects RX6 yX6_lotNumbered yX6_lotNumbered, Cond.code yX6_lotNumbered cX6_lotNumbered 3 (some (.object "DyehouseLedger$Lot")), Cond.classLink RX6 269 "java/util/NoSuchElementException", Cond.initialized "java/util/NoSuchElementException", Cond.fieldLink RX6 23 "DyehouseLedger" "allLots" "[LDyehouseLedger$Lot;", Cond.methodLink RX6 70 yX6_checkDye, Cond.static yX6_checkDye, Cond.code yX6_checkDye cX6_checkDye 1 none, Cond.methodLink RX6 74 yX6_checkRange, Cond.static yX6_checkRange, Cond.code yX6_checkRange cX6_checkRange 3 none, Cond.classLink RX6 266 "java/lang/IllegalArgumentException", Cond.initialized "java/lang/IllegalArgumentException", Cond.methodLink RX6 111 yX0_gramsNeeded, Cond.instanceMethod yX0_gramsNeeded]
def wsL_needs_r2 : List Cond := [Cond.selects RX0 yX0_gramsNeeded yX0_gramsNeeded, Cond.initialized RX0, Cond.code yX0_gramsNeeded cX0_gramsNeeded 2 (some .int), Cond.fieldLink RX0 15 "DyehouseLedger$Lot" "order" "LDyehouseLedger$Order;", Cond.fieldLink RX0 35 "DyehouseLedger$Order" "recipe" "LDyehouseLedger$Recipe;", Cond.fieldLink RX0 41 "DyehouseLedger$Recipe" "grams" "[I", Cond.fieldLink RX0 19 "DyehouseLedger$Lot" "weight" "I"]
def wsL_needs : List Cond := .codeWith yL_needs cL_needs 5 (some .int) [(0, 10, 13, 20), (0, 10, 17, 13)] :: ((wsL_needs_r1 ++ wsL_needs_r2) ++ wsX60 ++ wsX00 ++ wsX10 ++ wsX30 ++ (vx_atM "java/lang/ArrayIndexOutOfBoundsException" ["java/lang/IndexOutOfBoundsException", "java/lang/RuntimeException", "java/lang/Exception"]).filter goodWord ++ (vx_at0 RX6 271 "java/util/NoSuchElementException" ["java/lang/RuntimeException", "java/lang/Exception"]).filter goodWord ++ (vx_at0 RX6 268 "java/lang/IllegalArgumentException" ["java/lang/RuntimeException", "java/lang/Exception"]).filter goodWord)
def wsL_hoursFor : List Cond := .codeWith yL_hoursFor cL_hoursFor 4 (some .int) [(0, 9, 12, 20)] :: ([.classLink RL 20 "java/util/NoSuchElementException", .methodLink RL 43 yX6_hoursFor, .instanceMethod yX6_hoursFor, .selects RX6 yX6_hoursFor yX6_hoursFor, .initialized RX6, .code yX6_hoursFor cX6_hoursFor 2 (some .int), .methodLink RX6 107 yX6_lotNumbered, .instanceMethod yX6_lotNumbered, .selects RX6 yX6_lotNumbered yX6_lotNumbered, .code yX6_lotNumbered cX6_lotNumbered 3 (some (.object "DyehouseLedger$Lot")), .classLink RX6 269 "java/util/NoSuchElementException", .initialized "java/util/NoSuchElementException", .fieldLink RX6 23 "DyehouseLedger" "allLots" "[LDyehouseLedger$Lot;", .methodLink RX6 115 yX0_dyeingHours, .instanceMethod yX0_dyeingHours, .selects RX0 yX0_dyeingHours yX0_dyeingHours, .initialized RX0, .code yX0_dyeingHours cX0_dyeingHours 1 (some .int), .fieldLink RX0 19 "DyehouseLedger$Lot" "weight" "I"] ++ wsX60 ++ wsX00 ++ (vx_atM "java/lang/ArrayIndexOutOfBoundsException" ["java/lang/IndexOutOfBoundsException", "java/lang/RuntimeException", "java/lang/Exception"]).filter goodWord ++ (vx_at0 RX6 271 "java/util/NoSuchElementException" ["java/lang/RuntimeException", "java/lang/Exception"]).filter goodWord)
def wsL_reason_r1 : List Cond := [Cond.classLink RL 20 "java/util/NoSuchElementException", Cond.methodLink RL 46 yX6_reason, Cond.instanceMethod yX6_reason, Cond.selects RX6 yX6_reason yX6_reason, Cond.initialized RX6, Cond.code yX6_reason cX6_reason 4 (some .char), Cond.methodLink RX6 107 yX6_lotNumbered, Cond.instanceMethod yX6_lotNumbered, Cond.selects RX6 yX6_lotNumbered yX6_lotNumbered, Cond.code yX6_lotNumbered cX6_lotNumbered 3 (some (.object "DyehouseLedger$Lot")), Cond.classLink RX6 269 "java/util/NoSuchElementException", Cond.initialized "java/util/NoSuchElementException", Cond.fieldLink RX6 23 "DyehouseLedger" "allLots" "[LDyehouseLedger$Lot;", Cond.methodLink RX6 119 yX6_vatNumbered, Cond.instanceMethod yX6_vatNumbered, Cond.selects RX6 yX6_vatNumbered yX6_vatNumbered, Cond.code yX6_vatNumbered cX6_vatNumbered 3 (some (.object "DyehouseLedger$Vat")), Cond.fieldLink RX6 29 "DyehouseLedger" "allVats" "[LDyehouseLedger$Vat;", Cond.methodLink RX6 123 yX6_reasonAgainst, Cond.instanceMethod yX6_reasonAgainst, Cond.selects RX6 yX6_reasonAgainst yX6_reasonAgainst, Cond.code yX6_reasonAgainst cX6_reasonAgainst 3 (some .char), Cond.fieldLink RX6 147 "DyehouseLedger$Lot" "state" "C", Cond.fieldLink RX6 188 "DyehouseLedger$Lot" "weight" "I"]
def wsL_reason_r2 : List Cond := [Cond.fieldLink RX6 191 "DyehouseLedger$Vat" "mostWeight" "I", Cond.fieldLink RX6 134 "DyehouseLedger$Vat" "light" "I", Cond.fieldLink RX6 236 "DyehouseLedger$Lot" "order" "LDyehouseLedger$Order;", Cond.fieldLink RX6 272 "DyehouseLedger$Order" "recipe" "LDyehouseLedger$Recipe;", Cond.fieldLink RX6 276 "DyehouseLedger$Recipe" "shade" "LDyehouseLedger$Shade;", Cond.fieldLink RX6 218 "DyehouseLedger$Shade" "light" "I", Cond.fieldLink RX6 167 "DyehouseLedger$Vat" "onlyCustomer" "I", Cond.fieldLink RX6 260 "DyehouseLedger$Order" "customer" "I", Cond.methodLink RX6 277 yX6_isTooDark, Cond.static yX6_isTooDark, Cond.code yX6_isTooDark cX6_isTooDark 2 (some .boolean), Cond.methodLink RX6 281 yX6_isBarred, Cond.static yX6_isBarred, Cond.code yX6_isBarred cX6_isBarred 2 (some .boolean), Cond.methodLink RX6 284 yX6_isStocked, Cond.instanceMethod yX6_isStocked, Cond.selects RX6 yX6_isStocked yX6_isStocked, Cond.code yX6_isStocked cX6_isStocked 3 (some .boolean), Cond.fieldLink RX6 33 "DyehouseLedger" "gramsInStock" "[I", Cond.methodLink RX6 111 yX0_gramsNeeded, Cond.instanceMethod yX0_gramsNeeded, Cond.selects RX0 yX0_gramsNeeded yX0_gramsNeeded, Cond.initialized RX0, Cond.code yX0_gramsNeeded cX0_gramsNeeded 2 (some .int)]
def wsL_reason_r3 : List Cond := [Cond.fieldLink RX0 15 "DyehouseLedger$Lot" "order" "LDyehouseLedger$Order;", Cond.fieldLink RX0 35 "DyehouseLedger$Order" "recipe" "LDyehouseLedger$Recipe;", Cond.fieldLink RX0 41 "DyehouseLedger$Recipe" "grams" "[I", Cond.fieldLink RX0 19 "DyehouseLedger$Lot" "weight" "I"]
def wsL_reason : List Cond := .codeWith yL_reason cL_reason 5 (some .int) [(0, 10, 13, 20)] :: ((wsL_reason_r1 ++ (wsL_reason_r2 ++ wsL_reason_r3)) ++ wsX60 ++ wsX00 ++ wsX50 ++ wsX10 ++ wsX30 ++ wsX40 ++ (vx_atM "java/lang/ArrayIndexOutOfBoundsException" ["java/lang/IndexOutOfBoundsException", "java/lang/RuntimeException", "java/lang/Exception"]).filter goodWord ++ (vx_at0 RX6 271 "java/util/NoSuchElementException" ["java/lang/RuntimeException", "java/lang/Exception"]).filter goodWord)
def wsL_dye_r1 : List Cond := [Cond.classLink RL 20 "java/util/NoSuchElementException", Cond.classLink RL 13 "java/lang/IllegalArgumentException", Cond.classLink RL 53 "java/lang/UnsupportedOperationException", Cond.methodLink RL 50 yX6_dye, Cond.instanceMethod yX6_dye, Cond.selects RX6 yX6_dye yX6_dye, Cond.initialized RX6, Cond.code yX6_dye cX6_dye 8 (some .int), Cond.classLink RX6 127 "java/lang/UnsupportedOperationException", Cond.initialized "java/lang/UnsupportedOperationException", Cond.fieldLink RX6 134 "DyehouseLedger$Vat" "light" "I", Cond.fieldLink RX6 137 "DyehouseLedger$Vat" "clock" "I", Cond.fieldLink RX6 140 "DyehouseLedger$Lot" "shade" "LDyehouseLedger$Shade;", Cond.fieldLink RX6 147 "DyehouseLedger$Lot" "state" "C", Cond.fieldLink RX6 151 "DyehouseLedger$Lot" "vat" "LDyehouseLedger$Vat;", Cond.fieldLink RX6 155 "DyehouseLedger$Lot" "clockThen" "I", Cond.fieldLink RX6 158 "DyehouseLedger$Vat" "cleanings" "I", Cond.fieldLink RX6 161 "DyehouseLedger$Lot" "cleaningsThen" "I", Cond.fieldLink RX6 164 "DyehouseLedger$Lot" "plannedFor" "LDyehouseLedger$Vat;", Cond.methodLink RX6 107 yX6_lotNumbered, Cond.instanceMethod yX6_lotNumbered, Cond.selects RX6 yX6_lotNumbered yX6_lotNumbered, Cond.code yX6_lotNumbered cX6_lotNumbered 3 (some (.object "DyehouseLedger$Lot")), Cond.classLink RX6 269 "java/util/NoSuchElementException"]
def wsL_dye_r2 : List Cond := [Cond.initialized "java/util/NoSuchElementException", Cond.fieldLink RX6 23 "DyehouseLedger" "allLots" "[LDyehouseLedger$Lot;", Cond.methodLink RX6 119 yX6_vatNumbered, Cond.instanceMethod yX6_vatNumbered, Cond.selects RX6 yX6_vatNumbered yX6_vatNumbered, Cond.code yX6_vatNumbered cX6_vatNumbered 3 (some (.object "DyehouseLedger$Vat")), Cond.fieldLink RX6 29 "DyehouseLedger" "allVats" "[LDyehouseLedger$Vat;", Cond.methodLink RX6 48 yX6_checkShade, Cond.static yX6_checkShade, Cond.code yX6_checkShade cX6_checkShade 3 none, Cond.methodLink RX6 74 yX6_checkRange, Cond.static yX6_checkRange, Cond.code yX6_checkRange cX6_checkRange 3 none, Cond.classLink RX6 266 "java/lang/IllegalArgumentException", Cond.initialized "java/lang/IllegalArgumentException", Cond.methodLink RX6 123 yX6_reasonAgainst, Cond.instanceMethod yX6_reasonAgainst, Cond.selects RX6 yX6_reasonAgainst yX6_reasonAgainst, Cond.code yX6_reasonAgainst cX6_reasonAgainst 3 (some .char), Cond.fieldLink RX6 188 "DyehouseLedger$Lot" "weight" "I", Cond.fieldLink RX6 191 "DyehouseLedger$Vat" "mostWeight" "I", Cond.fieldLink RX6 236 "DyehouseLedger$Lot" "order" "LDyehouseLedger$Order;", Cond.fieldLink RX6 272 "DyehouseLedger$Order" "recipe" "LDyehouseLedger$Recipe;", Cond.fieldLink RX6 276 "DyehouseLedger$Recipe" "shade" "LDyehouseLedger$Shade;"]
def wsL_dye_r3 : List Cond := [Cond.fieldLink RX6 218 "DyehouseLedger$Shade" "light" "I", Cond.fieldLink RX6 167 "DyehouseLedger$Vat" "onlyCustomer" "I", Cond.fieldLink RX6 260 "DyehouseLedger$Order" "customer" "I", Cond.methodLink RX6 277 yX6_isTooDark, Cond.static yX6_isTooDark, Cond.code yX6_isTooDark cX6_isTooDark 2 (some .boolean), Cond.methodLink RX6 281 yX6_isBarred, Cond.static yX6_isBarred, Cond.code yX6_isBarred cX6_isBarred 2 (some .boolean), Cond.methodLink RX6 284 yX6_isStocked, Cond.instanceMethod yX6_isStocked, Cond.selects RX6 yX6_isStocked yX6_isStocked, Cond.code yX6_isStocked cX6_isStocked 3 (some .boolean), Cond.fieldLink RX6 33 "DyehouseLedger" "gramsInStock" "[I", Cond.methodLink RX6 111 yX0_gramsNeeded, Cond.instanceMethod yX0_gramsNeeded, Cond.selects RX0 yX0_gramsNeeded yX0_gramsNeeded, Cond.initialized RX0, Cond.code yX0_gramsNeeded cX0_gramsNeeded 2 (some .int), Cond.fieldLink RX0 15 "DyehouseLedger$Lot" "order" "LDyehouseLedger$Order;", Cond.fieldLink RX0 35 "DyehouseLedger$Order" "recipe" "LDyehouseLedger$Recipe;", Cond.fieldLink RX0 41 "DyehouseLedger$Recipe" "grams" "[I", Cond.fieldLink RX0 19 "DyehouseLedger$Lot" "weight" "I", Cond.methodLink RX6 130 yX6_takeDyesFor]
def wsL_dye_r4 : List Cond := [Cond.instanceMethod yX6_takeDyesFor, Cond.selects RX6 yX6_takeDyesFor yX6_takeDyesFor, Cond.code yX6_takeDyesFor cX6_takeDyesFor 4 none, Cond.fieldLink RX6 37 "DyehouseLedger" "gramsUsed" "[J", Cond.methodLink RX6 115 yX0_dyeingHours, Cond.instanceMethod yX0_dyeingHours, Cond.selects RX0 yX0_dyeingHours yX0_dyeingHours, Cond.code yX0_dyeingHours cX0_dyeingHours 1 (some .int), Cond.methodLink RX6 144 yX4_set, Cond.instanceMethod yX4_set, Cond.selects RX4 yX4_set yX4_set, Cond.initialized RX4, Cond.code yX4_set cX4_set 4 none, Cond.fieldLink RX4 7 "DyehouseLedger$Shade" "light" "I", Cond.fieldLink RX4 13 "DyehouseLedger$Shade" "red" "I", Cond.fieldLink RX4 16 "DyehouseLedger$Shade" "blue" "I"]
def wsL_dye : List Cond := .codeWith yL_dye cL_dye 8 (some .int) [(0, 16, 19, 20), (0, 16, 23, 13), (0, 16, 27, 53)] :: ((wsL_dye_r1 ++ (wsL_dye_r2 ++ (wsL_dye_r3 ++ wsL_dye_r4))) ++ wsX50 ++ wsX00 ++ wsX60 ++ wsX10 ++ wsX30 ++ wsX40 ++ (vx_atM "java/lang/ArrayIndexOutOfBoundsException" ["java/lang/IndexOutOfBoundsException", "java/lang/RuntimeException", "java/lang/Exception"]).filter goodWord ++ (vx_at0 RX6 129 "java/lang/UnsupportedOperationException" ["java/lang/RuntimeException", "java/lang/Exception"]).filter goodWord ++ (vx_at0 RX6 271 "java/util/NoSuchElementException" ["java/lang/RuntimeException", "java/lang/Exception"]).filter goodWord ++ (vx_at0 RX6 268 "java/lang/IllegalArgumentException" ["java/lang/RuntimeException", "java/lang/Exception"]).filter goodWord)
def wsL_clean : List Cond := .codeWith yL_clean cL_clean 4 (some .int) [(0, 9, 12, 20)] :: ([.classLink RL 20 "java/util/NoSuchElementException", .methodLink RL 55 yX6_clean, .instanceMethod yX6_clean, .selects RX6 yX6_clean yX6_clean, .initialized RX6, .code yX6_clean cX6_clean 3 (some .int), .fieldLink RX6 134 "DyehouseLedger$Vat" "light" "I", .fieldLink RX6 167 "DyehouseLedger$Vat" "onlyCustomer" "I", .fieldLink RX6 158 "DyehouseLedger$Vat" "cleanings" "I", .fieldLink RX6 137 "DyehouseLedger$Vat" "clock" "I", .methodLink RX6 119 yX6_vatNumbered, .instanceMethod yX6_vatNumbered, .selects RX6 yX6_vatNumbered yX6_vatNumbered, .code yX6_vatNumbered cX6_vatNumbered 3 (some (.object "DyehouseLedger$Vat")), .classLink RX6 269 "java/util/NoSuchElementException", .initialized "java/util/NoSuchElementException", .fieldLink RX6 29 "DyehouseLedger" "allVats" "[LDyehouseLedger$Vat;"] ++ wsX50 ++ wsX60 ++ (vx_atM "java/lang/ArrayIndexOutOfBoundsException" ["java/lang/IndexOutOfBoundsException", "java/lang/RuntimeException", "java/lang/Exception"]).filter goodWord ++ (vx_at0 RX6 271 "java/util/NoSuchElementException" ["java/lang/RuntimeException", "java/lang/Exception"]).filter goodWord)
def wsL_verdict_r1 : List Cond := [Cond.classLink RL 20 "java/util/NoSuchElementException", Cond.classLink RL 15 "java/lang/IllegalStateException", Cond.methodLink RL 58 yX6_verdict, Cond.instanceMethod yX6_verdict, Cond.selects RX6 yX6_verdict yX6_verdict, Cond.initialized RX6, Cond.code yX6_verdict cX6_verdict 2 (some .char), Cond.methodLink RX6 170 yX6_dyedLotNumbered, Cond.instanceMethod yX6_dyedLotNumbered, Cond.selects RX6 yX6_dyedLotNumbered yX6_dyedLotNumbered, Cond.code yX6_dyedLotNumbered cX6_dyedLotNumbered 3 (some (.object "DyehouseLedger$Lot")), Cond.classLink RX6 56 "java/lang/IllegalStateException", Cond.initialized "java/lang/IllegalStateException", Cond.fieldLink RX6 147 "DyehouseLedger$Lot" "state" "C", Cond.methodLink RX6 107 yX6_lotNumbered, Cond.instanceMethod yX6_lotNumbered, Cond.selects RX6 yX6_lotNumbered yX6_lotNumbered, Cond.code yX6_lotNumbered cX6_lotNumbered 3 (some (.object "DyehouseLedger$Lot")), Cond.classLink RX6 269 "java/util/NoSuchElementException", Cond.initialized "java/util/NoSuchElementException", Cond.fieldLink RX6 23 "DyehouseLedger" "allLots" "[LDyehouseLedger$Lot;", Cond.methodLink RX6 173 yX6_verdictOn, Cond.instanceMethod yX6_verdictOn, Cond.selects RX6 yX6_verdictOn yX6_verdictOn]
def wsL_verdict_r2 : List Cond := [Cond.code yX6_verdictOn cX6_verdictOn 2 (some .char), Cond.fieldLink RX6 236 "DyehouseLedger$Lot" "order" "LDyehouseLedger$Order;", Cond.fieldLink RX6 288 "DyehouseLedger$Order" "bound" "I", Cond.methodLink RX6 225 yX0_distanceFromRecipe, Cond.instanceMethod yX0_distanceFromRecipe, Cond.selects RX0 yX0_distanceFromRecipe yX0_distanceFromRecipe, Cond.initialized RX0, Cond.code yX0_distanceFromRecipe cX0_distanceFromRecipe 1 (some .int), Cond.fieldLink RX0 27 "DyehouseLedger$Lot" "shade" "LDyehouseLedger$Shade;", Cond.fieldLink RX0 15 "DyehouseLedger$Lot" "order" "LDyehouseLedger$Order;", Cond.fieldLink RX0 35 "DyehouseLedger$Order" "recipe" "LDyehouseLedger$Recipe;", Cond.fieldLink RX0 47 "DyehouseLedger$Recipe" "shade" "LDyehouseLedger$Shade;", Cond.methodLink RX0 48 yX4_distanceTo, Cond.instanceMethod yX4_distanceTo, Cond.selects RX4 yX4_distanceTo yX4_distanceTo, Cond.initialized RX4, Cond.code yX4_distanceTo cX4_distanceTo 2 (some .int), Cond.fieldLink RX4 7 "DyehouseLedger$Shade" "light" "I", Cond.methodLink RX4 19 Lib.Math.abs.name, Cond.static Lib.Math.abs.name, Cond.initialized "java/lang/Math", Cond.code Lib.Math.abs.name Lib.Math.abs.code 1 (some .int), Cond.fieldLink RX4 13 "DyehouseLedger$Shade" "red" "I", Cond.fieldLink RX4 16 "DyehouseLedger$Shade" "blue" "I"]
def wsL_verdict_r3 : List Cond := [Cond.methodLink RX6 244 yX6_greatestDistanceFromPassed, Cond.instanceMethod yX6_greatestDistanceFromPassed, Cond.selects RX6 yX6_greatestDistanceFromPassed yX6_greatestDistanceFromPassed, Cond.code yX6_greatestDistanceFromPassed cX6_greatestDistanceFromPassed 7 (some .int), Cond.fieldLink RX6 140 "DyehouseLedger$Lot" "shade" "LDyehouseLedger$Shade;", Cond.methodLink RX6 247 Lib.Math.max.name, Cond.static Lib.Math.max.name, Cond.code Lib.Math.max.name Lib.Math.max.code 2 (some .int), Cond.methodLink RX6 240 yX0_isPassedOf, Cond.instanceMethod yX0_isPassedOf, Cond.selects RX0 yX0_isPassedOf yX0_isPassedOf, Cond.code yX0_isPassedOf cX0_isPassedOf 2 (some .boolean), Cond.fieldLink RX0 31 "DyehouseLedger$Lot" "state" "C", Cond.methodLink RX6 228 yX4_distanceTo]
def wsL_verdict : List Cond := .codeWith yL_verdict cL_verdict 4 (some .int) [(0, 9, 12, 20), (0, 9, 15, 15)] :: ((wsL_verdict_r1 ++ (wsL_verdict_r2 ++ wsL_verdict_r3)) ++ wsX00 ++ wsX60 ++ wsX10 ++ wsX30 ++ wsX40 ++ (vx_atM "java/lang/ArrayIndexOutOfBoundsException" ["java/lang/IndexOutOfBoundsException", "java/lang/RuntimeException", "java/lang/Exception"]).filter goodWord ++ (vx_at0 RX6 58 "java/lang/IllegalStateException" ["java/lang/RuntimeException", "java/lang/Exception"]).filter goodWord ++ (vx_at0 RX6 271 "java/util/NoSuchElementException" ["java/lang/RuntimeException", "java/lang/Exception"]).filter goodWord)
def wsL_judge_r1 : List Cond := [Cond.classLink RL 20 "java/util/NoSuchElementException", Cond.classLink RL 15 "java/lang/IllegalStateException", Cond.methodLink RL 62 yX6_judge, Cond.instanceMethod yX6_judge, Cond.selects RX6 yX6_judge yX6_judge, Cond.initialized RX6, Cond.code yX6_judge cX6_judge 3 (some .boolean), Cond.fieldLink RX6 147 "DyehouseLedger$Lot" "state" "C", Cond.methodLink RX6 170 yX6_dyedLotNumbered, Cond.instanceMethod yX6_dyedLotNumbered, Cond.selects RX6 yX6_dyedLotNumbered yX6_dyedLotNumbered, Cond.code yX6_dyedLotNumbered cX6_dyedLotNumbered 3 (some (.object "DyehouseLedger$Lot")), Cond.classLink RX6 56 "java/lang/IllegalStateException", Cond.initialized "java/lang/IllegalStateException", Cond.methodLink RX6 107 yX6_lotNumbered, Cond.instanceMethod yX6_lotNumbered, Cond.selects RX6 yX6_lotNumbered yX6_lotNumbered, Cond.code yX6_lotNumbered cX6_lotNumbered 3 (some (.object "DyehouseLedger$Lot")), Cond.classLink RX6 269 "java/util/NoSuchElementException", Cond.initialized "java/util/NoSuchElementException", Cond.fieldLink RX6 23 "DyehouseLedger" "allLots" "[LDyehouseLedger$Lot;", Cond.methodLink RX6 173 yX6_verdictOn, Cond.instanceMethod yX6_verdictOn, Cond.selects RX6 yX6_verdictOn yX6_verdictOn]
def wsL_judge_r2 : List Cond := [Cond.code yX6_verdictOn cX6_verdictOn 2 (some .char), Cond.fieldLink RX6 236 "DyehouseLedger$Lot" "order" "LDyehouseLedger$Order;", Cond.fieldLink RX6 288 "DyehouseLedger$Order" "bound" "I", Cond.methodLink RX6 225 yX0_distanceFromRecipe, Cond.instanceMethod yX0_distanceFromRecipe, Cond.selects RX0 yX0_distanceFromRecipe yX0_distanceFromRecipe, Cond.initialized RX0, Cond.code yX0_distanceFromRecipe cX0_distanceFromRecipe 1 (some .int), Cond.fieldLink RX0 27 "DyehouseLedger$Lot" "shade" "LDyehouseLedger$Shade;", Cond.fieldLink RX0 15 "DyehouseLedger$Lot" "order" "LDyehouseLedger$Order;", Cond.fieldLink RX0 35 "DyehouseLedger$Order" "recipe" "LDyehouseLedger$Recipe;", Cond.fieldLink RX0 47 "DyehouseLedger$Recipe" "shade" "LDyehouseLedger$Shade;", Cond.methodLink RX0 48 yX4_distanceTo, Cond.instanceMethod yX4_distanceTo, Cond.selects RX4 yX4_distanceTo yX4_distanceTo, Cond.initialized RX4, Cond.code yX4_distanceTo cX4_distanceTo 2 (some .int), Cond.fieldLink RX4 7 "DyehouseLedger$Shade" "light" "I", Cond.methodLink RX4 19 Lib.Math.abs.name, Cond.static Lib.Math.abs.name, Cond.initialized "java/lang/Math", Cond.code Lib.Math.abs.name Lib.Math.abs.code 1 (some .int), Cond.fieldLink RX4 13 "DyehouseLedger$Shade" "red" "I", Cond.fieldLink RX4 16 "DyehouseLedger$Shade" "blue" "I"]
def wsL_judge_r3 : List Cond := [Cond.methodLink RX6 244 yX6_greatestDistanceFromPassed, Cond.instanceMethod yX6_greatestDistanceFromPassed, Cond.selects RX6 yX6_greatestDistanceFromPassed yX6_greatestDistanceFromPassed, Cond.code yX6_greatestDistanceFromPassed cX6_greatestDistanceFromPassed 7 (some .int), Cond.fieldLink RX6 140 "DyehouseLedger$Lot" "shade" "LDyehouseLedger$Shade;", Cond.methodLink RX6 247 Lib.Math.max.name, Cond.static Lib.Math.max.name, Cond.code Lib.Math.max.name Lib.Math.max.code 2 (some .int), Cond.methodLink RX6 240 yX0_isPassedOf, Cond.instanceMethod yX0_isPassedOf, Cond.selects RX0 yX0_isPassedOf yX0_isPassedOf, Cond.code yX0_isPassedOf cX0_isPassedOf 2 (some .boolean), Cond.fieldLink RX0 31 "DyehouseLedger$Lot" "state" "C", Cond.methodLink RX6 228 yX4_distanceTo, Cond.methodLink RX6 177 yX6_barVatOf, Cond.static yX6_barVatOf, Cond.code yX6_barVatOf cX6_barVatOf 2 none, Cond.fieldLink RX6 151 "DyehouseLedger$Lot" "vat" "LDyehouseLedger$Vat;", Cond.fieldLink RX6 158 "DyehouseLedger$Vat" "cleanings" "I", Cond.fieldLink RX6 161 "DyehouseLedger$Lot" "cleaningsThen" "I", Cond.fieldLink RX6 260 "DyehouseLedger$Order" "customer" "I", Cond.fieldLink RX6 167 "DyehouseLedger$Vat" "onlyCustomer" "I"]
def wsL_judge : List Cond := .codeWith yL_judge cL_judge 4 (some .int) [(0, 16, 19, 20), (0, 16, 22, 15)] :: ((wsL_judge_r1 ++ (wsL_judge_r2 ++ wsL_judge_r3)) ++ wsX00 ++ wsX60 ++ wsX10 ++ wsX30 ++ wsX40 ++ wsX50 ++ (vx_atM "java/lang/ArrayIndexOutOfBoundsException" ["java/lang/IndexOutOfBoundsException", "java/lang/RuntimeException", "java/lang/Exception"]).filter goodWord ++ (vx_at0 RX6 58 "java/lang/IllegalStateException" ["java/lang/RuntimeException", "java/lang/Exception"]).filter goodWord ++ (vx_at0 RX6 271 "java/util/NoSuchElementException" ["java/lang/RuntimeException", "java/lang/Exception"]).filter goodWord)
def wsL_again : List Cond := .codeWith yL_again cL_again 4 (some .int) [(0, 9, 12, 20), (0, 9, 15, 15)] :: ([.classLink RL 20 "java/util/NoSuchElementException", .classLink RL 15 "java/lang/IllegalStateException", .methodLink RL 66 yX6_again, .instanceMethod yX6_again, .selects RX6 yX6_again yX6_again, .initialized RX6, .code yX6_again cX6_again 3 (some .int), .classLink RX6 56 "java/lang/IllegalStateException", .initialized "java/lang/IllegalStateException", .fieldLink RX6 147 "DyehouseLedger$Lot" "state" "C", .fieldLink RX6 151 "DyehouseLedger$Lot" "vat" "LDyehouseLedger$Vat;", .methodLink RX6 107 yX6_lotNumbered, .instanceMethod yX6_lotNumbered, .selects RX6 yX6_lotNumbered yX6_lotNumbered, .code yX6_lotNumbered cX6_lotNumbered 3 (some (.object "DyehouseLedger$Lot")), .classLink RX6 269 "java/util/NoSuchElementException", .initialized "java/util/NoSuchElementException", .fieldLink RX6 23 "DyehouseLedger" "allLots" "[LDyehouseLedger$Lot;", .methodLink RX6 180 yX6_lotsInState, .instanceMethod yX6_lotsInState, .selects RX6 yX6_lotsInState yX6_lotsInState, .code yX6_lotsInState cX6_lotsInState 7 (some .int)] ++ wsX00 ++ wsX60 ++ (vx_atM "java/lang/ArrayIndexOutOfBoundsException" ["java/lang/IndexOutOfBoundsException", "java/lang/RuntimeException", "java/lang/Exception"]).filter goodWord ++ (vx_at0 RX6 58 "java/lang/IllegalStateException" ["java/lang/RuntimeException", "java/lang/Exception"]).filter goodWord ++ (vx_at0 RX6 271 "java/util/NoSuchElementException" ["java/lang/RuntimeException", "java/lang/Exception"]).filter goodWord)
def wsL_plan_r1 : List Cond := [Cond.classLink RL 20 "java/util/NoSuchElementException", Cond.classLink RL 15 "java/lang/IllegalStateException", Cond.classLink RL 53 "java/lang/UnsupportedOperationException", Cond.methodLink RL 69 yX6_plan, Cond.instanceMethod yX6_plan, Cond.selects RX6 yX6_plan yX6_plan, Cond.initialized RX6, Cond.code yX6_plan cX6_plan 6 (some .int), Cond.classLink RX6 56 "java/lang/IllegalStateException", Cond.initialized "java/lang/IllegalStateException", Cond.classLink RX6 127 "java/lang/UnsupportedOperationException", Cond.initialized "java/lang/UnsupportedOperationException", Cond.fieldLink RX6 147 "DyehouseLedger$Lot" "state" "C", Cond.fieldLink RX6 164 "DyehouseLedger$Lot" "plannedFor" "LDyehouseLedger$Vat;", Cond.fieldLink RX6 188 "DyehouseLedger$Lot" "weight" "I", Cond.fieldLink RX6 191 "DyehouseLedger$Vat" "mostWeight" "I", Cond.methodLink RX6 107 yX6_lotNumbered, Cond.instanceMethod yX6_lotNumbered, Cond.selects RX6 yX6_lotNumbered yX6_lotNumbered, Cond.code yX6_lotNumbered cX6_lotNumbered 3 (some (.object "DyehouseLedger$Lot")), Cond.classLink RX6 269 "java/util/NoSuchElementException", Cond.initialized "java/util/NoSuchElementException", Cond.fieldLink RX6 23 "DyehouseLedger" "allLots" "[LDyehouseLedger$Lot;", Cond.methodLink RX6 119 yX6_vatNumbered]
def wsL_plan_r2 : List Cond := [Cond.instanceMethod yX6_vatNumbered, Cond.selects RX6 yX6_vatNumbered yX6_vatNumbered, Cond.code yX6_vatNumbered cX6_vatNumbered 3 (some (.object "DyehouseLedger$Vat")), Cond.fieldLink RX6 29 "DyehouseLedger" "allVats" "[LDyehouseLedger$Vat;", Cond.methodLink RX6 184 yX6_plannedLots, Cond.instanceMethod yX6_plannedLots, Cond.selects RX6 yX6_plannedLots yX6_plannedLots, Cond.code yX6_plannedLots cX6_plannedLots 7 (some .int)]
def wsL_plan : List Cond := .codeWith yL_plan cL_plan 5 (some .int) [(0, 10, 13, 20), (0, 10, 17, 15), (0, 10, 21, 53)] :: ((wsL_plan_r1 ++ wsL_plan_r2) ++ wsX00 ++ wsX50 ++ wsX60 ++ (vx_atM "java/lang/ArrayIndexOutOfBoundsException" ["java/lang/IndexOutOfBoundsException", "java/lang/RuntimeException", "java/lang/Exception"]).filter goodWord ++ (vx_at0 RX6 58 "java/lang/IllegalStateException" ["java/lang/RuntimeException", "java/lang/Exception"]).filter goodWord ++ (vx_at0 RX6 129 "java/lang/UnsupportedOperationException" ["java/lang/RuntimeException", "java/lang/Exception"]).filter goodWord ++ (vx_at0 RX6 271 "java/util/NoSuchElementException" ["java/lang/RuntimeException", "java/lang/Exception"]).filter goodWord)
def wsL_unplan : List Cond := .codeWith yL_unplan cL_unplan 4 (some .int) [(0, 9, 12, 20), (0, 9, 15, 15)] :: ([.classLink RL 20 "java/util/NoSuchElementException", .classLink RL 15 "java/lang/IllegalStateException", .methodLink RL 72 yX6_unplan, .instanceMethod yX6_unplan, .selects RX6 yX6_unplan yX6_unplan, .initialized RX6, .code yX6_unplan cX6_unplan 4 (some .int), .classLink RX6 56 "java/lang/IllegalStateException", .initialized "java/lang/IllegalStateException", .fieldLink RX6 164 "DyehouseLedger$Lot" "plannedFor" "LDyehouseLedger$Vat;", .fieldLink RX6 194 "DyehouseLedger$Vat" "number" "I", .methodLink RX6 107 yX6_lotNumbered, .instanceMethod yX6_lotNumbered, .selects RX6 yX6_lotNumbered yX6_lotNumbered, .code yX6_lotNumbered cX6_lotNumbered 3 (some (.object "DyehouseLedger$Lot")), .classLink RX6 269 "java/util/NoSuchElementException", .initialized "java/util/NoSuchElementException", .fieldLink RX6 23 "DyehouseLedger" "allLots" "[LDyehouseLedger$Lot;"] ++ wsX00 ++ wsX50 ++ wsX60 ++ (vx_atM "java/lang/ArrayIndexOutOfBoundsException" ["java/lang/IndexOutOfBoundsException", "java/lang/RuntimeException", "java/lang/Exception"]).filter goodWord ++ (vx_at0 RX6 58 "java/lang/IllegalStateException" ["java/lang/RuntimeException", "java/lang/Exception"]).filter goodWord ++ (vx_at0 RX6 271 "java/util/NoSuchElementException" ["java/lang/RuntimeException", "java/lang/Exception"]).filter goodWord)
def wsL_planned : List Cond := .codeWith yL_planned cL_planned 4 (some .int) [(0, 9, 12, 20)] :: ([.classLink RL 20 "java/util/NoSuchElementException", .methodLink RL 75 yX6_planned, .instanceMethod yX6_planned, .selects RX6 yX6_planned yX6_planned, .initialized RX6, .code yX6_planned cX6_planned 2 (some .int), .methodLink RX6 119 yX6_vatNumbered, .instanceMethod yX6_vatNumbered, .selects RX6 yX6_vatNumbered yX6_vatNumbered, .code yX6_vatNumbered cX6_vatNumbered 3 (some (.object "DyehouseLedger$Vat")), .classLink RX6 269 "java/util/NoSuchElementException", .initialized "java/util/NoSuchElementException", .fieldLink RX6 29 "DyehouseLedger" "allVats" "[LDyehouseLedger$Vat;", .methodLink RX6 184 yX6_plannedLots, .instanceMethod yX6_plannedLots, .selects RX6 yX6_plannedLots yX6_plannedLots, .code yX6_plannedLots cX6_plannedLots 7 (some .int), .fieldLink RX6 23 "DyehouseLedger" "allLots" "[LDyehouseLedger$Lot;", .fieldLink RX6 164 "DyehouseLedger$Lot" "plannedFor" "LDyehouseLedger$Vat;"] ++ wsX60 ++ wsX00 ++ (vx_atM "java/lang/ArrayIndexOutOfBoundsException" ["java/lang/IndexOutOfBoundsException", "java/lang/RuntimeException", "java/lang/Exception"]).filter goodWord ++ (vx_at0 RX6 271 "java/util/NoSuchElementException" ["java/lang/RuntimeException", "java/lang/Exception"]).filter goodWord)
def wsL_plannedAt : List Cond := .codeWith yL_plannedAt cL_plannedAt 5 (some .int) [(0, 10, 13, 20), (0, 10, 17, 81)] :: ([.classLink RL 20 "java/util/NoSuchElementException", .classLink RL 81 "java/lang/IndexOutOfBoundsException", .methodLink RL 78 yX6_plannedAt, .instanceMethod yX6_plannedAt, .selects RX6 yX6_plannedAt yX6_plannedAt, .initialized RX6, .code yX6_plannedAt cX6_plannedAt 9 (some .int), .classLink RX6 198 "java/lang/IndexOutOfBoundsException", .initialized "java/lang/IndexOutOfBoundsException", .fieldLink RX6 23 "DyehouseLedger" "allLots" "[LDyehouseLedger$Lot;", .fieldLink RX6 164 "DyehouseLedger$Lot" "plannedFor" "LDyehouseLedger$Vat;", .fieldLink RX6 197 "DyehouseLedger$Lot" "number" "I", .methodLink RX6 119 yX6_vatNumbered, .instanceMethod yX6_vatNumbered, .selects RX6 yX6_vatNumbered yX6_vatNumbered, .code yX6_vatNumbered cX6_vatNumbered 3 (some (.object "DyehouseLedger$Vat")), .classLink RX6 269 "java/util/NoSuchElementException", .initialized "java/util/NoSuchElementException", .fieldLink RX6 29 "DyehouseLedger" "allVats" "[LDyehouseLedger$Vat;"] ++ wsX60 ++ wsX00 ++ (vx_atM "java/lang/ArrayIndexOutOfBoundsException" ["java/lang/IndexOutOfBoundsException", "java/lang/RuntimeException", "java/lang/Exception"]).filter goodWord ++ (vx_at0 RX6 200 "java/lang/IndexOutOfBoundsException" ["java/lang/RuntimeException", "java/lang/Exception"]).filter goodWord ++ (vx_at0 RX6 271 "java/util/NoSuchElementException" ["java/lang/RuntimeException", "java/lang/Exception"]).filter goodWord)
def wsL_leastHours_r1 : List Cond := [Cond.classLink RL 20 "java/util/NoSuchElementException", Cond.methodLink RL 83 yX6_leastHours, Cond.instanceMethod yX6_leastHours, Cond.selects RX6 yX6_leastHours yX6_leastHours, Cond.initialized RX6, Cond.code yX6_leastHours cX6_leastHours 2 (some .int), Cond.fieldLink RX6 44 "DyehouseLedger" "planAtHand" "LDyehouseLedger$Plan;", Cond.methodLink RX6 119 yX6_vatNumbered, Cond.instanceMethod yX6_vatNumbered, Cond.selects RX6 yX6_vatNumbered yX6_vatNumbered, Cond.code yX6_vatNumbered cX6_vatNumbered 3 (some (.object "DyehouseLedger$Vat")), Cond.classLink RX6 269 "java/util/NoSuchElementException", Cond.initialized "java/util/NoSuchElementException", Cond.fieldLink RX6 29 "DyehouseLedger" "allVats" "[LDyehouseLedger$Vat;", Cond.methodLink RX6 201 yX6_fillPlan, Cond.instanceMethod yX6_fillPlan, Cond.selects RX6 yX6_fillPlan yX6_fillPlan, Cond.code yX6_fillPlan cX6_fillPlan 6 none, Cond.fieldLink RX6 23 "DyehouseLedger" "allLots" "[LDyehouseLedger$Lot;", Cond.fieldLink RX6 164 "DyehouseLedger$Lot" "plannedFor" "LDyehouseLedger$Vat;", Cond.methodLink RX6 291 yX2_begin, Cond.instanceMethod yX2_begin, Cond.selects RX2 yX2_begin yX2_begin, Cond.initialized RX2]
def wsL_leastHours_r2 : List Cond := [Cond.code yX2_begin cX2_begin 2 none, Cond.fieldLink RX2 24 "DyehouseLedger$Plan" "size" "I", Cond.fieldLink RX2 28 "DyehouseLedger$Vat" "light" "I", Cond.fieldLink RX2 33 "DyehouseLedger$Plan" "lightAtFirst" "I", Cond.fieldLink RX2 36 "DyehouseLedger$Vat" "onlyCustomer" "I", Cond.fieldLink RX2 39 "DyehouseLedger$Plan" "onlyCustomerAtFirst" "I", Cond.methodLink RX6 294 yX2_add, Cond.instanceMethod yX2_add, Cond.selects RX2 yX2_add yX2_add, Cond.code yX2_add cX2_add 2 none, Cond.fieldLink RX2 9 "DyehouseLedger$Plan" "numbers" "[I", Cond.fieldLink RX2 42 "DyehouseLedger$Lot" "number" "I", Cond.fieldLink RX2 15 "DyehouseLedger$Plan" "lights" "[I", Cond.fieldLink RX2 47 "DyehouseLedger$Lot" "order" "LDyehouseLedger$Order;", Cond.fieldLink RX2 51 "DyehouseLedger$Order" "recipe" "LDyehouseLedger$Recipe;", Cond.fieldLink RX2 57 "DyehouseLedger$Recipe" "shade" "LDyehouseLedger$Shade;", Cond.fieldLink RX2 63 "DyehouseLedger$Shade" "light" "I", Cond.fieldLink RX2 18 "DyehouseLedger$Plan" "customers" "[I", Cond.fieldLink RX2 66 "DyehouseLedger$Order" "customer" "I", Cond.fieldLink RX2 21 "DyehouseLedger$Plan" "hours" "[I", Cond.methodLink RX2 69 yX0_dyeingHours, Cond.instanceMethod yX0_dyeingHours, Cond.selects RX0 yX0_dyeingHours yX0_dyeingHours, Cond.initialized RX0]
def wsL_leastHours_r3 : List Cond := [Cond.code yX0_dyeingHours cX0_dyeingHours 1 (some .int), Cond.fieldLink RX0 19 "DyehouseLedger$Lot" "weight" "I", Cond.methodLink RX6 205 yX2_dyeingHours, Cond.instanceMethod yX2_dyeingHours, Cond.selects RX2 yX2_dyeingHours yX2_dyeingHours, Cond.code yX2_dyeingHours cX2_dyeingHours 3 (some .int), Cond.methodLink RX6 206 yX2_fewestCleanings, Cond.instanceMethod yX2_fewestCleanings, Cond.selects RX2 yX2_fewestCleanings yX2_fewestCleanings, Cond.code yX2_fewestCleanings cX2_fewestCleanings 1 (some .int), Cond.methodLink RX2 73 yX2_fewestFrom, Cond.static yX2_fewestFrom, Cond.code yX2_fewestFrom cX2_fewestFrom 10 (some .int), Cond.methodLink RX2 84 yX2_mustBeCleaned, Cond.instanceMethod yX2_mustBeCleaned, Cond.selects RX2 yX2_mustBeCleaned yX2_mustBeCleaned, Cond.code yX2_mustBeCleaned cX2_mustBeCleaned 4 (some .boolean), Cond.static yX6_isTooDark, Cond.code yX6_isTooDark cX6_isTooDark 2 (some .boolean), Cond.static yX6_isBarred, Cond.code yX6_isBarred cX6_isBarred 2 (some .boolean)]
def wsL_leastHours : List Cond := .codeWith yL_leastHours cL_leastHours 4 (some .int) [(0, 9, 12, 20)] :: ((wsL_leastHours_r1 ++ (wsL_leastHours_r2 ++ wsL_leastHours_r3)) ++ wsX60 ++ wsX00 ++ wsX20 ++ wsX50 ++ wsX10 ++ wsX30 ++ wsX40 ++ (vx_atM "java/lang/ArrayIndexOutOfBoundsException" ["java/lang/IndexOutOfBoundsException", "java/lang/RuntimeException", "java/lang/Exception"]).filter goodWord ++ (vx_at0 RX6 271 "java/util/NoSuchElementException" ["java/lang/RuntimeException", "java/lang/Exception"]).filter goodWord)
def wsL_leastByAll_r1 : List Cond := [Cond.classLink RL 20 "java/util/NoSuchElementException", Cond.methodLink RL 86 yX6_leastByAll, Cond.instanceMethod yX6_leastByAll, Cond.selects RX6 yX6_leastByAll yX6_leastByAll, Cond.initialized RX6, Cond.code yX6_leastByAll cX6_leastByAll 2 (some .int), Cond.fieldLink RX6 44 "DyehouseLedger" "planAtHand" "LDyehouseLedger$Plan;", Cond.methodLink RX6 119 yX6_vatNumbered, Cond.instanceMethod yX6_vatNumbered, Cond.selects RX6 yX6_vatNumbered yX6_vatNumbered, Cond.code yX6_vatNumbered cX6_vatNumbered 3 (some (.object "DyehouseLedger$Vat")), Cond.classLink RX6 269 "java/util/NoSuchElementException", Cond.initialized "java/util/NoSuchElementException", Cond.fieldLink RX6 29 "DyehouseLedger" "allVats" "[LDyehouseLedger$Vat;", Cond.methodLink RX6 201 yX6_fillPlan, Cond.instanceMethod yX6_fillPlan, Cond.selects RX6 yX6_fillPlan yX6_fillPlan, Cond.code yX6_fillPlan cX6_fillPlan 6 none, Cond.fieldLink RX6 23 "DyehouseLedger" "allLots" "[LDyehouseLedger$Lot;", Cond.fieldLink RX6 164 "DyehouseLedger$Lot" "plannedFor" "LDyehouseLedger$Vat;", Cond.methodLink RX6 291 yX2_begin, Cond.instanceMethod yX2_begin, Cond.selects RX2 yX2_begin yX2_begin, Cond.initialized RX2]
def wsL_leastByAll_r2 : List Cond := [Cond.code yX2_begin cX2_begin 2 none, Cond.fieldLink RX2 24 "DyehouseLedger$Plan" "size" "I", Cond.fieldLink RX2 28 "DyehouseLedger$Vat" "light" "I", Cond.fieldLink RX2 33 "DyehouseLedger$Plan" "lightAtFirst" "I", Cond.fieldLink RX2 36 "DyehouseLedger$Vat" "onlyCustomer" "I", Cond.fieldLink RX2 39 "DyehouseLedger$Plan" "onlyCustomerAtFirst" "I", Cond.methodLink RX6 294 yX2_add, Cond.instanceMethod yX2_add, Cond.selects RX2 yX2_add yX2_add, Cond.code yX2_add cX2_add 2 none, Cond.fieldLink RX2 9 "DyehouseLedger$Plan" "numbers" "[I", Cond.fieldLink RX2 42 "DyehouseLedger$Lot" "number" "I", Cond.fieldLink RX2 15 "DyehouseLedger$Plan" "lights" "[I", Cond.fieldLink RX2 47 "DyehouseLedger$Lot" "order" "LDyehouseLedger$Order;", Cond.fieldLink RX2 51 "DyehouseLedger$Order" "recipe" "LDyehouseLedger$Recipe;", Cond.fieldLink RX2 57 "DyehouseLedger$Recipe" "shade" "LDyehouseLedger$Shade;", Cond.fieldLink RX2 63 "DyehouseLedger$Shade" "light" "I", Cond.fieldLink RX2 18 "DyehouseLedger$Plan" "customers" "[I", Cond.fieldLink RX2 66 "DyehouseLedger$Order" "customer" "I", Cond.fieldLink RX2 21 "DyehouseLedger$Plan" "hours" "[I", Cond.methodLink RX2 69 yX0_dyeingHours, Cond.instanceMethod yX0_dyeingHours, Cond.selects RX0 yX0_dyeingHours yX0_dyeingHours, Cond.initialized RX0]
def wsL_leastByAll_r3 : List Cond := [Cond.code yX0_dyeingHours cX0_dyeingHours 1 (some .int), Cond.fieldLink RX0 19 "DyehouseLedger$Lot" "weight" "I", Cond.methodLink RX6 209 yX2_leastOfAllOrders, Cond.instanceMethod yX2_leastOfAllOrders, Cond.selects RX2 yX2_leastOfAllOrders yX2_leastOfAllOrders, Cond.code yX2_leastOfAllOrders cX2_leastOfAllOrders 1 (some .int), Cond.methodLink RX2 88 yX2_leastFrom, Cond.static yX2_leastFrom, Cond.code yX2_leastFrom cX2_leastFrom 10 (some .int), Cond.constant RX2 99 (1000000), Cond.methodLink RX2 100 Lib.Math.min.name, Cond.static Lib.Math.min.name, Cond.initialized "java/lang/Math", Cond.code Lib.Math.min.name Lib.Math.min.code 2 (some .int), Cond.methodLink RX2 84 yX2_mustBeCleaned, Cond.instanceMethod yX2_mustBeCleaned, Cond.selects RX2 yX2_mustBeCleaned yX2_mustBeCleaned, Cond.code yX2_mustBeCleaned cX2_mustBeCleaned 4 (some .boolean), Cond.static yX6_isTooDark, Cond.code yX6_isTooDark cX6_isTooDark 2 (some .boolean), Cond.static yX6_isBarred, Cond.code yX6_isBarred cX6_isBarred 2 (some .boolean)]
def wsL_leastByAll : List Cond := .codeWith yL_leastByAll cL_leastByAll 4 (some .int) [(0, 9, 12, 20)] :: ((wsL_leastByAll_r1 ++ (wsL_leastByAll_r2 ++ wsL_leastByAll_r3)) ++ wsX60 ++ wsX00 ++ wsX20 ++ wsX50 ++ wsX10 ++ wsX30 ++ wsX40 ++ (vx_atM "java/lang/ArrayIndexOutOfBoundsException" ["java/lang/IndexOutOfBoundsException", "java/lang/RuntimeException", "java/lang/Exception"]).filter goodWord ++ (vx_at0 RX6 271 "java/util/NoSuchElementException" ["java/lang/RuntimeException", "java/lang/Exception"]).filter goodWord)
def wsL_firstOf_r1 : List Cond := [Cond.classLink RL 20 "java/util/NoSuchElementException", Cond.classLink RL 15 "java/lang/IllegalStateException", Cond.methodLink RL 89 yX6_firstOf, Cond.instanceMethod yX6_firstOf, Cond.selects RX6 yX6_firstOf yX6_firstOf, Cond.initialized RX6, Cond.code yX6_firstOf cX6_firstOf 3 (some .int), Cond.classLink RX6 56 "java/lang/IllegalStateException", Cond.initialized "java/lang/IllegalStateException", Cond.fieldLink RX6 44 "DyehouseLedger" "planAtHand" "LDyehouseLedger$Plan;", Cond.methodLink RX6 119 yX6_vatNumbered, Cond.instanceMethod yX6_vatNumbered, Cond.selects RX6 yX6_vatNumbered yX6_vatNumbered, Cond.code yX6_vatNumbered cX6_vatNumbered 3 (some (.object "DyehouseLedger$Vat")), Cond.classLink RX6 269 "java/util/NoSuchElementException", Cond.initialized "java/util/NoSuchElementException", Cond.fieldLink RX6 29 "DyehouseLedger" "allVats" "[LDyehouseLedger$Vat;", Cond.methodLink RX6 184 yX6_plannedLots, Cond.instanceMethod yX6_plannedLots, Cond.selects RX6 yX6_plannedLots yX6_plannedLots, Cond.code yX6_plannedLots cX6_plannedLots 7 (some .int), Cond.fieldLink RX6 23 "DyehouseLedger" "allLots" "[LDyehouseLedger$Lot;", Cond.fieldLink RX6 164 "DyehouseLedger$Lot" "plannedFor" "LDyehouseLedger$Vat;", Cond.methodLink RX6 201 yX6_fillPlan]
def wsL_firstOf_r2 : List Cond := [Cond.instanceMethod yX6_fillPlan, Cond.selects RX6 yX6_fillPlan yX6_fillPlan, Cond.code yX6_fillPlan cX6_fillPlan 6 none, Cond.methodLink RX6 291 yX2_begin, Cond.instanceMethod yX2_begin, Cond.selects RX2 yX2_begin yX2_begin, Cond.initialized RX2, Cond.code yX2_begin cX2_begin 2 none, Cond.fieldLink RX2 24 "DyehouseLedger$Plan" "size" "I", Cond.fieldLink RX2 28 "DyehouseLedger$Vat" "light" "I", Cond.fieldLink RX2 33 "DyehouseLedger$Plan" "lightAtFirst" "I", Cond.fieldLink RX2 36 "DyehouseLedger$Vat" "onlyCustomer" "I", Cond.fieldLink RX2 39 "DyehouseLedger$Plan" "onlyCustomerAtFirst" "I", Cond.methodLink RX6 294 yX2_add, Cond.instanceMethod yX2_add, Cond.selects RX2 yX2_add yX2_add, Cond.code yX2_add cX2_add 2 none, Cond.fieldLink RX2 9 "DyehouseLedger$Plan" "numbers" "[I", Cond.fieldLink RX2 42 "DyehouseLedger$Lot" "number" "I", Cond.fieldLink RX2 15 "DyehouseLedger$Plan" "lights" "[I", Cond.fieldLink RX2 47 "DyehouseLedger$Lot" "order" "LDyehouseLedger$Order;", Cond.fieldLink RX2 51 "DyehouseLedger$Order" "recipe" "LDyehouseLedger$Recipe;", Cond.fieldLink RX2 57 "DyehouseLedger$Recipe" "shade" "LDyehouseLedger$Shade;", Cond.fieldLink RX2 63 "DyehouseLedger$Shade" "light" "I"]
def wsL_firstOf_r3 : List Cond := [Cond.fieldLink RX2 18 "DyehouseLedger$Plan" "customers" "[I", Cond.fieldLink RX2 66 "DyehouseLedger$Order" "customer" "I", Cond.fieldLink RX2 21 "DyehouseLedger$Plan" "hours" "[I", Cond.methodLink RX2 69 yX0_dyeingHours, Cond.instanceMethod yX0_dyeingHours, Cond.selects RX0 yX0_dyeingHours yX0_dyeingHours, Cond.initialized RX0, Cond.code yX0_dyeingHours cX0_dyeingHours 1 (some .int), Cond.fieldLink RX0 19 "DyehouseLedger$Lot" "weight" "I", Cond.methodLink RX6 212 yX2_firstOfBestOrder, Cond.instanceMethod yX2_firstOfBestOrder, Cond.selects RX2 yX2_firstOfBestOrder yX2_firstOfBestOrder, Cond.code yX2_firstOfBestOrder cX2_firstOfBestOrder 3 (some .int), Cond.methodLink RX2 77 yX2_fewestCleanings, Cond.instanceMethod yX2_fewestCleanings, Cond.selects RX2 yX2_fewestCleanings yX2_fewestCleanings, Cond.code yX2_fewestCleanings cX2_fewestCleanings 1 (some .int), Cond.methodLink RX2 73 yX2_fewestFrom, Cond.static yX2_fewestFrom, Cond.code yX2_fewestFrom cX2_fewestFrom 10 (some .int), Cond.methodLink RX2 84 yX2_mustBeCleaned, Cond.instanceMethod yX2_mustBeCleaned, Cond.selects RX2 yX2_mustBeCleaned yX2_mustBeCleaned, Cond.code yX2_mustBeCleaned cX2_mustBeCleaned 4 (some .boolean)]
def wsL_firstOf_r4 : List Cond := [Cond.static yX6_isTooDark, Cond.code yX6_isTooDark cX6_isTooDark 2 (some .boolean), Cond.static yX6_isBarred, Cond.code yX6_isBarred cX6_isBarred 2 (some .boolean), Cond.methodLink RX2 80 yX2_fewestBeginningWith, Cond.instanceMethod yX2_fewestBeginningWith, Cond.selects RX2 yX2_fewestBeginningWith yX2_fewestBeginningWith, Cond.code yX2_fewestBeginningWith cX2_fewestBeginningWith 5 (some .int)]
def wsL_firstOf : List Cond := .codeWith yL_firstOf cL_firstOf 4 (some .int) [(0, 9, 12, 20), (0, 9, 15, 15)] :: ((wsL_firstOf_r1 ++ (wsL_firstOf_r2 ++ (wsL_firstOf_r3 ++ wsL_firstOf_r4))) ++ wsX60 ++ wsX00 ++ wsX20 ++ wsX50 ++ wsX10 ++ wsX30 ++ wsX40 ++ (vx_atM "java/lang/ArrayIndexOutOfBoundsException" ["java/lang/IndexOutOfBoundsException", "java/lang/RuntimeException", "java/lang/Exception"]).filter goodWord ++ (vx_at0 RX6 58 "java/lang/IllegalStateException" ["java/lang/RuntimeException", "java/lang/Exception"]).filter goodWord ++ (vx_at0 RX6 271 "java/util/NoSuchElementException" ["java/lang/RuntimeException", "java/lang/Exception"]).filter goodWord)
def wsL_stateOf : List Cond := .codeWith yL_stateOf cL_stateOf 4 (some .int) [(0, 9, 12, 20)] :: ([.classLink RL 20 "java/util/NoSuchElementException", .methodLink RL 92 yX6_stateOf, .instanceMethod yX6_stateOf, .selects RX6 yX6_stateOf yX6_stateOf, .initialized RX6, .code yX6_stateOf cX6_stateOf 2 (some .char), .fieldLink RX6 147 "DyehouseLedger$Lot" "state" "C", .methodLink RX6 107 yX6_lotNumbered, .instanceMethod yX6_lotNumbered, .selects RX6 yX6_lotNumbered yX6_lotNumbered, .code yX6_lotNumbered cX6_lotNumbered 3 (some (.object "DyehouseLedger$Lot")), .classLink RX6 269 "java/util/NoSuchElementException", .initialized "java/util/NoSuchElementException", .fieldLink RX6 23 "DyehouseLedger" "allLots" "[LDyehouseLedger$Lot;"] ++ wsX00 ++ wsX60 ++ (vx_atM "java/lang/ArrayIndexOutOfBoundsException" ["java/lang/IndexOutOfBoundsException", "java/lang/RuntimeException", "java/lang/Exception"]).filter goodWord ++ (vx_at0 RX6 271 "java/util/NoSuchElementException" ["java/lang/RuntimeException", "java/lang/Exception"]).filter goodWord)
def wsL_shadeOf_r1 : List Cond := [Cond.classLink RL 20 "java/util/NoSuchElementException", Cond.classLink RL 15 "java/lang/IllegalStateException", Cond.classLink RL 81 "java/lang/IndexOutOfBoundsException", Cond.methodLink RL 95 yX6_shadeOf, Cond.instanceMethod yX6_shadeOf, Cond.selects RX6 yX6_shadeOf yX6_shadeOf, Cond.initialized RX6, Cond.code yX6_shadeOf cX6_shadeOf 4 (some .int), Cond.classLink RX6 198 "java/lang/IndexOutOfBoundsException", Cond.initialized "java/lang/IndexOutOfBoundsException", Cond.fieldLink RX6 140 "DyehouseLedger$Lot" "shade" "LDyehouseLedger$Shade;", Cond.fieldLink RX6 218 "DyehouseLedger$Shade" "light" "I", Cond.fieldLink RX6 219 "DyehouseLedger$Shade" "red" "I", Cond.fieldLink RX6 222 "DyehouseLedger$Shade" "blue" "I", Cond.methodLink RX6 215 yX6_shadedLotNumbered, Cond.instanceMethod yX6_shadedLotNumbered, Cond.selects RX6 yX6_shadedLotNumbered yX6_shadedLotNumbered, Cond.code yX6_shadedLotNumbered cX6_shadedLotNumbered 3 (some (.object "DyehouseLedger$Lot")), Cond.classLink RX6 56 "java/lang/IllegalStateException", Cond.initialized "java/lang/IllegalStateException", Cond.fieldLink RX6 147 "DyehouseLedger$Lot" "state" "C", Cond.methodLink RX6 107 yX6_lotNumbered, Cond.instanceMethod yX6_lotNumbered, Cond.selects RX6 yX6_lotNumbered yX6_lotNumbered]
def wsL_shadeOf_r2 : List Cond := [Cond.code yX6_lotNumbered cX6_lotNumbered 3 (some (.object "DyehouseLedger$Lot")), Cond.classLink RX6 269 "java/util/NoSuchElementException", Cond.initialized "java/util/NoSuchElementException", Cond.fieldLink RX6 23 "DyehouseLedger" "allLots" "[LDyehouseLedger$Lot;"]
def wsL_shadeOf : List Cond := .codeWith yL_shadeOf cL_shadeOf 5 (some .int) [(0, 10, 13, 20), (0, 10, 17, 15), (0, 10, 21, 81)] :: ((wsL_shadeOf_r1 ++ wsL_shadeOf_r2) ++ wsX00 ++ wsX40 ++ wsX60 ++ (vx_atM "java/lang/ArrayIndexOutOfBoundsException" ["java/lang/IndexOutOfBoundsException", "java/lang/RuntimeException", "java/lang/Exception"]).filter goodWord ++ (vx_at0 RX6 200 "java/lang/IndexOutOfBoundsException" ["java/lang/RuntimeException", "java/lang/Exception"]).filter goodWord ++ (vx_at0 RX6 58 "java/lang/IllegalStateException" ["java/lang/RuntimeException", "java/lang/Exception"]).filter goodWord ++ (vx_at0 RX6 271 "java/util/NoSuchElementException" ["java/lang/RuntimeException", "java/lang/Exception"]).filter goodWord)
def wsL_vatOf : List Cond := .codeWith yL_vatOf cL_vatOf 4 (some .int) [(0, 9, 12, 20), (0, 9, 15, 15)] :: ([.classLink RL 20 "java/util/NoSuchElementException", .classLink RL 15 "java/lang/IllegalStateException", .methodLink RL 98 yX6_vatOf, .instanceMethod yX6_vatOf, .selects RX6 yX6_vatOf yX6_vatOf, .initialized RX6, .code yX6_vatOf cX6_vatOf 3 (some .int), .classLink RX6 56 "java/lang/IllegalStateException", .initialized "java/lang/IllegalStateException", .fieldLink RX6 151 "DyehouseLedger$Lot" "vat" "LDyehouseLedger$Vat;", .fieldLink RX6 194 "DyehouseLedger$Vat" "number" "I", .methodLink RX6 107 yX6_lotNumbered, .instanceMethod yX6_lotNumbered, .selects RX6 yX6_lotNumbered yX6_lotNumbered, .code yX6_lotNumbered cX6_lotNumbered 3 (some (.object "DyehouseLedger$Lot")), .classLink RX6 269 "java/util/NoSuchElementException", .initialized "java/util/NoSuchElementException", .fieldLink RX6 23 "DyehouseLedger" "allLots" "[LDyehouseLedger$Lot;"] ++ wsX00 ++ wsX50 ++ wsX60 ++ (vx_atM "java/lang/ArrayIndexOutOfBoundsException" ["java/lang/IndexOutOfBoundsException", "java/lang/RuntimeException", "java/lang/Exception"]).filter goodWord ++ (vx_at0 RX6 58 "java/lang/IllegalStateException" ["java/lang/RuntimeException", "java/lang/Exception"]).filter goodWord ++ (vx_at0 RX6 271 "java/util/NoSuchElementException" ["java/lang/RuntimeException", "java/lang/Exception"]).filter goodWord)
def wsL_offBy_r1 : List Cond := [Cond.classLink RL 20 "java/util/NoSuchElementException", Cond.classLink RL 15 "java/lang/IllegalStateException", Cond.methodLink RL 101 yX6_offBy, Cond.instanceMethod yX6_offBy, Cond.selects RX6 yX6_offBy yX6_offBy, Cond.initialized RX6, Cond.code yX6_offBy cX6_offBy 2 (some .int), Cond.methodLink RX6 215 yX6_shadedLotNumbered, Cond.instanceMethod yX6_shadedLotNumbered, Cond.selects RX6 yX6_shadedLotNumbered yX6_shadedLotNumbered, Cond.code yX6_shadedLotNumbered cX6_shadedLotNumbered 3 (some (.object "DyehouseLedger$Lot")), Cond.classLink RX6 56 "java/lang/IllegalStateException", Cond.initialized "java/lang/IllegalStateException", Cond.fieldLink RX6 147 "DyehouseLedger$Lot" "state" "C", Cond.methodLink RX6 107 yX6_lotNumbered, Cond.instanceMethod yX6_lotNumbered, Cond.selects RX6 yX6_lotNumbered yX6_lotNumbered, Cond.code yX6_lotNumbered cX6_lotNumbered 3 (some (.object "DyehouseLedger$Lot")), Cond.classLink RX6 269 "java/util/NoSuchElementException", Cond.initialized "java/util/NoSuchElementException", Cond.fieldLink RX6 23 "DyehouseLedger" "allLots" "[LDyehouseLedger$Lot;", Cond.methodLink RX6 225 yX0_distanceFromRecipe, Cond.instanceMethod yX0_distanceFromRecipe, Cond.selects RX0 yX0_distanceFromRecipe yX0_distanceFromRecipe]
def wsL_offBy_r2 : List Cond := [Cond.initialized RX0, Cond.code yX0_distanceFromRecipe cX0_distanceFromRecipe 1 (some .int), Cond.fieldLink RX0 27 "DyehouseLedger$Lot" "shade" "LDyehouseLedger$Shade;", Cond.fieldLink RX0 15 "DyehouseLedger$Lot" "order" "LDyehouseLedger$Order;", Cond.fieldLink RX0 35 "DyehouseLedger$Order" "recipe" "LDyehouseLedger$Recipe;", Cond.fieldLink RX0 47 "DyehouseLedger$Recipe" "shade" "LDyehouseLedger$Shade;", Cond.methodLink RX0 48 yX4_distanceTo, Cond.instanceMethod yX4_distanceTo, Cond.selects RX4 yX4_distanceTo yX4_distanceTo, Cond.initialized RX4, Cond.code yX4_distanceTo cX4_distanceTo 2 (some .int), Cond.fieldLink RX4 7 "DyehouseLedger$Shade" "light" "I", Cond.methodLink RX4 19 Lib.Math.abs.name, Cond.static Lib.Math.abs.name, Cond.initialized "java/lang/Math", Cond.code Lib.Math.abs.name Lib.Math.abs.code 1 (some .int), Cond.fieldLink RX4 13 "DyehouseLedger$Shade" "red" "I", Cond.fieldLink RX4 16 "DyehouseLedger$Shade" "blue" "I"]
def wsL_offBy : List Cond := .codeWith yL_offBy cL_offBy 4 (some .int) [(0, 9, 12, 20), (0, 9, 15, 15)] :: ((wsL_offBy_r1 ++ wsL_offBy_r2) ++ wsX00 ++ wsX60 ++ wsX10 ++ wsX30 ++ wsX40 ++ (vx_atM "java/lang/ArrayIndexOutOfBoundsException" ["java/lang/IndexOutOfBoundsException", "java/lang/RuntimeException", "java/lang/Exception"]).filter goodWord ++ (vx_at0 RX6 58 "java/lang/IllegalStateException" ["java/lang/RuntimeException", "java/lang/Exception"]).filter goodWord ++ (vx_at0 RX6 271 "java/util/NoSuchElementException" ["java/lang/RuntimeException", "java/lang/Exception"]).filter goodWord)
def wsL_distance_r1 : List Cond := [Cond.classLink RL 20 "java/util/NoSuchElementException", Cond.classLink RL 15 "java/lang/IllegalStateException", Cond.methodLink RL 104 yX6_distance, Cond.instanceMethod yX6_distance, Cond.selects RX6 yX6_distance yX6_distance, Cond.initialized RX6, Cond.code yX6_distance cX6_distance 5 (some .int), Cond.classLink RX6 56 "java/lang/IllegalStateException", Cond.initialized "java/lang/IllegalStateException", Cond.fieldLink RX6 147 "DyehouseLedger$Lot" "state" "C", Cond.fieldLink RX6 140 "DyehouseLedger$Lot" "shade" "LDyehouseLedger$Shade;", Cond.methodLink RX6 107 yX6_lotNumbered, Cond.instanceMethod yX6_lotNumbered, Cond.selects RX6 yX6_lotNumbered yX6_lotNumbered, Cond.code yX6_lotNumbered cX6_lotNumbered 3 (some (.object "DyehouseLedger$Lot")), Cond.classLink RX6 269 "java/util/NoSuchElementException", Cond.initialized "java/util/NoSuchElementException", Cond.fieldLink RX6 23 "DyehouseLedger" "allLots" "[LDyehouseLedger$Lot;", Cond.methodLink RX6 228 yX4_distanceTo, Cond.instanceMethod yX4_distanceTo, Cond.selects RX4 yX4_distanceTo yX4_distanceTo, Cond.initialized RX4, Cond.code yX4_distanceTo cX4_distanceTo 2 (some .int), Cond.fieldLink RX4 7 "DyehouseLedger$Shade" "light" "I"]
def wsL_distance_r2 : List Cond := [Cond.methodLink RX4 19 Lib.Math.abs.name, Cond.static Lib.Math.abs.name, Cond.initialized "java/lang/Math", Cond.code Lib.Math.abs.name Lib.Math.abs.code 1 (some .int), Cond.fieldLink RX4 13 "DyehouseLedger$Shade" "red" "I", Cond.fieldLink RX4 16 "DyehouseLedger$Shade" "blue" "I"]
def wsL_distance : List Cond := .codeWith yL_distance cL_distance 5 (some .int) [(0, 10, 13, 20), (0, 10, 17, 15)] :: ((wsL_distance_r1 ++ wsL_distance_r2) ++ wsX00 ++ wsX60 ++ wsX40 ++ (vx_atM "java/lang/ArrayIndexOutOfBoundsException" ["java/lang/IndexOutOfBoundsException", "java/lang/RuntimeException", "java/lang/Exception"]).filter goodWord ++ (vx_at0 RX6 58 "java/lang/IllegalStateException" ["java/lang/RuntimeException", "java/lang/Exception"]).filter goodWord ++ (vx_at0 RX6 271 "java/util/NoSuchElementException" ["java/lang/RuntimeException", "java/lang/Exception"]).filter goodWord)
def wsL_nearest_r1 : List Cond := [Cond.classLink RL 20 "java/util/NoSuchElementException", Cond.classLink RL 15 "java/lang/IllegalStateException", Cond.classLink RL 53 "java/lang/UnsupportedOperationException", Cond.methodLink RL 107 yX6_nearest, Cond.instanceMethod yX6_nearest, Cond.selects RX6 yX6_nearest yX6_nearest, Cond.initialized RX6, Cond.code yX6_nearest cX6_nearest 10 (some .int), Cond.classLink RX6 127 "java/lang/UnsupportedOperationException", Cond.initialized "java/lang/UnsupportedOperationException", Cond.fieldLink RX6 23 "DyehouseLedger" "allLots" "[LDyehouseLedger$Lot;", Cond.fieldLink RX6 147 "DyehouseLedger$Lot" "state" "C", Cond.fieldLink RX6 140 "DyehouseLedger$Lot" "shade" "LDyehouseLedger$Shade;", Cond.fieldLink RX6 197 "DyehouseLedger$Lot" "number" "I", Cond.methodLink RX6 215 yX6_shadedLotNumbered, Cond.instanceMethod yX6_shadedLotNumbered, Cond.selects RX6 yX6_shadedLotNumbered yX6_shadedLotNumbered, Cond.code yX6_shadedLotNumbered cX6_shadedLotNumbered 3 (some (.object "DyehouseLedger$Lot")), Cond.classLink RX6 56 "java/lang/IllegalStateException", Cond.initialized "java/lang/IllegalStateException", Cond.methodLink RX6 107 yX6_lotNumbered, Cond.instanceMethod yX6_lotNumbered, Cond.selects RX6 yX6_lotNumbered yX6_lotNumbered, Cond.code yX6_lotNumbered cX6_lotNumbered 3 (some (.object "DyehouseLedger$Lot"))]
def wsL_nearest_r2 : List Cond := [Cond.classLink RX6 269 "java/util/NoSuchElementException", Cond.initialized "java/util/NoSuchElementException", Cond.methodLink RX6 228 yX4_distanceTo, Cond.instanceMethod yX4_distanceTo, Cond.selects RX4 yX4_distanceTo yX4_distanceTo, Cond.initialized RX4, Cond.code yX4_distanceTo cX4_distanceTo 2 (some .int), Cond.fieldLink RX4 7 "DyehouseLedger$Shade" "light" "I", Cond.methodLink RX4 19 Lib.Math.abs.name, Cond.static Lib.Math.abs.name, Cond.initialized "java/lang/Math", Cond.code Lib.Math.abs.name Lib.Math.abs.code 1 (some .int), Cond.fieldLink RX4 13 "DyehouseLedger$Shade" "red" "I", Cond.fieldLink RX4 16 "DyehouseLedger$Shade" "blue" "I"]
def wsL_nearest : List Cond := .codeWith yL_nearest cL_nearest 4 (some .int) [(0, 9, 12, 20), (0, 9, 15, 15), (0, 9, 18, 53)] :: ((wsL_nearest_r1 ++ wsL_nearest_r2) ++ wsX60 ++ wsX00 ++ wsX40 ++ (vx_atM "java/lang/ArrayIndexOutOfBoundsException" ["java/lang/IndexOutOfBoundsException", "java/lang/RuntimeException", "java/lang/Exception"]).filter goodWord ++ (vx_at0 RX6 129 "java/lang/UnsupportedOperationException" ["java/lang/RuntimeException", "java/lang/Exception"]).filter goodWord ++ (vx_at0 RX6 58 "java/lang/IllegalStateException" ["java/lang/RuntimeException", "java/lang/Exception"]).filter goodWord ++ (vx_at0 RX6 271 "java/util/NoSuchElementException" ["java/lang/RuntimeException", "java/lang/Exception"]).filter goodWord)
def wsL_byLight_r1 : List Cond := [Cond.classLink RL 81 "java/lang/IndexOutOfBoundsException", Cond.methodLink RL 110 yX6_byLight, Cond.instanceMethod yX6_byLight, Cond.selects RX6 yX6_byLight yX6_byLight, Cond.initialized RX6, Cond.code yX6_byLight cX6_byLight 6 (some .int), Cond.classLink RX6 198 "java/lang/IndexOutOfBoundsException", Cond.initialized "java/lang/IndexOutOfBoundsException", Cond.fieldLink RX6 23 "DyehouseLedger" "allLots" "[LDyehouseLedger$Lot;", Cond.fieldLink RX6 147 "DyehouseLedger$Lot" "state" "C", Cond.fieldLink RX6 197 "DyehouseLedger$Lot" "number" "I", Cond.methodLink RX6 232 yX6_placeByLight, Cond.instanceMethod yX6_placeByLight, Cond.selects RX6 yX6_placeByLight yX6_placeByLight, Cond.code yX6_placeByLight cX6_placeByLight 7 (some .int), Cond.methodLink RX6 297 yX0_comesBeforeByLight, Cond.instanceMethod yX0_comesBeforeByLight, Cond.selects RX0 yX0_comesBeforeByLight yX0_comesBeforeByLight, Cond.initialized RX0, Cond.code yX0_comesBeforeByLight cX0_comesBeforeByLight 2 (some .boolean), Cond.fieldLink RX0 27 "DyehouseLedger$Lot" "shade" "LDyehouseLedger$Shade;", Cond.fieldLink RX0 52 "DyehouseLedger$Shade" "light" "I", Cond.fieldLink RX0 55 "DyehouseLedger$Shade" "red" "I", Cond.fieldLink RX0 58 "DyehouseLedger$Shade" "blue" "I"]
def wsL_byLight_r2 : List Cond := [Cond.fieldLink RX0 9 "DyehouseLedger$Lot" "number" "I"]
def wsL_byLight : List Cond := .codeWith yL_byLight cL_byLight 4 (some .int) [(0, 9, 12, 81)] :: ((wsL_byLight_r1 ++ wsL_byLight_r2) ++ wsX60 ++ wsX00 ++ wsX40 ++ (vx_atM "java/lang/ArrayIndexOutOfBoundsException" ["java/lang/IndexOutOfBoundsException", "java/lang/RuntimeException", "java/lang/Exception"]).filter goodWord ++ (vx_at0 RX6 200 "java/lang/IndexOutOfBoundsException" ["java/lang/RuntimeException", "java/lang/Exception"]).filter goodWord)
def wsL_clock : List Cond := .codeWith yL_clock cL_clock 4 (some .int) [(0, 9, 12, 20)] :: ([.classLink RL 20 "java/util/NoSuchElementException", .methodLink RL 113 yX6_clock, .instanceMethod yX6_clock, .selects RX6 yX6_clock yX6_clock, .initialized RX6, .code yX6_clock cX6_clock 2 (some .int), .fieldLink RX6 137 "DyehouseLedger$Vat" "clock" "I", .methodLink RX6 119 yX6_vatNumbered, .instanceMethod yX6_vatNumbered, .selects RX6 yX6_vatNumbered yX6_vatNumbered, .code yX6_vatNumbered cX6_vatNumbered 3 (some (.object "DyehouseLedger$Vat")), .classLink RX6 269 "java/util/NoSuchElementException", .initialized "java/util/NoSuchElementException", .fieldLink RX6 29 "DyehouseLedger" "allVats" "[LDyehouseLedger$Vat;"] ++ wsX50 ++ wsX60 ++ (vx_atM "java/lang/ArrayIndexOutOfBoundsException" ["java/lang/IndexOutOfBoundsException", "java/lang/RuntimeException", "java/lang/Exception"]).filter goodWord ++ (vx_at0 RX6 271 "java/util/NoSuchElementException" ["java/lang/RuntimeException", "java/lang/Exception"]).filter goodWord)
def wsL_cleanings : List Cond := .codeWith yL_cleanings cL_cleanings 4 (some .int) [(0, 9, 12, 20)] :: ([.classLink RL 20 "java/util/NoSuchElementException", .methodLink RL 116 yX6_cleanings, .instanceMethod yX6_cleanings, .selects RX6 yX6_cleanings yX6_cleanings, .initialized RX6, .code yX6_cleanings cX6_cleanings 2 (some .int), .fieldLink RX6 158 "DyehouseLedger$Vat" "cleanings" "I", .methodLink RX6 119 yX6_vatNumbered, .instanceMethod yX6_vatNumbered, .selects RX6 yX6_vatNumbered yX6_vatNumbered, .code yX6_vatNumbered cX6_vatNumbered 3 (some (.object "DyehouseLedger$Vat")), .classLink RX6 269 "java/util/NoSuchElementException", .initialized "java/util/NoSuchElementException", .fieldLink RX6 29 "DyehouseLedger" "allVats" "[LDyehouseLedger$Vat;"] ++ wsX50 ++ wsX60 ++ (vx_atM "java/lang/ArrayIndexOutOfBoundsException" ["java/lang/IndexOutOfBoundsException", "java/lang/RuntimeException", "java/lang/Exception"]).filter goodWord ++ (vx_at0 RX6 271 "java/util/NoSuchElementException" ["java/lang/RuntimeException", "java/lang/Exception"]).filter goodWord)
def wsL_lightIn : List Cond := .codeWith yL_lightIn cL_lightIn 4 (some .int) [(0, 9, 12, 20), (0, 9, 15, 15)] :: ([.classLink RL 20 "java/util/NoSuchElementException", .classLink RL 15 "java/lang/IllegalStateException", .methodLink RL 119 yX6_lightIn, .instanceMethod yX6_lightIn, .selects RX6 yX6_lightIn yX6_lightIn, .initialized RX6, .code yX6_lightIn cX6_lightIn 3 (some .int), .classLink RX6 56 "java/lang/IllegalStateException", .initialized "java/lang/IllegalStateException", .fieldLink RX6 134 "DyehouseLedger$Vat" "light" "I", .methodLink RX6 119 yX6_vatNumbered, .instanceMethod yX6_vatNumbered, .selects RX6 yX6_vatNumbered yX6_vatNumbered, .code yX6_vatNumbered cX6_vatNumbered 3 (some (.object "DyehouseLedger$Vat")), .classLink RX6 269 "java/util/NoSuchElementException", .initialized "java/util/NoSuchElementException", .fieldLink RX6 29 "DyehouseLedger" "allVats" "[LDyehouseLedger$Vat;"] ++ wsX50 ++ wsX60 ++ (vx_atM "java/lang/ArrayIndexOutOfBoundsException" ["java/lang/IndexOutOfBoundsException", "java/lang/RuntimeException", "java/lang/Exception"]).filter goodWord ++ (vx_at0 RX6 58 "java/lang/IllegalStateException" ["java/lang/RuntimeException", "java/lang/Exception"]).filter goodWord ++ (vx_at0 RX6 271 "java/util/NoSuchElementException" ["java/lang/RuntimeException", "java/lang/Exception"]).filter goodWord)
def wsL_customerOf : List Cond := .codeWith yL_customerOf cL_customerOf 4 (some .int) [(0, 9, 12, 20), (0, 9, 15, 15)] :: ([.classLink RL 20 "java/util/NoSuchElementException", .classLink RL 15 "java/lang/IllegalStateException", .methodLink RL 122 yX6_customerOf, .instanceMethod yX6_customerOf, .selects RX6 yX6_customerOf yX6_customerOf, .initialized RX6, .code yX6_customerOf cX6_customerOf 3 (some .int), .classLink RX6 56 "java/lang/IllegalStateException", .initialized "java/lang/IllegalStateException", .fieldLink RX6 167 "DyehouseLedger$Vat" "onlyCustomer" "I", .methodLink RX6 119 yX6_vatNumbered, .instanceMethod yX6_vatNumbered, .selects RX6 yX6_vatNumbered yX6_vatNumbered, .code yX6_vatNumbered cX6_vatNumbered 3 (some (.object "DyehouseLedger$Vat")), .classLink RX6 269 "java/util/NoSuchElementException", .initialized "java/util/NoSuchElementException", .fieldLink RX6 29 "DyehouseLedger" "allVats" "[LDyehouseLedger$Vat;"] ++ wsX50 ++ wsX60 ++ (vx_atM "java/lang/ArrayIndexOutOfBoundsException" ["java/lang/IndexOutOfBoundsException", "java/lang/RuntimeException", "java/lang/Exception"]).filter goodWord ++ (vx_at0 RX6 58 "java/lang/IllegalStateException" ["java/lang/RuntimeException", "java/lang/Exception"]).filter goodWord ++ (vx_at0 RX6 271 "java/util/NoSuchElementException" ["java/lang/RuntimeException", "java/lang/Exception"]).filter goodWord)
def wsL_lotsOf : List Cond := .codeWith yL_lotsOf cL_lotsOf 4 (some .int) [(0, 9, 12, 20)] :: ([.classLink RL 20 "java/util/NoSuchElementException", .methodLink RL 125 yX6_lotsOf, .instanceMethod yX6_lotsOf, .selects RX6 yX6_lotsOf yX6_lotsOf, .initialized RX6, .code yX6_lotsOf cX6_lotsOf 8 (some .int), .fieldLink RX6 23 "DyehouseLedger" "allLots" "[LDyehouseLedger$Lot;", .fieldLink RX6 236 "DyehouseLedger$Lot" "order" "LDyehouseLedger$Order;", .methodLink RX6 91 yX6_orderNumbered, .instanceMethod yX6_orderNumbered, .selects RX6 yX6_orderNumbered yX6_orderNumbered, .code yX6_orderNumbered cX6_orderNumbered 3 (some (.object "DyehouseLedger$Order")), .classLink RX6 269 "java/util/NoSuchElementException", .initialized "java/util/NoSuchElementException", .fieldLink RX6 17 "DyehouseLedger" "allOrders" "[LDyehouseLedger$Order;"] ++ wsX60 ++ wsX00 ++ (vx_atM "java/lang/ArrayIndexOutOfBoundsException" ["java/lang/IndexOutOfBoundsException", "java/lang/RuntimeException", "java/lang/Exception"]).filter goodWord ++ (vx_at0 RX6 271 "java/util/NoSuchElementException" ["java/lang/RuntimeException", "java/lang/Exception"]).filter goodWord)
def wsL_passedOf : List Cond := .codeWith yL_passedOf cL_passedOf 4 (some .int) [(0, 9, 12, 20)] :: ([.classLink RL 20 "java/util/NoSuchElementException", .methodLink RL 128 yX6_passedOf, .instanceMethod yX6_passedOf, .selects RX6 yX6_passedOf yX6_passedOf, .initialized RX6, .code yX6_passedOf cX6_passedOf 8 (some .int), .fieldLink RX6 23 "DyehouseLedger" "allLots" "[LDyehouseLedger$Lot;", .methodLink RX6 91 yX6_orderNumbered, .instanceMethod yX6_orderNumbered, .selects RX6 yX6_orderNumbered yX6_orderNumbered, .code yX6_orderNumbered cX6_orderNumbered 3 (some (.object "DyehouseLedger$Order")), .classLink RX6 269 "java/util/NoSuchElementException", .initialized "java/util/NoSuchElementException", .fieldLink RX6 17 "DyehouseLedger" "allOrders" "[LDyehouseLedger$Order;", .methodLink RX6 240 yX0_isPassedOf, .instanceMethod yX0_isPassedOf, .selects RX0 yX0_isPassedOf yX0_isPassedOf, .initialized RX0, .code yX0_isPassedOf cX0_isPassedOf 2 (some .boolean), .fieldLink RX0 15 "DyehouseLedger$Lot" "order" "LDyehouseLedger$Order;", .fieldLink RX0 31 "DyehouseLedger$Lot" "state" "C"] ++ wsX60 ++ wsX00 ++ (vx_atM "java/lang/ArrayIndexOutOfBoundsException" ["java/lang/IndexOutOfBoundsException", "java/lang/RuntimeException", "java/lang/Exception"]).filter goodWord ++ (vx_at0 RX6 271 "java/util/NoSuchElementException" ["java/lang/RuntimeException", "java/lang/Exception"]).filter goodWord)
def wsL_spread_r1 : List Cond := [Cond.classLink RL 20 "java/util/NoSuchElementException", Cond.methodLink RL 131 yX6_spread, Cond.instanceMethod yX6_spread, Cond.selects RX6 yX6_spread yX6_spread, Cond.initialized RX6, Cond.code yX6_spread cX6_spread 8 (some .int), Cond.fieldLink RX6 23 "DyehouseLedger" "allLots" "[LDyehouseLedger$Lot;", Cond.methodLink RX6 247 Lib.Math.max.name, Cond.static Lib.Math.max.name, Cond.initialized "java/lang/Math", Cond.code Lib.Math.max.name Lib.Math.max.code 2 (some .int), Cond.methodLink RX6 91 yX6_orderNumbered, Cond.instanceMethod yX6_orderNumbered, Cond.selects RX6 yX6_orderNumbered yX6_orderNumbered, Cond.code yX6_orderNumbered cX6_orderNumbered 3 (some (.object "DyehouseLedger$Order")), Cond.classLink RX6 269 "java/util/NoSuchElementException", Cond.initialized "java/util/NoSuchElementException", Cond.fieldLink RX6 17 "DyehouseLedger" "allOrders" "[LDyehouseLedger$Order;", Cond.methodLink RX6 240 yX0_isPassedOf, Cond.instanceMethod yX0_isPassedOf, Cond.selects RX0 yX0_isPassedOf yX0_isPassedOf, Cond.initialized RX0, Cond.code yX0_isPassedOf cX0_isPassedOf 2 (some .boolean), Cond.fieldLink RX0 15 "DyehouseLedger$Lot" "order" "LDyehouseLedger$Order;"]
def wsL_spread_r2 : List Cond := [Cond.fieldLink RX0 31 "DyehouseLedger$Lot" "state" "C", Cond.methodLink RX6 244 yX6_greatestDistanceFromPassed, Cond.instanceMethod yX6_greatestDistanceFromPassed, Cond.selects RX6 yX6_greatestDistanceFromPassed yX6_greatestDistanceFromPassed, Cond.code yX6_greatestDistanceFromPassed cX6_greatestDistanceFromPassed 7 (some .int), Cond.fieldLink RX6 236 "DyehouseLedger$Lot" "order" "LDyehouseLedger$Order;", Cond.fieldLink RX6 140 "DyehouseLedger$Lot" "shade" "LDyehouseLedger$Shade;", Cond.methodLink RX6 228 yX4_distanceTo, Cond.instanceMethod yX4_distanceTo, Cond.selects RX4 yX4_distanceTo yX4_distanceTo, Cond.initialized RX4, Cond.code yX4_distanceTo cX4_distanceTo 2 (some .int), Cond.fieldLink RX4 7 "DyehouseLedger$Shade" "light" "I", Cond.methodLink RX4 19 Lib.Math.abs.name, Cond.static Lib.Math.abs.name, Cond.code Lib.Math.abs.name Lib.Math.abs.code 1 (some .int), Cond.fieldLink RX4 13 "DyehouseLedger$Shade" "red" "I", Cond.fieldLink RX4 16 "DyehouseLedger$Shade" "blue" "I"]
def wsL_spread : List Cond := .codeWith yL_spread cL_spread 4 (some .int) [(0, 9, 12, 20)] :: ((wsL_spread_r1 ++ wsL_spread_r2) ++ wsX60 ++ wsX00 ++ wsX40 ++ (vx_atM "java/lang/ArrayIndexOutOfBoundsException" ["java/lang/IndexOutOfBoundsException", "java/lang/RuntimeException", "java/lang/Exception"]).filter goodWord ++ (vx_at0 RX6 271 "java/util/NoSuchElementException" ["java/lang/RuntimeException", "java/lang/Exception"]).filter goodWord)
def wsL_lateBy_r1 : List Cond := [Cond.classLink RL 20 "java/util/NoSuchElementException", Cond.methodLink RL 134 yX6_lateBy, Cond.instanceMethod yX6_lateBy, Cond.selects RX6 yX6_lateBy yX6_lateBy, Cond.initialized RX6, Cond.code yX6_lateBy cX6_lateBy 2 (some .int), Cond.methodLink RX6 91 yX6_orderNumbered, Cond.instanceMethod yX6_orderNumbered, Cond.selects RX6 yX6_orderNumbered yX6_orderNumbered, Cond.code yX6_orderNumbered cX6_orderNumbered 3 (some (.object "DyehouseLedger$Order")), Cond.classLink RX6 269 "java/util/NoSuchElementException", Cond.initialized "java/util/NoSuchElementException", Cond.fieldLink RX6 17 "DyehouseLedger" "allOrders" "[LDyehouseLedger$Order;", Cond.methodLink RX6 253 yX6_daysLate, Cond.instanceMethod yX6_daysLate, Cond.selects RX6 yX6_daysLate yX6_daysLate, Cond.code yX6_daysLate cX6_daysLate 7 (some .int), Cond.fieldLink RX6 23 "DyehouseLedger" "allLots" "[LDyehouseLedger$Lot;", Cond.fieldLink RX6 236 "DyehouseLedger$Lot" "order" "LDyehouseLedger$Order;", Cond.fieldLink RX6 147 "DyehouseLedger$Lot" "state" "C", Cond.fieldLink RX6 155 "DyehouseLedger$Lot" "clockThen" "I", Cond.methodLink RX6 247 Lib.Math.max.name, Cond.static Lib.Math.max.name, Cond.initialized "java/lang/Math"]
def wsL_lateBy_r2 : List Cond := [Cond.code Lib.Math.max.name Lib.Math.max.code 2 (some .int), Cond.fieldLink RX6 300 "DyehouseLedger$Order" "day" "I"]
def wsL_lateBy : List Cond := .codeWith yL_lateBy cL_lateBy 4 (some .int) [(0, 9, 12, 20)] :: ((wsL_lateBy_r1 ++ wsL_lateBy_r2) ++ wsX60 ++ wsX00 ++ wsX10 ++ (vx_atM "java/lang/ArrayIndexOutOfBoundsException" ["java/lang/IndexOutOfBoundsException", "java/lang/RuntimeException", "java/lang/Exception"]).filter goodWord ++ (vx_at0 RX6 271 "java/util/NoSuchElementException" ["java/lang/RuntimeException", "java/lang/Exception"]).filter goodWord)
def wsL_due_r1 : List Cond := [Cond.classLink RL 20 "java/util/NoSuchElementException", Cond.methodLink RL 137 yX6_due, Cond.instanceMethod yX6_due, Cond.selects RX6 yX6_due yX6_due, Cond.initialized RX6, Cond.code yX6_due cX6_due 2 (some .int), Cond.methodLink RX6 91 yX6_orderNumbered, Cond.instanceMethod yX6_orderNumbered, Cond.selects RX6 yX6_orderNumbered yX6_orderNumbered, Cond.code yX6_orderNumbered cX6_orderNumbered 3 (some (.object "DyehouseLedger$Order")), Cond.classLink RX6 269 "java/util/NoSuchElementException", Cond.initialized "java/util/NoSuchElementException", Cond.fieldLink RX6 17 "DyehouseLedger" "allOrders" "[LDyehouseLedger$Order;", Cond.methodLink RX6 257 yX6_amountDue, Cond.instanceMethod yX6_amountDue, Cond.selects RX6 yX6_amountDue yX6_amountDue, Cond.code yX6_amountDue cX6_amountDue 7 (some .int), Cond.fieldLink RX6 23 "DyehouseLedger" "allLots" "[LDyehouseLedger$Lot;", Cond.fieldLink RX6 188 "DyehouseLedger$Lot" "weight" "I", Cond.fieldLink RX6 303 "DyehouseLedger$Order" "price" "I", Cond.methodLink RX6 247 Lib.Math.max.name, Cond.static Lib.Math.max.name, Cond.initialized "java/lang/Math", Cond.code Lib.Math.max.name Lib.Math.max.code 2 (some .int)]
def wsL_due_r2 : List Cond := [Cond.methodLink RX6 240 yX0_isPassedOf, Cond.instanceMethod yX0_isPassedOf, Cond.selects RX0 yX0_isPassedOf yX0_isPassedOf, Cond.initialized RX0, Cond.code yX0_isPassedOf cX0_isPassedOf 2 (some .boolean), Cond.fieldLink RX0 15 "DyehouseLedger$Lot" "order" "LDyehouseLedger$Order;", Cond.fieldLink RX0 31 "DyehouseLedger$Lot" "state" "C", Cond.methodLink RX6 253 yX6_daysLate, Cond.instanceMethod yX6_daysLate, Cond.selects RX6 yX6_daysLate yX6_daysLate, Cond.code yX6_daysLate cX6_daysLate 7 (some .int), Cond.fieldLink RX6 236 "DyehouseLedger$Lot" "order" "LDyehouseLedger$Order;", Cond.fieldLink RX6 147 "DyehouseLedger$Lot" "state" "C", Cond.fieldLink RX6 155 "DyehouseLedger$Lot" "clockThen" "I", Cond.fieldLink RX6 300 "DyehouseLedger$Order" "day" "I"]
def wsL_due : List Cond := .codeWith yL_due cL_due 4 (some .int) [(0, 9, 12, 20)] :: ((wsL_due_r1 ++ wsL_due_r2) ++ wsX60 ++ wsX00 ++ wsX10 ++ (vx_atM "java/lang/ArrayIndexOutOfBoundsException" ["java/lang/IndexOutOfBoundsException", "java/lang/RuntimeException", "java/lang/Exception"]).filter goodWord ++ (vx_at0 RX6 271 "java/util/NoSuchElementException" ["java/lang/RuntimeException", "java/lang/Exception"]).filter goodWord)
def wsL_dues_r1 : List Cond := [Cond.classLink RL 13 "java/lang/IllegalArgumentException", Cond.methodLink RL 140 yX6_dues, Cond.instanceMethod yX6_dues, Cond.selects RX6 yX6_dues yX6_dues, Cond.initialized RX6, Cond.code yX6_dues cX6_dues 8 (some .long), Cond.fieldLink RX6 17 "DyehouseLedger" "allOrders" "[LDyehouseLedger$Order;", Cond.fieldLink RX6 260 "DyehouseLedger$Order" "customer" "I", Cond.methodLink RX6 82 yX6_checkCustomer, Cond.static yX6_checkCustomer, Cond.code yX6_checkCustomer cX6_checkCustomer 1 none, Cond.methodLink RX6 74 yX6_checkRange, Cond.static yX6_checkRange, Cond.code yX6_checkRange cX6_checkRange 3 none, Cond.classLink RX6 266 "java/lang/IllegalArgumentException", Cond.initialized "java/lang/IllegalArgumentException", Cond.methodLink RX6 257 yX6_amountDue, Cond.instanceMethod yX6_amountDue, Cond.selects RX6 yX6_amountDue yX6_amountDue, Cond.code yX6_amountDue cX6_amountDue 7 (some .int), Cond.fieldLink RX6 23 "DyehouseLedger" "allLots" "[LDyehouseLedger$Lot;", Cond.fieldLink RX6 188 "DyehouseLedger$Lot" "weight" "I", Cond.fieldLink RX6 303 "DyehouseLedger$Order" "price" "I", Cond.methodLink RX6 247 Lib.Math.max.name]
def wsL_dues_r2 : List Cond := [Cond.static Lib.Math.max.name, Cond.initialized "java/lang/Math", Cond.code Lib.Math.max.name Lib.Math.max.code 2 (some .int), Cond.methodLink RX6 240 yX0_isPassedOf, Cond.instanceMethod yX0_isPassedOf, Cond.selects RX0 yX0_isPassedOf yX0_isPassedOf, Cond.initialized RX0, Cond.code yX0_isPassedOf cX0_isPassedOf 2 (some .boolean), Cond.fieldLink RX0 15 "DyehouseLedger$Lot" "order" "LDyehouseLedger$Order;", Cond.fieldLink RX0 31 "DyehouseLedger$Lot" "state" "C", Cond.methodLink RX6 253 yX6_daysLate, Cond.instanceMethod yX6_daysLate, Cond.selects RX6 yX6_daysLate yX6_daysLate, Cond.code yX6_daysLate cX6_daysLate 7 (some .int), Cond.fieldLink RX6 236 "DyehouseLedger$Lot" "order" "LDyehouseLedger$Order;", Cond.fieldLink RX6 147 "DyehouseLedger$Lot" "state" "C", Cond.fieldLink RX6 155 "DyehouseLedger$Lot" "clockThen" "I", Cond.fieldLink RX6 300 "DyehouseLedger$Order" "day" "I"]
def wsL_dues : List Cond := .codeWith yL_dues cL_dues 4 (some .int) [(0, 8, 11, 13)] :: ((wsL_dues_r1 ++ wsL_dues_r2) ++ wsX60 ++ wsX10 ++ wsX00 ++ (vx_atM "java/lang/ArrayIndexOutOfBoundsException" ["java/lang/IndexOutOfBoundsException", "java/lang/RuntimeException", "java/lang/Exception"]).filter goodWord ++ (vx_at0 RX6 268 "java/lang/IllegalArgumentException" ["java/lang/RuntimeException", "java/lang/Exception"]).filter goodWord)
def wsL_used : List Cond := .codeWith yL_used cL_used 4 (some .int) [(0, 8, 11, 13)] :: ([.classLink RL 13 "java/lang/IllegalArgumentException", .methodLink RL 144 yX6_used, .instanceMethod yX6_used, .selects RX6 yX6_used yX6_used, .initialized RX6, .code yX6_used cX6_used 2 (some .long), .fieldLink RX6 37 "DyehouseLedger" "gramsUsed" "[J", .methodLink RX6 70 yX6_checkDye, .static yX6_checkDye, .code yX6_checkDye cX6_checkDye 1 none, .methodLink RX6 74 yX6_checkRange, .static yX6_checkRange, .code yX6_checkRange cX6_checkRange 3 none, .classLink RX6 266 "java/lang/IllegalArgumentException", .initialized "java/lang/IllegalArgumentException"] ++ wsX60 ++ (vx_atM "java/lang/ArrayIndexOutOfBoundsException" ["java/lang/IndexOutOfBoundsException", "java/lang/RuntimeException", "java/lang/Exception"]).filter goodWord ++ (vx_at0 RX6 268 "java/lang/IllegalArgumentException" ["java/lang/RuntimeException", "java/lang/Exception"]).filter goodWord)
def wsL_passedShare : List Cond := .codeWith yL_passedShare cL_passedShare 3 (some .int) [(0, 8, 11, 151)] :: ([.classLink RL 151 "java/lang/ArithmeticException", .methodLink RL 147 yX6_passedShare, .instanceMethod yX6_passedShare, .selects RX6 yX6_passedShare yX6_passedShare, .initialized RX6, .code yX6_passedShare cX6_passedShare 3 (some .float), .classLink RX6 263 "java/lang/ArithmeticException", .initialized "java/lang/ArithmeticException", .methodLink RX6 180 yX6_lotsInState, .instanceMethod yX6_lotsInState, .selects RX6 yX6_lotsInState yX6_lotsInState, .code yX6_lotsInState cX6_lotsInState 7 (some .int), .fieldLink RX6 23 "DyehouseLedger" "allLots" "[LDyehouseLedger$Lot;", .fieldLink RX6 147 "DyehouseLedger$Lot" "state" "C"] ++ wsX60 ++ wsX00 ++ (vx_atM "java/lang/ArrayIndexOutOfBoundsException" ["java/lang/IndexOutOfBoundsException", "java/lang/RuntimeException", "java/lang/Exception"]).filter goodWord ++ (vx_at0 RX6 265 "java/lang/ArithmeticException" ["java/lang/RuntimeException", "java/lang/Exception"]).filter goodWord)
def wsL_meanOff_r1 : List Cond := [Cond.classLink RL 151 "java/lang/ArithmeticException", Cond.methodLink RL 153 yX6_meanOff, Cond.instanceMethod yX6_meanOff, Cond.selects RX6 yX6_meanOff yX6_meanOff, Cond.initialized RX6, Cond.code yX6_meanOff cX6_meanOff 7 (some .double), Cond.classLink RX6 263 "java/lang/ArithmeticException", Cond.initialized "java/lang/ArithmeticException", Cond.fieldLink RX6 23 "DyehouseLedger" "allLots" "[LDyehouseLedger$Lot;", Cond.fieldLink RX6 147 "DyehouseLedger$Lot" "state" "C", Cond.methodLink RX6 225 yX0_distanceFromRecipe, Cond.instanceMethod yX0_distanceFromRecipe, Cond.selects RX0 yX0_distanceFromRecipe yX0_distanceFromRecipe, Cond.initialized RX0, Cond.code yX0_distanceFromRecipe cX0_distanceFromRecipe 1 (some .int), Cond.fieldLink RX0 27 "DyehouseLedger$Lot" "shade" "LDyehouseLedger$Shade;", Cond.fieldLink RX0 15 "DyehouseLedger$Lot" "order" "LDyehouseLedger$Order;", Cond.fieldLink RX0 35 "DyehouseLedger$Order" "recipe" "LDyehouseLedger$Recipe;", Cond.fieldLink RX0 47 "DyehouseLedger$Recipe" "shade" "LDyehouseLedger$Shade;", Cond.methodLink RX0 48 yX4_distanceTo, Cond.instanceMethod yX4_distanceTo, Cond.selects RX4 yX4_distanceTo yX4_distanceTo, Cond.initialized RX4, Cond.code yX4_distanceTo cX4_distanceTo 2 (some .int)]
def wsL_meanOff_r2 : List Cond := [Cond.fieldLink RX4 7 "DyehouseLedger$Shade" "light" "I", Cond.methodLink RX4 19 Lib.Math.abs.name, Cond.static Lib.Math.abs.name, Cond.initialized "java/lang/Math", Cond.code Lib.Math.abs.name Lib.Math.abs.code 1 (some .int), Cond.fieldLink RX4 13 "DyehouseLedger$Shade" "red" "I", Cond.fieldLink RX4 16 "DyehouseLedger$Shade" "blue" "I"]
def wsL_meanOff : List Cond := .codeWith yL_meanOff cL_meanOff 3 (some .int) [(0, 7, 10, 151)] :: ((wsL_meanOff_r1 ++ wsL_meanOff_r2) ++ wsX60 ++ wsX00 ++ wsX10 ++ wsX30 ++ wsX40 ++ (vx_atM "java/lang/ArrayIndexOutOfBoundsException" ["java/lang/IndexOutOfBoundsException", "java/lang/RuntimeException", "java/lang/Exception"]).filter goodWord ++ (vx_at0 RX6 265 "java/lang/ArithmeticException" ["java/lang/RuntimeException", "java/lang/Exception"]).filter goodWord)
def wsL_law0_r1 : List Cond := [Cond.classLink RL 8 RX6, Cond.instantiable RX6 11, Cond.initialized RX6, Cond.classLink RL 158 RX7, Cond.instantiable RX7 29, Cond.initialized RX7, Cond.arrayClass .long, Cond.arrayClass .double, Cond.methodLink RL 157 yX6_init, Cond.instanceMethod yX6_init, Cond.code yX6_init cX6_init 1 none, Cond.methodLink RX6 1 objectInit, Cond.instanceMethod objectInit, Cond.code objectInit ⟨#[0xb1]⟩ 1 none, Cond.classLink RX6 9 RX3, Cond.fieldLink RX6 11 "DyehouseLedger" "allRecipes" "[LDyehouseLedger$Recipe;", Cond.classLink RX6 15 RX1, Cond.fieldLink RX6 17 "DyehouseLedger" "allOrders" "[LDyehouseLedger$Order;", Cond.classLink RX6 21 RX0, Cond.fieldLink RX6 23 "DyehouseLedger" "allLots" "[LDyehouseLedger$Lot;", Cond.classLink RX6 27 RX5, Cond.fieldLink RX6 29 "DyehouseLedger" "allVats" "[LDyehouseLedger$Vat;", Cond.arrayClass .int, Cond.fieldLink RX6 33 "DyehouseLedger" "gramsInStock" "[I"]
def wsL_law0_r2 : List Cond := [Cond.fieldLink RX6 37 "DyehouseLedger" "gramsUsed" "[J", Cond.classLink RX6 41 RX2, Cond.instantiable RX2 7, Cond.initialized RX2, Cond.fieldLink RX6 44 "DyehouseLedger" "planAtHand" "LDyehouseLedger$Plan;", Cond.methodLink RX6 43 yX2_init, Cond.instanceMethod yX2_init, Cond.code yX2_init cX2_init 1 none, Cond.methodLink RX2 3 objectInit, Cond.fieldLink RX2 9 "DyehouseLedger$Plan" "numbers" "[I", Cond.fieldLink RX2 15 "DyehouseLedger$Plan" "lights" "[I", Cond.fieldLink RX2 18 "DyehouseLedger$Plan" "customers" "[I", Cond.fieldLink RX2 21 "DyehouseLedger$Plan" "hours" "[I", Cond.methodLink RL 160 yX7_init, Cond.instanceMethod yX7_init, Cond.code yX7_init cX7_init 1 none, Cond.methodLink RX7 1 objectInit, Cond.fieldLink RX7 7 "DyehouseLedgerModel" "shade" "[I", Cond.fieldLink RX7 13 "DyehouseLedgerModel" "grams" "[I", Cond.fieldLink RX7 16 "DyehouseLedgerModel" "stock" "[I", Cond.fieldLink RX7 19 "DyehouseLedgerModel" "used" "[J", Cond.fieldLink RX7 23 "DyehouseLedgerModel" "customer" "[I", Cond.fieldLink RX7 26 "DyehouseLedgerModel" "recipe" "[I", Cond.fieldLink RX7 29 "DyehouseLedgerModel" "bound" "[I"]
def wsL_law0_r3 : List Cond := [Cond.fieldLink RX7 32 "DyehouseLedgerModel" "day" "[I", Cond.fieldLink RX7 35 "DyehouseLedgerModel" "price" "[I", Cond.fieldLink RX7 38 "DyehouseLedgerModel" "order" "[I", Cond.fieldLink RX7 41 "DyehouseLedgerModel" "weight" "[I", Cond.fieldLink RX7 44 "DyehouseLedgerModel" "out" "[I", Cond.fieldLink RX7 47 "DyehouseLedgerModel" "vat" "[I", Cond.fieldLink RX7 50 "DyehouseLedgerModel" "at" "[I", Cond.fieldLink RX7 53 "DyehouseLedgerModel" "cleaned" "[I", Cond.fieldLink RX7 56 "DyehouseLedgerModel" "plan" "[I", Cond.arrayClass .char, Cond.fieldLink RX7 59 "DyehouseLedgerModel" "state" "[C", Cond.fieldLink RX7 63 "DyehouseLedgerModel" "room" "[I", Cond.fieldLink RX7 66 "DyehouseLedgerModel" "light" "[I", Cond.fieldLink RX7 69 "DyehouseLedgerModel" "barred" "[I", Cond.fieldLink RX7 72 "DyehouseLedgerModel" "clock" "[I", Cond.fieldLink RX7 75 "DyehouseLedgerModel" "cleanings" "[I", Cond.fieldLink RX7 78 "DyehouseLedgerModel" "row" "[I", Cond.fieldLink RX7 81 "DyehouseLedgerModel" "taken" "[I", Cond.methodLink RL 161 yL_addRecipe, Cond.static yL_addRecipe, Cond.initialized RL, Cond.codeWith yL_addRecipe cL_addRecipe 6 (some .int) [(0, 12, 15, 13), (0, 12, 19, 15)], Cond.classLink RL 13 "java/lang/IllegalArgumentException", Cond.classLink RL 15 "java/lang/IllegalStateException"]
def wsL_law0_r4 : List Cond := [Cond.methodLink RL 7 yX6_addRecipe, Cond.instanceMethod yX6_addRecipe, Cond.selects RX6 yX6_addRecipe yX6_addRecipe, Cond.code yX6_addRecipe cX6_addRecipe 4 (some .int), Cond.classLink RX6 56 "java/lang/IllegalStateException", Cond.initialized "java/lang/IllegalStateException", Cond.fieldLink RX6 52 "DyehouseLedger" "recipeCount" "I", Cond.instantiable RX3 2, Cond.initialized RX3, Cond.classLink RX6 59 RX4, Cond.instantiable RX4 3, Cond.initialized RX4, Cond.methodLink RX6 48 yX6_checkShade, Cond.static yX6_checkShade, Cond.code yX6_checkShade cX6_checkShade 3 none, Cond.methodLink RX6 74 yX6_checkRange, Cond.static yX6_checkRange, Cond.code yX6_checkRange cX6_checkRange 3 none, Cond.classLink RX6 266 "java/lang/IllegalArgumentException", Cond.initialized "java/lang/IllegalArgumentException", Cond.methodLink RX6 61 yX4_init, Cond.instanceMethod yX4_init, Cond.code yX4_init cX4_init 4 none, Cond.methodLink RX4 1 objectInit]
def wsL_law0_r5 : List Cond := [Cond.fieldLink RX4 7 "DyehouseLedger$Shade" "light" "I", Cond.fieldLink RX4 13 "DyehouseLedger$Shade" "red" "I", Cond.fieldLink RX4 16 "DyehouseLedger$Shade" "blue" "I", Cond.methodLink RX6 63 yX3_init, Cond.instanceMethod yX3_init, Cond.code yX3_init cX3_init 2 none, Cond.methodLink RX3 3 objectInit, Cond.fieldLink RX3 9 "DyehouseLedger$Recipe" "shade" "LDyehouseLedger$Shade;", Cond.fieldLink RX3 15 "DyehouseLedger$Recipe" "grams" "[I", Cond.methodLink RL 166 yX7_addRecipe, Cond.instanceMethod yX7_addRecipe, Cond.selects RX7 yX7_addRecipe yX7_addRecipe, Cond.code yX7_addRecipe cX7_addRecipe 4 (some .int), Cond.fieldLink RX7 108 "DyehouseLedgerModel" "recipes" "I", Cond.fieldLink RX7 84 "DyehouseLedgerModel" "thrown" "I", Cond.methodLink RX7 101 yX7_isShade, Cond.static yX7_isShade, Cond.code yX7_isShade cX7_isShade 3 (some .boolean), Cond.methodLink RX7 88 yX7_isIn, Cond.static yX7_isIn, Cond.code yX7_isIn cX7_isIn 3 (some .boolean), Cond.methodLink RX7 104 yX7_refuse, Cond.instanceMethod yX7_refuse, Cond.selects RX7 yX7_refuse yX7_refuse]
def wsL_law0_r6 : List Cond := [Cond.code yX7_refuse cX7_refuse 2 (some .int), Cond.methodLink RL 167 yX7_thrown, Cond.instanceMethod yX7_thrown, Cond.selects RX7 yX7_thrown yX7_thrown, Cond.code yX7_thrown cX7_thrown 1 (some .int), Cond.methodLink RL 171 yL_setDye, Cond.static yL_setDye, Cond.codeWith yL_setDye cL_setDye 6 (some .int) [(0, 12, 15, 20), (0, 12, 19, 13)], Cond.classLink RL 20 "java/util/NoSuchElementException", Cond.methodLink RL 17 yX6_setDye, Cond.instanceMethod yX6_setDye, Cond.selects RX6 yX6_setDye yX6_setDye, Cond.code yX6_setDye cX6_setDye 6 (some .int), Cond.fieldLink RX6 77 "DyehouseLedger$Recipe" "grams" "[I", Cond.methodLink RX6 66 yX6_recipeNumbered, Cond.instanceMethod yX6_recipeNumbered, Cond.selects RX6 yX6_recipeNumbered yX6_recipeNumbered, Cond.code yX6_recipeNumbered cX6_recipeNumbered 3 (some (.object "DyehouseLedger$Recipe")), Cond.classLink RX6 269 "java/util/NoSuchElementException", Cond.initialized "java/util/NoSuchElementException", Cond.methodLink RX6 70 yX6_checkDye, Cond.static yX6_checkDye, Cond.code yX6_checkDye cX6_checkDye 1 none, Cond.methodLink RL 173 yX7_setDye]
def wsL_law0_r7 : List Cond := [Cond.instanceMethod yX7_setDye, Cond.selects RX7 yX7_setDye yX7_setDye, Cond.code yX7_setDye cX7_setDye 5 (some .int), Cond.methodLink RL 174 yL_supply, Cond.static yL_supply, Cond.codeWith yL_supply cL_supply 5 (some .int) [(0, 10, 13, 13), (0, 10, 17, 15)], Cond.methodLink RL 22 yX6_supply, Cond.instanceMethod yX6_supply, Cond.selects RX6 yX6_supply yX6_supply, Cond.code yX6_supply cX6_supply 3 (some .int), Cond.constant RX6 80 (99999), Cond.constant RX6 81 (9999999), Cond.methodLink RL 177 yX7_supply, Cond.instanceMethod yX7_supply, Cond.selects RX7 yX7_supply yX7_supply, Cond.code yX7_supply cX7_supply 3 (some .int), Cond.constant RX7 111 (99999), Cond.constant RX7 112 (9999999), Cond.methodLink RL 178 yL_stock, Cond.static yL_stock, Cond.codeWith yL_stock cL_stock 4 (some .int) [(0, 9, 12, 13)], Cond.methodLink RL 26 yX6_stock, Cond.instanceMethod yX6_stock, Cond.selects RX6 yX6_stock yX6_stock]
def wsL_law0_r8 : List Cond := [Cond.code yX6_stock cX6_stock 2 (some .int), Cond.methodLink RL 181 yX7_stock, Cond.instanceMethod yX7_stock, Cond.selects RX7 yX7_stock yX7_stock, Cond.code yX7_stock cX7_stock 2 (some .int), Cond.methodLink RX7 113 yX7_noDye, Cond.instanceMethod yX7_noDye, Cond.selects RX7 yX7_noDye yX7_noDye, Cond.code yX7_noDye cX7_noDye 2 (some .boolean), Cond.methodLink RL 182 yL_addOrder, Cond.static yL_addOrder, Cond.codeWith yL_addOrder cL_addOrder 8 (some .int) [(0, 16, 19, 20), (0, 16, 23, 13), (0, 16, 27, 15)], Cond.methodLink RL 30 yX6_addOrder, Cond.instanceMethod yX6_addOrder, Cond.selects RX6 yX6_addOrder yX6_addOrder, Cond.code yX6_addOrder cX6_addOrder 7 (some .int), Cond.fieldLink RX6 85 "DyehouseLedger" "orderCount" "I", Cond.instantiable RX1 5, Cond.initialized RX1, Cond.methodLink RX6 82 yX6_checkCustomer, Cond.static yX6_checkCustomer, Cond.code yX6_checkCustomer cX6_checkCustomer 1 none, Cond.methodLink RX6 88 yX1_init, Cond.instanceMethod yX1_init]
def wsL_law0_r9 : List Cond := [Cond.code yX1_init cX1_init 6 none, Cond.methodLink RX1 1 objectInit, Cond.fieldLink RX1 7 "DyehouseLedger$Order" "customer" "I", Cond.fieldLink RX1 13 "DyehouseLedger$Order" "recipe" "LDyehouseLedger$Recipe;", Cond.fieldLink RX1 17 "DyehouseLedger$Order" "bound" "I", Cond.fieldLink RX1 20 "DyehouseLedger$Order" "day" "I", Cond.fieldLink RX1 23 "DyehouseLedger$Order" "price" "I", Cond.methodLink RL 185 yX7_addOrder, Cond.instanceMethod yX7_addOrder, Cond.selects RX7 yX7_addOrder yX7_addOrder, Cond.code yX7_addOrder cX7_addOrder 6 (some .int), Cond.fieldLink RX7 98 "DyehouseLedgerModel" "orders" "I", Cond.methodLink RL 186 yL_addLot, Cond.static yL_addLot, Cond.codeWith yL_addLot cL_addLot 5 (some .int) [(0, 10, 13, 20), (0, 10, 17, 13), (0, 10, 21, 15)], Cond.methodLink RL 34 yX6_addLot, Cond.instanceMethod yX6_addLot, Cond.selects RX6 yX6_addLot yX6_addLot, Cond.code yX6_addLot cX6_addLot 4 (some .int), Cond.fieldLink RX6 95 "DyehouseLedger" "lotCount" "I", Cond.instantiable RX0 9, Cond.initialized RX0, Cond.methodLink RX6 91 yX6_orderNumbered, Cond.instanceMethod yX6_orderNumbered]
def wsL_law0_r10 : List Cond := [Cond.selects RX6 yX6_orderNumbered yX6_orderNumbered, Cond.code yX6_orderNumbered cX6_orderNumbered 3 (some (.object "DyehouseLedger$Order")), Cond.methodLink RX6 98 yX0_init, Cond.instanceMethod yX0_init, Cond.code yX0_init cX0_init 4 none, Cond.methodLink RX0 3 objectInit, Cond.fieldLink RX0 9 "DyehouseLedger$Lot" "number" "I", Cond.fieldLink RX0 15 "DyehouseLedger$Lot" "order" "LDyehouseLedger$Order;", Cond.fieldLink RX0 19 "DyehouseLedger$Lot" "weight" "I", Cond.classLink RX0 22 RX4, Cond.fieldLink RX0 27 "DyehouseLedger$Lot" "shade" "LDyehouseLedger$Shade;", Cond.fieldLink RX0 31 "DyehouseLedger$Lot" "state" "C", Cond.methodLink RX0 24 yX4_init, Cond.methodLink RL 188 yX7_addLot, Cond.instanceMethod yX7_addLot, Cond.selects RX7 yX7_addLot yX7_addLot, Cond.code yX7_addLot cX7_addLot 3 (some .int), Cond.fieldLink RX7 92 "DyehouseLedgerModel" "lots" "I", Cond.methodLink RX7 117 yX7_noOrder, Cond.instanceMethod yX7_noOrder, Cond.selects RX7 yX7_noOrder yX7_noOrder, Cond.code yX7_noOrder cX7_noOrder 2 (some .boolean), Cond.methodLink RL 189 yL_addVat, Cond.static yL_addVat]
def wsL_law0_r11 : List Cond := [Cond.codeWith yL_addVat cL_addVat 4 (some .int) [(0, 9, 12, 13), (0, 9, 15, 15)], Cond.methodLink RL 37 yX6_addVat, Cond.instanceMethod yX6_addVat, Cond.selects RX6 yX6_addVat yX6_addVat, Cond.code yX6_addVat cX6_addVat 2 (some .int), Cond.fieldLink RX6 101 "DyehouseLedger" "vatCount" "I", Cond.instantiable RX5 6, Cond.initialized RX5, Cond.methodLink RX6 104 yX5_init, Cond.instanceMethod yX5_init, Cond.code yX5_init cX5_init 3 none, Cond.methodLink RX5 3 objectInit, Cond.fieldLink RX5 9 "DyehouseLedger$Vat" "number" "I", Cond.fieldLink RX5 15 "DyehouseLedger$Vat" "mostWeight" "I", Cond.fieldLink RX5 18 "DyehouseLedger$Vat" "light" "I", Cond.fieldLink RX5 21 "DyehouseLedger$Vat" "onlyCustomer" "I", Cond.methodLink RL 191 yX7_addVat, Cond.instanceMethod yX7_addVat, Cond.selects RX7 yX7_addVat yX7_addVat, Cond.code yX7_addVat cX7_addVat 2 (some .int), Cond.fieldLink RX7 95 "DyehouseLedgerModel" "vats" "I", Cond.methodLink RL 192 yL_needs, Cond.static yL_needs, Cond.codeWith yL_needs cL_needs 5 (some .int) [(0, 10, 13, 20), (0, 10, 17, 13)]]
def wsL_law0_r12 : List Cond := [Cond.methodLink RL 40 yX6_needs, Cond.instanceMethod yX6_needs, Cond.selects RX6 yX6_needs yX6_needs, Cond.code yX6_needs cX6_needs 4 (some .int), Cond.methodLink RX6 107 yX6_lotNumbered, Cond.instanceMethod yX6_lotNumbered, Cond.selects RX6 yX6_lotNumbered yX6_lotNumbered, Cond.code yX6_lotNumbered cX6_lotNumbered 3 (some (.object "DyehouseLedger$Lot")), Cond.methodLink RX6 111 yX0_gramsNeeded, Cond.instanceMethod yX0_gramsNeeded, Cond.selects RX0 yX0_gramsNeeded yX0_gramsNeeded, Cond.code yX0_gramsNeeded cX0_gramsNeeded 2 (some .int), Cond.fieldLink RX0 35 "DyehouseLedger$Order" "recipe" "LDyehouseLedger$Recipe;", Cond.fieldLink RX0 41 "DyehouseLedger$Recipe" "grams" "[I", Cond.methodLink RL 194 yX7_needs, Cond.instanceMethod yX7_needs, Cond.selects RX7 yX7_needs yX7_needs, Cond.code yX7_needs cX7_needs 3 (some .int), Cond.methodLink RX7 120 yX7_noLot, Cond.instanceMethod yX7_noLot, Cond.selects RX7 yX7_noLot yX7_noLot, Cond.code yX7_noLot cX7_noLot 2 (some .boolean), Cond.methodLink RX7 123 yX7_needed, Cond.instanceMethod yX7_needed]
def wsL_law0_r13 : List Cond := [Cond.selects RX7 yX7_needed yX7_needed, Cond.code yX7_needed cX7_needed 3 (some .int), Cond.methodLink RL 195 yL_hoursFor, Cond.static yL_hoursFor, Cond.codeWith yL_hoursFor cL_hoursFor 4 (some .int) [(0, 9, 12, 20)], Cond.methodLink RL 43 yX6_hoursFor, Cond.instanceMethod yX6_hoursFor, Cond.selects RX6 yX6_hoursFor yX6_hoursFor, Cond.code yX6_hoursFor cX6_hoursFor 2 (some .int), Cond.methodLink RX6 115 yX0_dyeingHours, Cond.instanceMethod yX0_dyeingHours, Cond.selects RX0 yX0_dyeingHours yX0_dyeingHours, Cond.code yX0_dyeingHours cX0_dyeingHours 1 (some .int), Cond.methodLink RL 197 yX7_hoursFor, Cond.instanceMethod yX7_hoursFor, Cond.selects RX7 yX7_hoursFor yX7_hoursFor, Cond.code yX7_hoursFor cX7_hoursFor 2 (some .int), Cond.methodLink RX7 127 yX7_hours, Cond.instanceMethod yX7_hours, Cond.selects RX7 yX7_hours yX7_hours, Cond.code yX7_hours cX7_hours 2 (some .int), Cond.methodLink RL 198 yL_reason, Cond.static yL_reason, Cond.codeWith yL_reason cL_reason 5 (some .int) [(0, 10, 13, 20)]]
def wsL_law0_r14 : List Cond := [Cond.methodLink RL 46 yX6_reason, Cond.instanceMethod yX6_reason, Cond.selects RX6 yX6_reason yX6_reason, Cond.code yX6_reason cX6_reason 4 (some .char), Cond.methodLink RX6 119 yX6_vatNumbered, Cond.instanceMethod yX6_vatNumbered, Cond.selects RX6 yX6_vatNumbered yX6_vatNumbered, Cond.code yX6_vatNumbered cX6_vatNumbered 3 (some (.object "DyehouseLedger$Vat")), Cond.methodLink RX6 123 yX6_reasonAgainst, Cond.instanceMethod yX6_reasonAgainst, Cond.selects RX6 yX6_reasonAgainst yX6_reasonAgainst, Cond.code yX6_reasonAgainst cX6_reasonAgainst 3 (some .char), Cond.fieldLink RX6 147 "DyehouseLedger$Lot" "state" "C", Cond.fieldLink RX6 188 "DyehouseLedger$Lot" "weight" "I", Cond.fieldLink RX6 191 "DyehouseLedger$Vat" "mostWeight" "I", Cond.fieldLink RX6 134 "DyehouseLedger$Vat" "light" "I", Cond.fieldLink RX6 236 "DyehouseLedger$Lot" "order" "LDyehouseLedger$Order;", Cond.fieldLink RX6 272 "DyehouseLedger$Order" "recipe" "LDyehouseLedger$Recipe;", Cond.fieldLink RX6 276 "DyehouseLedger$Recipe" "shade" "LDyehouseLedger$Shade;", Cond.fieldLink RX6 218 "DyehouseLedger$Shade" "light" "I", Cond.fieldLink RX6 167 "DyehouseLedger$Vat" "onlyCustomer" "I", Cond.fieldLink RX6 260 "DyehouseLedger$Order" "customer" "I", Cond.methodLink RX6 277 yX6_isTooDark, Cond.static yX6_isTooDark]
def wsL_law0_r15 : List Cond := [Cond.code yX6_isTooDark cX6_isTooDark 2 (some .boolean), Cond.methodLink RX6 281 yX6_isBarred, Cond.static yX6_isBarred, Cond.code yX6_isBarred cX6_isBarred 2 (some .boolean), Cond.methodLink RX6 284 yX6_isStocked, Cond.instanceMethod yX6_isStocked, Cond.selects RX6 yX6_isStocked yX6_isStocked, Cond.code yX6_isStocked cX6_isStocked 3 (some .boolean), Cond.methodLink RL 200 yX7_reason, Cond.instanceMethod yX7_reason, Cond.selects RX7 yX7_reason yX7_reason, Cond.code yX7_reason cX7_reason 3 (some .char), Cond.methodLink RX7 133 yX7_noVat, Cond.instanceMethod yX7_noVat, Cond.selects RX7 yX7_noVat yX7_noVat, Cond.code yX7_noVat cX7_noVat 2 (some .boolean), Cond.methodLink RX7 136 yX7_why, Cond.instanceMethod yX7_why, Cond.selects RX7 yX7_why yX7_why, Cond.code yX7_why cX7_why 4 (some .char), Cond.methodLink RX7 130 yX7_lightOf, Cond.instanceMethod yX7_lightOf, Cond.selects RX7 yX7_lightOf yX7_lightOf, Cond.code yX7_lightOf cX7_lightOf 2 (some .int)]
def wsL_law0_r16 : List Cond := [Cond.methodLink RL 201 yL_dye, Cond.static yL_dye, Cond.codeWith yL_dye cL_dye 8 (some .int) [(0, 16, 19, 20), (0, 16, 23, 13), (0, 16, 27, 53)], Cond.classLink RL 53 "java/lang/UnsupportedOperationException", Cond.methodLink RL 50 yX6_dye, Cond.instanceMethod yX6_dye, Cond.selects RX6 yX6_dye yX6_dye, Cond.code yX6_dye cX6_dye 8 (some .int), Cond.classLink RX6 127 "java/lang/UnsupportedOperationException", Cond.initialized "java/lang/UnsupportedOperationException", Cond.fieldLink RX6 137 "DyehouseLedger$Vat" "clock" "I", Cond.fieldLink RX6 140 "DyehouseLedger$Lot" "shade" "LDyehouseLedger$Shade;", Cond.fieldLink RX6 151 "DyehouseLedger$Lot" "vat" "LDyehouseLedger$Vat;", Cond.fieldLink RX6 155 "DyehouseLedger$Lot" "clockThen" "I", Cond.fieldLink RX6 158 "DyehouseLedger$Vat" "cleanings" "I", Cond.fieldLink RX6 161 "DyehouseLedger$Lot" "cleaningsThen" "I", Cond.fieldLink RX6 164 "DyehouseLedger$Lot" "plannedFor" "LDyehouseLedger$Vat;", Cond.methodLink RX6 130 yX6_takeDyesFor, Cond.instanceMethod yX6_takeDyesFor, Cond.selects RX6 yX6_takeDyesFor yX6_takeDyesFor, Cond.code yX6_takeDyesFor cX6_takeDyesFor 4 none, Cond.methodLink RX6 144 yX4_set, Cond.instanceMethod yX4_set, Cond.selects RX4 yX4_set yX4_set]
def wsL_law0_r17 : List Cond := [Cond.code yX4_set cX4_set 4 none, Cond.methodLink RL 203 yX7_dye, Cond.instanceMethod yX7_dye, Cond.selects RX7 yX7_dye yX7_dye, Cond.code yX7_dye cX7_dye 7 (some .int), Cond.methodLink RL 204 yL_clean, Cond.static yL_clean, Cond.codeWith yL_clean cL_clean 4 (some .int) [(0, 9, 12, 20)], Cond.methodLink RL 55 yX6_clean, Cond.instanceMethod yX6_clean, Cond.selects RX6 yX6_clean yX6_clean, Cond.code yX6_clean cX6_clean 3 (some .int), Cond.methodLink RL 206 yX7_clean, Cond.instanceMethod yX7_clean, Cond.selects RX7 yX7_clean yX7_clean, Cond.code yX7_clean cX7_clean 2 (some .int), Cond.methodLink RL 207 yL_verdict, Cond.static yL_verdict, Cond.codeWith yL_verdict cL_verdict 4 (some .int) [(0, 9, 12, 20), (0, 9, 15, 15)], Cond.methodLink RL 58 yX6_verdict, Cond.instanceMethod yX6_verdict, Cond.selects RX6 yX6_verdict yX6_verdict, Cond.code yX6_verdict cX6_verdict 2 (some .char), Cond.methodLink RX6 170 yX6_dyedLotNumbered]
def wsL_law0_r18 : List Cond := [Cond.instanceMethod yX6_dyedLotNumbered, Cond.selects RX6 yX6_dyedLotNumbered yX6_dyedLotNumbered, Cond.code yX6_dyedLotNumbered cX6_dyedLotNumbered 3 (some (.object "DyehouseLedger$Lot")), Cond.methodLink RX6 173 yX6_verdictOn, Cond.instanceMethod yX6_verdictOn, Cond.selects RX6 yX6_verdictOn yX6_verdictOn, Cond.code yX6_verdictOn cX6_verdictOn 2 (some .char), Cond.fieldLink RX6 288 "DyehouseLedger$Order" "bound" "I", Cond.methodLink RX6 225 yX0_distanceFromRecipe, Cond.instanceMethod yX0_distanceFromRecipe, Cond.selects RX0 yX0_distanceFromRecipe yX0_distanceFromRecipe, Cond.code yX0_distanceFromRecipe cX0_distanceFromRecipe 1 (some .int), Cond.fieldLink RX0 47 "DyehouseLedger$Recipe" "shade" "LDyehouseLedger$Shade;", Cond.methodLink RX0 48 yX4_distanceTo, Cond.instanceMethod yX4_distanceTo, Cond.selects RX4 yX4_distanceTo yX4_distanceTo, Cond.code yX4_distanceTo cX4_distanceTo 2 (some .int), Cond.methodLink RX4 19 Lib.Math.abs.name, Cond.static Lib.Math.abs.name, Cond.initialized "java/lang/Math", Cond.code Lib.Math.abs.name Lib.Math.abs.code 1 (some .int), Cond.methodLink RX6 244 yX6_greatestDistanceFromPassed, Cond.instanceMethod yX6_greatestDistanceFromPassed, Cond.selects RX6 yX6_greatestDistanceFromPassed yX6_greatestDistanceFromPassed]
def wsL_law0_r19 : List Cond := [Cond.code yX6_greatestDistanceFromPassed cX6_greatestDistanceFromPassed 7 (some .int), Cond.methodLink RX6 247 Lib.Math.max.name, Cond.static Lib.Math.max.name, Cond.code Lib.Math.max.name Lib.Math.max.code 2 (some .int), Cond.methodLink RX6 240 yX0_isPassedOf, Cond.instanceMethod yX0_isPassedOf, Cond.selects RX0 yX0_isPassedOf yX0_isPassedOf, Cond.code yX0_isPassedOf cX0_isPassedOf 2 (some .boolean), Cond.methodLink RX6 228 yX4_distanceTo, Cond.methodLink RL 209 yX7_verdict, Cond.instanceMethod yX7_verdict, Cond.selects RX7 yX7_verdict yX7_verdict, Cond.code yX7_verdict cX7_verdict 2 (some .char), Cond.methodLink RX7 149 yX7_isNot, Cond.instanceMethod yX7_isNot, Cond.selects RX7 yX7_isNot yX7_isNot, Cond.code yX7_isNot cX7_isNot 3 (some .boolean), Cond.methodLink RX7 153 yX7_judged, Cond.instanceMethod yX7_judged, Cond.selects RX7 yX7_judged yX7_judged, Cond.code yX7_judged cX7_judged 3 (some .char), Cond.methodLink RX7 143 yX7_off, Cond.instanceMethod yX7_off, Cond.selects RX7 yX7_off yX7_off]
def wsL_law0_r20 : List Cond := [Cond.code yX7_off cX7_off 3 (some .int), Cond.methodLink RX7 140 yX7_gap, Cond.static yX7_gap, Cond.code yX7_gap cX7_gap 2 (some .int), Cond.methodLink RX7 146 yX7_apart, Cond.instanceMethod yX7_apart, Cond.selects RX7 yX7_apart yX7_apart, Cond.code yX7_apart cX7_apart 3 (some .int), Cond.methodLink RL 210 yL_judge, Cond.static yL_judge, Cond.codeWith yL_judge cL_judge 4 (some .int) [(0, 16, 19, 20), (0, 16, 22, 15)], Cond.methodLink RL 62 yX6_judge, Cond.instanceMethod yX6_judge, Cond.selects RX6 yX6_judge yX6_judge, Cond.code yX6_judge cX6_judge 3 (some .boolean), Cond.methodLink RX6 177 yX6_barVatOf, Cond.static yX6_barVatOf, Cond.code yX6_barVatOf cX6_barVatOf 2 none, Cond.methodLink RL 212 yX7_judge, Cond.instanceMethod yX7_judge, Cond.selects RX7 yX7_judge yX7_judge, Cond.code yX7_judge cX7_judge 3 (some .boolean), Cond.methodLink RL 213 yL_again, Cond.static yL_again]
def wsL_law0_r21 : List Cond := [Cond.codeWith yL_again cL_again 4 (some .int) [(0, 9, 12, 20), (0, 9, 15, 15)], Cond.methodLink RL 66 yX6_again, Cond.instanceMethod yX6_again, Cond.selects RX6 yX6_again yX6_again, Cond.code yX6_again cX6_again 3 (some .int), Cond.methodLink RX6 180 yX6_lotsInState, Cond.instanceMethod yX6_lotsInState, Cond.selects RX6 yX6_lotsInState yX6_lotsInState, Cond.code yX6_lotsInState cX6_lotsInState 7 (some .int), Cond.methodLink RL 215 yX7_again, Cond.instanceMethod yX7_again, Cond.selects RX7 yX7_again yX7_again, Cond.code yX7_again cX7_again 2 (some .int), Cond.methodLink RX7 157 yX7_waiting, Cond.instanceMethod yX7_waiting, Cond.selects RX7 yX7_waiting yX7_waiting, Cond.code yX7_waiting cX7_waiting 3 (some .int), Cond.methodLink RL 216 yL_plan, Cond.static yL_plan, Cond.codeWith yL_plan cL_plan 5 (some .int) [(0, 10, 13, 20), (0, 10, 17, 15), (0, 10, 21, 53)], Cond.methodLink RL 69 yX6_plan, Cond.instanceMethod yX6_plan, Cond.selects RX6 yX6_plan yX6_plan, Cond.code yX6_plan cX6_plan 6 (some .int)]
def wsL_law0_r22 : List Cond := [Cond.methodLink RX6 184 yX6_plannedLots, Cond.instanceMethod yX6_plannedLots, Cond.selects RX6 yX6_plannedLots yX6_plannedLots, Cond.code yX6_plannedLots cX6_plannedLots 7 (some .int), Cond.methodLink RL 218 yX7_plan, Cond.instanceMethod yX7_plan, Cond.selects RX7 yX7_plan yX7_plan, Cond.code yX7_plan cX7_plan 3 (some .int), Cond.methodLink RX7 161 yX7_inPlan, Cond.instanceMethod yX7_inPlan, Cond.selects RX7 yX7_inPlan yX7_inPlan, Cond.code yX7_inPlan cX7_inPlan 4 (some .int), Cond.methodLink RL 219 yL_unplan, Cond.static yL_unplan, Cond.codeWith yL_unplan cL_unplan 4 (some .int) [(0, 9, 12, 20), (0, 9, 15, 15)], Cond.methodLink RL 72 yX6_unplan, Cond.instanceMethod yX6_unplan, Cond.selects RX6 yX6_unplan yX6_unplan, Cond.code yX6_unplan cX6_unplan 4 (some .int), Cond.fieldLink RX6 194 "DyehouseLedger$Vat" "number" "I", Cond.methodLink RL 221 yX7_unplan, Cond.instanceMethod yX7_unplan, Cond.selects RX7 yX7_unplan yX7_unplan, Cond.code yX7_unplan cX7_unplan 3 (some .int)]
def wsL_law0_r23 : List Cond := [Cond.methodLink RL 222 yL_planned, Cond.static yL_planned, Cond.codeWith yL_planned cL_planned 4 (some .int) [(0, 9, 12, 20)], Cond.methodLink RL 75 yX6_planned, Cond.instanceMethod yX6_planned, Cond.selects RX6 yX6_planned yX6_planned, Cond.code yX6_planned cX6_planned 2 (some .int), Cond.methodLink RL 224 yX7_planned, Cond.instanceMethod yX7_planned, Cond.selects RX7 yX7_planned yX7_planned, Cond.code yX7_planned cX7_planned 2 (some .int), Cond.methodLink RL 225 yL_plannedAt, Cond.static yL_plannedAt, Cond.codeWith yL_plannedAt cL_plannedAt 5 (some .int) [(0, 10, 13, 20), (0, 10, 17, 81)], Cond.classLink RL 81 "java/lang/IndexOutOfBoundsException", Cond.methodLink RL 78 yX6_plannedAt, Cond.instanceMethod yX6_plannedAt, Cond.selects RX6 yX6_plannedAt yX6_plannedAt, Cond.code yX6_plannedAt cX6_plannedAt 9 (some .int), Cond.classLink RX6 198 "java/lang/IndexOutOfBoundsException", Cond.initialized "java/lang/IndexOutOfBoundsException", Cond.fieldLink RX6 197 "DyehouseLedger$Lot" "number" "I", Cond.methodLink RL 227 yX7_plannedAt, Cond.instanceMethod yX7_plannedAt]
def wsL_law0_r24 : List Cond := [Cond.selects RX7 yX7_plannedAt yX7_plannedAt, Cond.code yX7_plannedAt cX7_plannedAt 4 (some .int), Cond.methodLink RX7 164 yX7_lotAt, Cond.instanceMethod yX7_lotAt, Cond.selects RX7 yX7_lotAt yX7_lotAt, Cond.code yX7_lotAt cX7_lotAt 5 (some .int), Cond.methodLink RL 228 yL_leastHours, Cond.static yL_leastHours, Cond.codeWith yL_leastHours cL_leastHours 4 (some .int) [(0, 9, 12, 20)], Cond.methodLink RL 83 yX6_leastHours, Cond.instanceMethod yX6_leastHours, Cond.selects RX6 yX6_leastHours yX6_leastHours, Cond.code yX6_leastHours cX6_leastHours 2 (some .int), Cond.methodLink RX6 201 yX6_fillPlan, Cond.instanceMethod yX6_fillPlan, Cond.selects RX6 yX6_fillPlan yX6_fillPlan, Cond.code yX6_fillPlan cX6_fillPlan 6 none, Cond.methodLink RX6 291 yX2_begin, Cond.instanceMethod yX2_begin, Cond.selects RX2 yX2_begin yX2_begin, Cond.code yX2_begin cX2_begin 2 none, Cond.fieldLink RX2 24 "DyehouseLedger$Plan" "size" "I", Cond.fieldLink RX2 28 "DyehouseLedger$Vat" "light" "I", Cond.fieldLink RX2 33 "DyehouseLedger$Plan" "lightAtFirst" "I"]
def wsL_law0_r25 : List Cond := [Cond.fieldLink RX2 36 "DyehouseLedger$Vat" "onlyCustomer" "I", Cond.fieldLink RX2 39 "DyehouseLedger$Plan" "onlyCustomerAtFirst" "I", Cond.methodLink RX6 294 yX2_add, Cond.instanceMethod yX2_add, Cond.selects RX2 yX2_add yX2_add, Cond.code yX2_add cX2_add 2 none, Cond.fieldLink RX2 42 "DyehouseLedger$Lot" "number" "I", Cond.fieldLink RX2 47 "DyehouseLedger$Lot" "order" "LDyehouseLedger$Order;", Cond.fieldLink RX2 51 "DyehouseLedger$Order" "recipe" "LDyehouseLedger$Recipe;", Cond.fieldLink RX2 57 "DyehouseLedger$Recipe" "shade" "LDyehouseLedger$Shade;", Cond.fieldLink RX2 63 "DyehouseLedger$Shade" "light" "I", Cond.fieldLink RX2 66 "DyehouseLedger$Order" "customer" "I", Cond.methodLink RX2 69 yX0_dyeingHours, Cond.methodLink RX6 205 yX2_dyeingHours, Cond.instanceMethod yX2_dyeingHours, Cond.selects RX2 yX2_dyeingHours yX2_dyeingHours, Cond.code yX2_dyeingHours cX2_dyeingHours 3 (some .int), Cond.methodLink RX6 206 yX2_fewestCleanings, Cond.instanceMethod yX2_fewestCleanings, Cond.selects RX2 yX2_fewestCleanings yX2_fewestCleanings, Cond.code yX2_fewestCleanings cX2_fewestCleanings 1 (some .int), Cond.methodLink RX2 73 yX2_fewestFrom, Cond.static yX2_fewestFrom, Cond.code yX2_fewestFrom cX2_fewestFrom 10 (some .int)]
def wsL_law0_r26 : List Cond := [Cond.methodLink RX2 84 yX2_mustBeCleaned, Cond.instanceMethod yX2_mustBeCleaned, Cond.selects RX2 yX2_mustBeCleaned yX2_mustBeCleaned, Cond.code yX2_mustBeCleaned cX2_mustBeCleaned 4 (some .boolean), Cond.methodLink RL 230 yX7_leastHours, Cond.instanceMethod yX7_leastHours, Cond.selects RX7 yX7_leastHours yX7_leastHours, Cond.code yX7_leastHours cX7_leastHours 2 (some .int), Cond.methodLink RX7 177 yX7_least, Cond.instanceMethod yX7_least, Cond.selects RX7 yX7_least yX7_least, Cond.code yX7_least cX7_least 5 (some .int), Cond.methodLink RX7 171 yX7_lasts, Cond.instanceMethod yX7_lasts, Cond.selects RX7 yX7_lasts yX7_lasts, Cond.code yX7_lasts cX7_lasts 8 (some .int), Cond.methodLink RX7 174 yX7_isNext, Cond.instanceMethod yX7_isNext, Cond.selects RX7 yX7_isNext yX7_isNext, Cond.code yX7_isNext cX7_isNext 6 (some .boolean), Cond.methodLink RX7 167 yX7_swap, Cond.instanceMethod yX7_swap, Cond.selects RX7 yX7_swap yX7_swap, Cond.code yX7_swap cX7_swap 4 none]
def wsL_law0_r27 : List Cond := [Cond.methodLink RL 231 yL_leastByAll, Cond.static yL_leastByAll, Cond.codeWith yL_leastByAll cL_leastByAll 4 (some .int) [(0, 9, 12, 20)], Cond.methodLink RL 86 yX6_leastByAll, Cond.instanceMethod yX6_leastByAll, Cond.selects RX6 yX6_leastByAll yX6_leastByAll, Cond.code yX6_leastByAll cX6_leastByAll 2 (some .int), Cond.methodLink RX6 209 yX2_leastOfAllOrders, Cond.instanceMethod yX2_leastOfAllOrders, Cond.selects RX2 yX2_leastOfAllOrders yX2_leastOfAllOrders, Cond.code yX2_leastOfAllOrders cX2_leastOfAllOrders 1 (some .int), Cond.methodLink RX2 88 yX2_leastFrom, Cond.static yX2_leastFrom, Cond.code yX2_leastFrom cX2_leastFrom 10 (some .int), Cond.constant RX2 99 (1000000), Cond.methodLink RX2 100 Lib.Math.min.name, Cond.static Lib.Math.min.name, Cond.code Lib.Math.min.name Lib.Math.min.code 2 (some .int), Cond.methodLink RL 233 yX7_leastByAll, Cond.instanceMethod yX7_leastByAll, Cond.selects RX7 yX7_leastByAll yX7_leastByAll, Cond.code yX7_leastByAll cX7_leastByAll 2 (some .int), Cond.methodLink RX7 180 yX7_leastHours, Cond.methodLink RL 234 yL_firstOf]
def wsL_law0_r28 : List Cond := [Cond.static yL_firstOf, Cond.codeWith yL_firstOf cL_firstOf 4 (some .int) [(0, 9, 12, 20), (0, 9, 15, 15)], Cond.methodLink RL 89 yX6_firstOf, Cond.instanceMethod yX6_firstOf, Cond.selects RX6 yX6_firstOf yX6_firstOf, Cond.code yX6_firstOf cX6_firstOf 3 (some .int), Cond.methodLink RX6 212 yX2_firstOfBestOrder, Cond.instanceMethod yX2_firstOfBestOrder, Cond.selects RX2 yX2_firstOfBestOrder yX2_firstOfBestOrder, Cond.code yX2_firstOfBestOrder cX2_firstOfBestOrder 3 (some .int), Cond.methodLink RX2 77 yX2_fewestCleanings, Cond.methodLink RX2 80 yX2_fewestBeginningWith, Cond.instanceMethod yX2_fewestBeginningWith, Cond.selects RX2 yX2_fewestBeginningWith yX2_fewestBeginningWith, Cond.code yX2_fewestBeginningWith cX2_fewestBeginningWith 5 (some .int), Cond.methodLink RL 236 yX7_firstOf, Cond.instanceMethod yX7_firstOf, Cond.selects RX7 yX7_firstOf yX7_firstOf, Cond.code yX7_firstOf cX7_firstOf 3 (some .int), Cond.methodLink RL 237 yX6_recipes, Cond.instanceMethod yX6_recipes, Cond.selects RX6 yX6_recipes yX6_recipes, Cond.code yX6_recipes cX6_recipes 1 (some .int), Cond.methodLink RL 240 yX7_recipes]
def wsL_law0_r29 : List Cond := [Cond.instanceMethod yX7_recipes, Cond.selects RX7 yX7_recipes yX7_recipes, Cond.code yX7_recipes cX7_recipes 1 (some .int), Cond.methodLink RL 241 yX6_lots, Cond.instanceMethod yX6_lots, Cond.selects RX6 yX6_lots yX6_lots, Cond.code yX6_lots cX6_lots 1 (some .int), Cond.methodLink RL 244 yX7_lots, Cond.instanceMethod yX7_lots, Cond.selects RX7 yX7_lots yX7_lots, Cond.code yX7_lots cX7_lots 1 (some .int), Cond.methodLink RL 245 yL_stateOf, Cond.static yL_stateOf, Cond.codeWith yL_stateOf cL_stateOf 4 (some .int) [(0, 9, 12, 20)], Cond.methodLink RL 92 yX6_stateOf, Cond.instanceMethod yX6_stateOf, Cond.selects RX6 yX6_stateOf yX6_stateOf, Cond.code yX6_stateOf cX6_stateOf 2 (some .char), Cond.methodLink RL 247 yX7_stateOf, Cond.instanceMethod yX7_stateOf, Cond.selects RX7 yX7_stateOf yX7_stateOf, Cond.code yX7_stateOf cX7_stateOf 2 (some .char), Cond.methodLink RL 248 yL_shadeOf, Cond.static yL_shadeOf]
def wsL_law0_r30 : List Cond := [Cond.codeWith yL_shadeOf cL_shadeOf 5 (some .int) [(0, 10, 13, 20), (0, 10, 17, 15), (0, 10, 21, 81)], Cond.methodLink RL 95 yX6_shadeOf, Cond.instanceMethod yX6_shadeOf, Cond.selects RX6 yX6_shadeOf yX6_shadeOf, Cond.code yX6_shadeOf cX6_shadeOf 4 (some .int), Cond.fieldLink RX6 219 "DyehouseLedger$Shade" "red" "I", Cond.fieldLink RX6 222 "DyehouseLedger$Shade" "blue" "I", Cond.methodLink RX6 215 yX6_shadedLotNumbered, Cond.instanceMethod yX6_shadedLotNumbered, Cond.selects RX6 yX6_shadedLotNumbered yX6_shadedLotNumbered, Cond.code yX6_shadedLotNumbered cX6_shadedLotNumbered 3 (some (.object "DyehouseLedger$Lot")), Cond.methodLink RL 250 yX7_shadeOf, Cond.instanceMethod yX7_shadeOf, Cond.selects RX7 yX7_shadeOf yX7_shadeOf, Cond.code yX7_shadeOf cX7_shadeOf 3 (some .int), Cond.methodLink RX7 183 yX7_isWaiting, Cond.instanceMethod yX7_isWaiting, Cond.selects RX7 yX7_isWaiting yX7_isWaiting, Cond.code yX7_isWaiting cX7_isWaiting 2 (some .boolean), Cond.methodLink RL 251 yL_vatOf, Cond.static yL_vatOf, Cond.codeWith yL_vatOf cL_vatOf 4 (some .int) [(0, 9, 12, 20), (0, 9, 15, 15)], Cond.methodLink RL 98 yX6_vatOf, Cond.instanceMethod yX6_vatOf]
def wsL_law0_r31 : List Cond := [Cond.selects RX6 yX6_vatOf yX6_vatOf, Cond.code yX6_vatOf cX6_vatOf 3 (some .int), Cond.methodLink RL 253 yX7_vatOf, Cond.instanceMethod yX7_vatOf, Cond.selects RX7 yX7_vatOf yX7_vatOf, Cond.code yX7_vatOf cX7_vatOf 2 (some .int), Cond.methodLink RL 254 yL_offBy, Cond.static yL_offBy, Cond.codeWith yL_offBy cL_offBy 4 (some .int) [(0, 9, 12, 20), (0, 9, 15, 15)], Cond.methodLink RL 101 yX6_offBy, Cond.instanceMethod yX6_offBy, Cond.selects RX6 yX6_offBy yX6_offBy, Cond.code yX6_offBy cX6_offBy 2 (some .int), Cond.methodLink RL 256 yX7_offBy, Cond.instanceMethod yX7_offBy, Cond.selects RX7 yX7_offBy yX7_offBy, Cond.code yX7_offBy cX7_offBy 2 (some .int), Cond.methodLink RL 257 yL_distance, Cond.static yL_distance, Cond.codeWith yL_distance cL_distance 5 (some .int) [(0, 10, 13, 20), (0, 10, 17, 15)], Cond.methodLink RL 104 yX6_distance, Cond.instanceMethod yX6_distance, Cond.selects RX6 yX6_distance yX6_distance, Cond.code yX6_distance cX6_distance 5 (some .int)]
def wsL_law0_r32 : List Cond := [Cond.methodLink RL 259 yX7_distance, Cond.instanceMethod yX7_distance, Cond.selects RX7 yX7_distance yX7_distance, Cond.code yX7_distance cX7_distance 3 (some .int), Cond.methodLink RL 260 yL_nearest, Cond.static yL_nearest, Cond.codeWith yL_nearest cL_nearest 4 (some .int) [(0, 9, 12, 20), (0, 9, 15, 15), (0, 9, 18, 53)], Cond.methodLink RL 107 yX6_nearest, Cond.instanceMethod yX6_nearest, Cond.selects RX6 yX6_nearest yX6_nearest, Cond.code yX6_nearest cX6_nearest 10 (some .int), Cond.methodLink RL 262 yX7_nearest, Cond.instanceMethod yX7_nearest, Cond.selects RX7 yX7_nearest yX7_nearest, Cond.code yX7_nearest cX7_nearest 4 (some .int), Cond.methodLink RL 263 yL_byLight, Cond.static yL_byLight, Cond.codeWith yL_byLight cL_byLight 4 (some .int) [(0, 9, 12, 81)], Cond.methodLink RL 110 yX6_byLight, Cond.instanceMethod yX6_byLight, Cond.selects RX6 yX6_byLight yX6_byLight, Cond.code yX6_byLight cX6_byLight 6 (some .int), Cond.methodLink RX6 232 yX6_placeByLight, Cond.instanceMethod yX6_placeByLight]
def wsL_law0_r33 : List Cond := [Cond.selects RX6 yX6_placeByLight yX6_placeByLight, Cond.code yX6_placeByLight cX6_placeByLight 7 (some .int), Cond.methodLink RX6 297 yX0_comesBeforeByLight, Cond.instanceMethod yX0_comesBeforeByLight, Cond.selects RX0 yX0_comesBeforeByLight yX0_comesBeforeByLight, Cond.code yX0_comesBeforeByLight cX0_comesBeforeByLight 2 (some .boolean), Cond.fieldLink RX0 52 "DyehouseLedger$Shade" "light" "I", Cond.fieldLink RX0 55 "DyehouseLedger$Shade" "red" "I", Cond.fieldLink RX0 58 "DyehouseLedger$Shade" "blue" "I", Cond.methodLink RL 265 yX7_byLight, Cond.instanceMethod yX7_byLight, Cond.selects RX7 yX7_byLight yX7_byLight, Cond.code yX7_byLight cX7_byLight 5 (some .int), Cond.methodLink RX7 186 yX7_isAhead, Cond.instanceMethod yX7_isAhead, Cond.selects RX7 yX7_isAhead yX7_isAhead, Cond.code yX7_isAhead cX7_isAhead 6 (some .boolean), Cond.methodLink RL 266 yL_clock, Cond.static yL_clock, Cond.codeWith yL_clock cL_clock 4 (some .int) [(0, 9, 12, 20)], Cond.methodLink RL 113 yX6_clock, Cond.instanceMethod yX6_clock, Cond.selects RX6 yX6_clock yX6_clock, Cond.code yX6_clock cX6_clock 2 (some .int)]
def wsL_law0_r34 : List Cond := [Cond.methodLink RL 268 yX7_clock, Cond.instanceMethod yX7_clock, Cond.selects RX7 yX7_clock yX7_clock, Cond.code yX7_clock cX7_clock 2 (some .int), Cond.methodLink RL 269 yL_cleanings, Cond.static yL_cleanings, Cond.codeWith yL_cleanings cL_cleanings 4 (some .int) [(0, 9, 12, 20)], Cond.methodLink RL 116 yX6_cleanings, Cond.instanceMethod yX6_cleanings, Cond.selects RX6 yX6_cleanings yX6_cleanings, Cond.code yX6_cleanings cX6_cleanings 2 (some .int), Cond.methodLink RL 271 yX7_cleanings, Cond.instanceMethod yX7_cleanings, Cond.selects RX7 yX7_cleanings yX7_cleanings, Cond.code yX7_cleanings cX7_cleanings 2 (some .int), Cond.methodLink RL 272 yL_lightIn, Cond.static yL_lightIn, Cond.codeWith yL_lightIn cL_lightIn 4 (some .int) [(0, 9, 12, 20), (0, 9, 15, 15)], Cond.methodLink RL 119 yX6_lightIn, Cond.instanceMethod yX6_lightIn, Cond.selects RX6 yX6_lightIn yX6_lightIn, Cond.code yX6_lightIn cX6_lightIn 3 (some .int), Cond.methodLink RL 274 yX7_lightIn, Cond.instanceMethod yX7_lightIn]
def wsL_law0_r35 : List Cond := [Cond.selects RX7 yX7_lightIn yX7_lightIn, Cond.code yX7_lightIn cX7_lightIn 2 (some .int), Cond.methodLink RL 275 yL_customerOf, Cond.static yL_customerOf, Cond.codeWith yL_customerOf cL_customerOf 4 (some .int) [(0, 9, 12, 20), (0, 9, 15, 15)], Cond.methodLink RL 122 yX6_customerOf, Cond.instanceMethod yX6_customerOf, Cond.selects RX6 yX6_customerOf yX6_customerOf, Cond.code yX6_customerOf cX6_customerOf 3 (some .int), Cond.methodLink RL 277 yX7_customerOf, Cond.instanceMethod yX7_customerOf, Cond.selects RX7 yX7_customerOf yX7_customerOf, Cond.code yX7_customerOf cX7_customerOf 2 (some .int), Cond.methodLink RL 278 yL_lotsOf, Cond.static yL_lotsOf, Cond.codeWith yL_lotsOf cL_lotsOf 4 (some .int) [(0, 9, 12, 20)], Cond.methodLink RL 125 yX6_lotsOf, Cond.instanceMethod yX6_lotsOf, Cond.selects RX6 yX6_lotsOf yX6_lotsOf, Cond.code yX6_lotsOf cX6_lotsOf 8 (some .int), Cond.methodLink RL 280 yX7_lotsOf, Cond.instanceMethod yX7_lotsOf, Cond.selects RX7 yX7_lotsOf yX7_lotsOf, Cond.code yX7_lotsOf cX7_lotsOf 4 (some .int)]
def wsL_law0_r36 : List Cond := [Cond.methodLink RL 281 yL_passedOf, Cond.static yL_passedOf, Cond.codeWith yL_passedOf cL_passedOf 4 (some .int) [(0, 9, 12, 20)], Cond.methodLink RL 128 yX6_passedOf, Cond.instanceMethod yX6_passedOf, Cond.selects RX6 yX6_passedOf yX6_passedOf, Cond.code yX6_passedOf cX6_passedOf 8 (some .int), Cond.methodLink RL 283 yX7_passedOf, Cond.instanceMethod yX7_passedOf, Cond.selects RX7 yX7_passedOf yX7_passedOf, Cond.code yX7_passedOf cX7_passedOf 4 (some .int), Cond.methodLink RL 284 yL_spread, Cond.static yL_spread, Cond.codeWith yL_spread cL_spread 4 (some .int) [(0, 9, 12, 20)], Cond.methodLink RL 131 yX6_spread, Cond.instanceMethod yX6_spread, Cond.selects RX6 yX6_spread yX6_spread, Cond.code yX6_spread cX6_spread 8 (some .int), Cond.methodLink RL 286 yX7_spread, Cond.instanceMethod yX7_spread, Cond.selects RX7 yX7_spread yX7_spread, Cond.code yX7_spread cX7_spread 5 (some .int), Cond.methodLink RL 287 yL_lateBy, Cond.static yL_lateBy]
def wsL_law0_r37 : List Cond := [Cond.codeWith yL_lateBy cL_lateBy 4 (some .int) [(0, 9, 12, 20)], Cond.methodLink RL 134 yX6_lateBy, Cond.instanceMethod yX6_lateBy, Cond.selects RX6 yX6_lateBy yX6_lateBy, Cond.code yX6_lateBy cX6_lateBy 2 (some .int), Cond.methodLink RX6 253 yX6_daysLate, Cond.instanceMethod yX6_daysLate, Cond.selects RX6 yX6_daysLate yX6_daysLate, Cond.code yX6_daysLate cX6_daysLate 7 (some .int), Cond.fieldLink RX6 300 "DyehouseLedger$Order" "day" "I", Cond.methodLink RL 289 yX7_lateBy, Cond.instanceMethod yX7_lateBy, Cond.selects RX7 yX7_lateBy yX7_lateBy, Cond.code yX7_lateBy cX7_lateBy 2 (some .int), Cond.methodLink RX7 190 yX7_late, Cond.instanceMethod yX7_late, Cond.selects RX7 yX7_late yX7_late, Cond.code yX7_late cX7_late 4 (some .int), Cond.methodLink RL 290 yL_due, Cond.static yL_due, Cond.codeWith yL_due cL_due 4 (some .int) [(0, 9, 12, 20)], Cond.methodLink RL 137 yX6_due, Cond.instanceMethod yX6_due, Cond.selects RX6 yX6_due yX6_due]
def wsL_law0_r38 : List Cond := [Cond.code yX6_due cX6_due 2 (some .int), Cond.methodLink RX6 257 yX6_amountDue, Cond.instanceMethod yX6_amountDue, Cond.selects RX6 yX6_amountDue yX6_amountDue, Cond.code yX6_amountDue cX6_amountDue 7 (some .int), Cond.fieldLink RX6 303 "DyehouseLedger$Order" "price" "I", Cond.methodLink RL 292 yX7_due, Cond.instanceMethod yX7_due, Cond.selects RX7 yX7_due yX7_due, Cond.code yX7_due cX7_due 2 (some .int), Cond.methodLink RX7 193 yX7_worth, Cond.instanceMethod yX7_worth, Cond.selects RX7 yX7_worth yX7_worth, Cond.code yX7_worth cX7_worth 4 (some .int), Cond.methodLink RL 293 yL_dues, Cond.static yL_dues, Cond.codeWith yL_dues cL_dues 4 (some .int) [(0, 8, 11, 13)], Cond.methodLink RL 140 yX6_dues, Cond.instanceMethod yX6_dues, Cond.selects RX6 yX6_dues yX6_dues, Cond.code yX6_dues cX6_dues 8 (some .long), Cond.methodLink RL 295 yX7_dues, Cond.instanceMethod yX7_dues, Cond.selects RX7 yX7_dues yX7_dues]
def wsL_law0_r39 : List Cond := [Cond.code yX7_dues cX7_dues 5 (some .long), Cond.methodLink RL 296 yL_used, Cond.static yL_used, Cond.codeWith yL_used cL_used 4 (some .int) [(0, 8, 11, 13)], Cond.methodLink RL 144 yX6_used, Cond.instanceMethod yX6_used, Cond.selects RX6 yX6_used yX6_used, Cond.code yX6_used cX6_used 2 (some .long), Cond.methodLink RL 298 yX7_used, Cond.instanceMethod yX7_used, Cond.selects RX7 yX7_used yX7_used, Cond.code yX7_used cX7_used 2 (some .long), Cond.methodLink RL 299 yL_passedShare, Cond.static yL_passedShare, Cond.codeWith yL_passedShare cL_passedShare 3 (some .int) [(0, 8, 11, 151)], Cond.classLink RL 151 "java/lang/ArithmeticException", Cond.methodLink RL 147 yX6_passedShare, Cond.instanceMethod yX6_passedShare, Cond.selects RX6 yX6_passedShare yX6_passedShare, Cond.code yX6_passedShare cX6_passedShare 3 (some .float), Cond.classLink RX6 263 "java/lang/ArithmeticException", Cond.initialized "java/lang/ArithmeticException", Cond.methodLink RL 302 yX7_passedShare, Cond.instanceMethod yX7_passedShare]
def wsL_law0_r40 : List Cond := [Cond.selects RX7 yX7_passedShare yX7_passedShare, Cond.code yX7_passedShare cX7_passedShare 4 (some .float), Cond.methodLink RL 303 yL_meanOff, Cond.static yL_meanOff, Cond.codeWith yL_meanOff cL_meanOff 3 (some .int) [(0, 7, 10, 151)], Cond.methodLink RL 153 yX6_meanOff, Cond.instanceMethod yX6_meanOff, Cond.selects RX6 yX6_meanOff yX6_meanOff, Cond.code yX6_meanOff cX6_meanOff 7 (some .double), Cond.methodLink RL 305 yX7_meanOff, Cond.instanceMethod yX7_meanOff, Cond.selects RX7 yX7_meanOff yX7_meanOff, Cond.code yX7_meanOff cX7_meanOff 4 (some .double)]
def wsL_law0 : List Cond := (wsL_law0_r1 ++ (wsL_law0_r2 ++ (wsL_law0_r3 ++ (wsL_law0_r4 ++ (wsL_law0_r5 ++ (wsL_law0_r6 ++ (wsL_law0_r7 ++ (wsL_law0_r8 ++ (wsL_law0_r9 ++ (wsL_law0_r10 ++ (wsL_law0_r11 ++ (wsL_law0_r12 ++ (wsL_law0_r13 ++ (wsL_law0_r14 ++ (wsL_law0_r15 ++ (wsL_law0_r16 ++ (wsL_law0_r17 ++ (wsL_law0_r18 ++ (wsL_law0_r19 ++ (wsL_law0_r20 ++ (wsL_law0_r21 ++ (wsL_law0_r22 ++ (wsL_law0_r23 ++ (wsL_law0_r24 ++ (wsL_law0_r25 ++ (wsL_law0_r26 ++ (wsL_law0_r27 ++ (wsL_law0_r28 ++ (wsL_law0_r29 ++ (wsL_law0_r30 ++ (wsL_law0_r31 ++ (wsL_law0_r32 ++ (wsL_law0_r33 ++ (wsL_law0_r34 ++ (wsL_law0_r35 ++ (wsL_law0_r36 ++ (wsL_law0_r37 ++ (wsL_law0_r38 ++ (wsL_law0_r39 ++ wsL_law0_r40))))))))))))))))))))))))))))))))))))))) ++ wsX60 ++ wsX70 ++ wsX20 ++ wsX30 ++ wsX40 ++ wsX10 ++ wsX00 ++ wsX50 ++ ([] : List Cond)
def wsL_law : List Cond := wsL_law0 ++ (vx_atM "java/lang/ArrayIndexOutOfBoundsException" ["java/lang/IndexOutOfBoundsException", "java/lang/RuntimeException", "java/lang/Exception"]).filter goodWord ++ (vx_at0 RX6 58 "java/lang/IllegalStateException" ["java/lang/RuntimeException", "java/lang/Exception"]).filter goodWord ++ (vx_at0 RX6 268 "java/lang/IllegalArgumentException" ["java/lang/RuntimeException", "java/lang/Exception"]).filter goodWord ++ (vx_at0 RX6 271 "java/util/NoSuchElementException" ["java/lang/RuntimeException", "java/lang/Exception"]).filter goodWord ++ (vx_at0 RX6 129 "java/lang/UnsupportedOperationException" ["java/lang/RuntimeException", "java/lang/Exception"]).filter goodWord ++ (vx_at0 RX6 200 "java/lang/IndexOutOfBoundsException" ["java/lang/RuntimeException", "java/lang/Exception"]).filter goodWord ++ (vx_at0 RX6 265 "java/lang/ArithmeticException" ["java/lang/RuntimeException", "java/lang/Exception"]).filter goodWord
abbrev vwCl : List vw_C := [(RJ0, TJ0, 2), (RJx00060, TJx00060, 6), (RX0, TX0, 9), (RX1, TX1, 5), (RX2, TX2, 7), (RX3, TX3, 2), (RX4, TX4, 3), (RX5, TX5, 6), (RX6, TX6, 11), (RX7, TX7, 29)]
end
section
theorem dX7_init_0 : decode cX7_init 0 = .ok (.aload_n 0, 1) := by decide +kernel
theorem dX7_init_1 : decode cX7_init 1 = .ok (.invokespecial 1, 3) := by decide +kernel
theorem dX7_init_4 : decode cX7_init 4 = .ok (.aload_n 0, 1) := by decide +kernel
theorem dX7_init_5 : decode cX7_init 5 = .ok (.bipush 24, 2) := by decide +kernel
theorem dX7_init_7 : decode cX7_init 7 = .ok (.newarray .int, 2) := by decide +kernel
theorem dX7_init_9 : decode cX7_init 9 = .ok (.putfield 7, 3) := by decide +kernel
theorem dX7_init_12 : decode cX7_init 12 = .ok (.aload_n 0, 1) := by decide +kernel
theorem dX7_init_13 : decode cX7_init 13 = .ok (.bipush 24, 2) := by decide +kernel
theorem dX7_init_15 : decode cX7_init 15 = .ok (.newarray .int, 2) := by decide +kernel
theorem dX7_init_17 : decode cX7_init 17 = .ok (.putfield 13, 3) := by decide +kernel
theorem dX7_init_20 : decode cX7_init 20 = .ok (.aload_n 0, 1) := by decide +kernel
theorem dX7_init_21 : decode cX7_init 21 = .ok (.iconst 3, 1) := by decide +kernel
theorem dX7_init_22 : decode cX7_init 22 = .ok (.newarray .int, 2) := by decide +kernel
theorem dX7_init_24 : decode cX7_init 24 = .ok (.putfield 16, 3) := by decide +kernel
theorem dX7_init_27 : decode cX7_init 27 = .ok (.aload_n 0, 1) := by decide +kernel
theorem dX7_init_28 : decode cX7_init 28 = .ok (.iconst 3, 1) := by decide +kernel
theorem dX7_init_29 : decode cX7_init 29 = .ok (.newarray .long, 2) := by decide +kernel
theorem dX7_init_31 : decode cX7_init 31 = .ok (.putfield 19, 3) := by decide +kernel
theorem dX7_init_34 : decode cX7_init 34 = .ok (.aload_n 0, 1) := by decide +kernel
theorem dX7_init_35 : decode cX7_init 35 = .ok (.bipush 6, 2) := by decide +kernel
theorem dX7_init_37 : decode cX7_init 37 = .ok (.newarray .int, 2) := by decide +kernel
theorem dX7_init_39 : decode cX7_init 39 = .ok (.putfield 23, 3) := by decide +kernel
theorem dX7_init_42 : decode cX7_init 42 = .ok (.aload_n 0, 1) := by decide +kernel
theorem dX7_init_43 : decode cX7_init 43 = .ok (.bipush 6, 2) := by decide +kernel
theorem dX7_init_45 : decode cX7_init 45 = .ok (.newarray .int, 2) := by decide +kernel
theorem dX7_init_47 : decode cX7_init 47 = .ok (.putfield 26, 3) := by decide +kernel
theorem dX7_init_50 : decode cX7_init 50 = .ok (.aload_n 0, 1) := by decide +kernel
theorem dX7_init_51 : decode cX7_init 51 = .ok (.bipush 6, 2) := by decide +kernel
theorem dX7_init_53 : decode cX7_init 53 = .ok (.newarray .int, 2) := by decide +kernel
theorem dX7_init_55 : decode cX7_init 55 = .ok (.putfield 29, 3) := by decide +kernel
theorem dX7_init_58 : decode cX7_init 58 = .ok (.aload_n 0, 1) := by decide +kernel
theorem dX7_init_59 : decode cX7_init 59 = .ok (.bipush 6, 2) := by decide +kernel
theorem dX7_init_61 : decode cX7_init 61 = .ok (.newarray .int, 2) := by decide +kernel
theorem dX7_init_63 : decode cX7_init 63 = .ok (.putfield 32, 3) := by decide +kernel
theorem dX7_init_66 : decode cX7_init 66 = .ok (.aload_n 0, 1) := by decide +kernel
theorem dX7_init_67 : decode cX7_init 67 = .ok (.bipush 6, 2) := by decide +kernel
theorem dX7_init_69 : decode cX7_init 69 = .ok (.newarray .int, 2) := by decide +kernel
theorem dX7_init_71 : decode cX7_init 71 = .ok (.putfield 35, 3) := by decide +kernel
theorem dX7_init_74 : decode cX7_init 74 = .ok (.aload_n 0, 1) := by decide +kernel
theorem dX7_init_75 : decode cX7_init 75 = .ok (.bipush 24, 2) := by decide +kernel
theorem dX7_init_77 : decode cX7_init 77 = .ok (.newarray .int, 2) := by decide +kernel
theorem dX7_init_79 : decode cX7_init 79 = .ok (.putfield 38, 3) := by decide +kernel
theorem dX7_init_82 : decode cX7_init 82 = .ok (.aload_n 0, 1) := by decide +kernel
theorem dX7_init_83 : decode cX7_init 83 = .ok (.bipush 24, 2) := by decide +kernel
theorem dX7_init_85 : decode cX7_init 85 = .ok (.newarray .int, 2) := by decide +kernel
theorem dX7_init_87 : decode cX7_init 87 = .ok (.putfield 41, 3) := by decide +kernel
theorem dX7_init_90 : decode cX7_init 90 = .ok (.aload_n 0, 1) := by decide +kernel
theorem dX7_init_91 : decode cX7_init 91 = .ok (.bipush 72, 2) := by decide +kernel
theorem dX7_init_93 : decode cX7_init 93 = .ok (.newarray .int, 2) := by decide +kernel
theorem dX7_init_95 : decode cX7_init 95 = .ok (.putfield 44, 3) := by decide +kernel
theorem dX7_init_98 : decode cX7_init 98 = .ok (.aload_n 0, 1) := by decide +kernel
theorem dX7_init_99 : decode cX7_init 99 = .ok (.bipush 24, 2) := by decide +kernel
theorem dX7_init_101 : decode cX7_init 101 = .ok (.newarray .int, 2) := by decide +kernel
theorem dX7_init_103 : decode cX7_init 103 = .ok (.putfield 47, 3) := by decide +kernel
theorem dX7_init_106 : decode cX7_init 106 = .ok (.aload_n 0, 1) := by decide +kernel
theorem dX7_init_107 : decode cX7_init 107 = .ok (.bipush 24, 2) := by decide +kernel
theorem dX7_init_109 : decode cX7_init 109 = .ok (.newarray .int, 2) := by decide +kernel
theorem dX7_init_111 : decode cX7_init 111 = .ok (.putfield 50, 3) := by decide +kernel
theorem dX7_init_114 : decode cX7_init 114 = .ok (.aload_n 0, 1) := by decide +kernel
theorem dX7_init_115 : decode cX7_init 115 = .ok (.bipush 24, 2) := by decide +kernel
theorem dX7_init_117 : decode cX7_init 117 = .ok (.newarray .int, 2) := by decide +kernel
theorem dX7_init_119 : decode cX7_init 119 = .ok (.putfield 53, 3) := by decide +kernel
theorem dX7_init_122 : decode cX7_init 122 = .ok (.aload_n 0, 1) := by decide +kernel
theorem dX7_init_123 : decode cX7_init 123 = .ok (.bipush 24, 2) := by decide +kernel
theorem dX7_init_125 : decode cX7_init 125 = .ok (.newarray .int, 2) := by decide +kernel
theorem dX7_init_127 : decode cX7_init 127 = .ok (.putfield 56, 3) := by decide +kernel
theorem dX7_init_130 : decode cX7_init 130 = .ok (.aload_n 0, 1) := by decide +kernel
theorem dX7_init_131 : decode cX7_init 131 = .ok (.bipush 24, 2) := by decide +kernel
theorem dX7_init_133 : decode cX7_init 133 = .ok (.newarray .char, 2) := by decide +kernel
theorem dX7_init_135 : decode cX7_init 135 = .ok (.putfield 59, 3) := by decide +kernel
theorem dX7_init_138 : decode cX7_init 138 = .ok (.aload_n 0, 1) := by decide +kernel
theorem dX7_init_139 : decode cX7_init 139 = .ok (.iconst 4, 1) := by decide +kernel
theorem dX7_init_140 : decode cX7_init 140 = .ok (.newarray .int, 2) := by decide +kernel
theorem dX7_init_142 : decode cX7_init 142 = .ok (.putfield 63, 3) := by decide +kernel
theorem dX7_init_145 : decode cX7_init 145 = .ok (.aload_n 0, 1) := by decide +kernel
theorem dX7_init_146 : decode cX7_init 146 = .ok (.iconst 4, 1) := by decide +kernel
theorem dX7_init_147 : decode cX7_init 147 = .ok (.newarray .int, 2) := by decide +kernel
theorem dX7_init_149 : decode cX7_init 149 = .ok (.putfield 66, 3) := by decide +kernel
theorem dX7_init_152 : decode cX7_init 152 = .ok (.aload_n 0, 1) := by decide +kernel
theorem dX7_init_153 : decode cX7_init 153 = .ok (.iconst 4, 1) := by decide +kernel
theorem dX7_init_154 : decode cX7_init 154 = .ok (.newarray .int, 2) := by decide +kernel
theorem dX7_init_156 : decode cX7_init 156 = .ok (.putfield 69, 3) := by decide +kernel
theorem dX7_init_159 : decode cX7_init 159 = .ok (.aload_n 0, 1) := by decide +kernel
theorem dX7_init_160 : decode cX7_init 160 = .ok (.iconst 4, 1) := by decide +kernel
theorem dX7_init_161 : decode cX7_init 161 = .ok (.newarray .int, 2) := by decide +kernel
theorem dX7_init_163 : decode cX7_init 163 = .ok (.putfield 72, 3) := by decide +kernel
theorem dX7_init_166 : decode cX7_init 166 = .ok (.aload_n 0, 1) := by decide +kernel
theorem dX7_init_167 : decode cX7_init 167 = .ok (.iconst 4, 1) := by decide +kernel
theorem dX7_init_168 : decode cX7_init 168 = .ok (.newarray .int, 2) := by decide +kernel
theorem dX7_init_170 : decode cX7_init 170 = .ok (.putfield 75, 3) := by decide +kernel
theorem dX7_init_173 : decode cX7_init 173 = .ok (.aload_n 0, 1) := by decide +kernel
theorem dX7_init_174 : decode cX7_init 174 = .ok (.bipush 6, 2) := by decide +kernel
theorem dX7_init_176 : decode cX7_init 176 = .ok (.newarray .int, 2) := by decide +kernel
theorem dX7_init_178 : decode cX7_init 178 = .ok (.putfield 78, 3) := by decide +kernel
theorem dX7_init_181 : decode cX7_init 181 = .ok (.aload_n 0, 1) := by decide +kernel
theorem dX7_init_182 : decode cX7_init 182 = .ok (.iconst 1, 1) := by decide +kernel
theorem dX7_init_183 : decode cX7_init 183 = .ok (.newarray .int, 2) := by decide +kernel
theorem dX7_init_185 : decode cX7_init 185 = .ok (.putfield 81, 3) := by decide +kernel
theorem dX7_init_188 : decode cX7_init 188 = .ok (.return_, 1) := by decide +kernel
theorem dX7_thrown_0 : decode cX7_thrown 0 = .ok (.aload_n 0, 1) := by decide +kernel
theorem dX7_thrown_1 : decode cX7_thrown 1 = .ok (.getfield 84, 3) := by decide +kernel
theorem dX7_thrown_4 : decode cX7_thrown 4 = .ok (.ireturn, 1) := by decide +kernel
theorem dX7_refuse_0 : decode cX7_refuse 0 = .ok (.aload_n 0, 1) := by decide +kernel
theorem dX7_refuse_1 : decode cX7_refuse 1 = .ok (.iload_n 1, 1) := by decide +kernel
theorem dX7_refuse_2 : decode cX7_refuse 2 = .ok (.putfield 84, 3) := by decide +kernel
theorem dX7_refuse_5 : decode cX7_refuse 5 = .ok (.iconst 0, 1) := by decide +kernel
theorem dX7_refuse_6 : decode cX7_refuse 6 = .ok (.ireturn, 1) := by decide +kernel
theorem dX7_isIn_0 : decode cX7_isIn 0 = .ok (.iload_n 0, 1) := by decide +kernel
theorem dX7_isIn_1 : decode cX7_isIn 1 = .ok (.iload_n 1, 1) := by decide +kernel
theorem dX7_isIn_2 : decode cX7_isIn 2 = .ok (.if_icmp .lt 12, 3) := by decide +kernel
theorem dX7_isIn_5 : decode cX7_isIn 5 = .ok (.iload_n 0, 1) := by decide +kernel
theorem dX7_isIn_6 : decode cX7_isIn 6 = .ok (.iload_n 2, 1) := by decide +kernel
theorem dX7_isIn_7 : decode cX7_isIn 7 = .ok (.if_icmp .gt 7, 3) := by decide +kernel
theorem dX7_isIn_10 : decode cX7_isIn 10 = .ok (.iconst 1, 1) := by decide +kernel
theorem dX7_isIn_11 : decode cX7_isIn 11 = .ok (.goto 4, 3) := by decide +kernel
theorem dX7_isIn_14 : decode cX7_isIn 14 = .ok (.iconst 0, 1) := by decide +kernel
theorem dX7_isIn_15 : decode cX7_isIn 15 = .ok (.ireturn, 1) := by decide +kernel
set_option maxRecDepth 20000 in
theorem ggX7_isShade_X7_isIn : GoodIn wsX7_isShade wsX7_isIn := goodIn_r _ [4] (by decide +kernel) (by decide +kernel)
set_option maxRecDepth 20000 in
theorem gX7_isShade_X7_isIn : GoodIn wsX7_isShade (va_wsS RX7 88 yX7_isIn wsX7_isIn) := goodIn_app (goodIn_of _ (by decide +kernel)) ggX7_isShade_X7_isIn
theorem dX7_isShade_0 : decode cX7_isShade 0 = .ok (.iload_n 0, 1) := by decide +kernel
theorem dX7_isShade_1 : decode cX7_isShade 1 = .ok (.iconst 0, 1) := by decide +kernel
theorem dX7_isShade_2 : decode cX7_isShade 2 = .ok (.bipush 20, 2) := by decide +kernel
theorem dX7_isShade_4 : decode cX7_isShade 4 = .ok (.invokestatic 88, 3) := by decide +kernel
theorem dX7_isShade_7 : decode cX7_isShade 7 = .ok (.ifCond .eq 27, 3) := by decide +kernel
theorem dX7_isShade_10 : decode cX7_isShade 10 = .ok (.iload_n 1, 1) := by decide +kernel
theorem dX7_isShade_11 : decode cX7_isShade 11 = .ok (.iconst 0, 1) := by decide +kernel
theorem dX7_isShade_12 : decode cX7_isShade 12 = .ok (.bipush 20, 2) := by decide +kernel
theorem dX7_isShade_14 : decode cX7_isShade 14 = .ok (.invokestatic 88, 3) := by decide +kernel
theorem dX7_isShade_17 : decode cX7_isShade 17 = .ok (.ifCond .eq 17, 3) := by decide +kernel
theorem dX7_isShade_20 : decode cX7_isShade 20 = .ok (.iload_n 2, 1) := by decide +kernel
theorem dX7_isShade_21 : decode cX7_isShade 21 = .ok (.iconst 0, 1) := by decide +kernel
theorem dX7_isShade_22 : decode cX7_isShade 22 = .ok (.bipush 20, 2) := by decide +kernel
theorem dX7_isShade_24 : decode cX7_isShade 24 = .ok (.invokestatic 88, 3) := by decide +kernel
theorem dX7_isShade_27 : decode cX7_isShade 27 = .ok (.ifCond .eq 7, 3) := by decide +kernel
theorem dX7_isShade_30 : decode cX7_isShade 30 = .ok (.iconst 1, 1) := by decide +kernel
theorem dX7_isShade_31 : decode cX7_isShade 31 = .ok (.goto 4, 3) := by decide +kernel
theorem dX7_isShade_34 : decode cX7_isShade 34 = .ok (.iconst 0, 1) := by decide +kernel
theorem dX7_isShade_35 : decode cX7_isShade 35 = .ok (.ireturn, 1) := by decide +kernel
set_option maxRecDepth 20000 in
theorem ggX7_noLot_X7_isIn : GoodIn wsX7_noLot wsX7_isIn := goodIn_r _ [6] (by decide +kernel) (by decide +kernel)
set_option maxRecDepth 20000 in
theorem gX7_noLot_X7_isIn : GoodIn wsX7_noLot (va_wsS RX7 88 yX7_isIn wsX7_isIn) := goodIn_app (goodIn_of _ (by decide +kernel)) ggX7_noLot_X7_isIn
theorem dX7_noLot_0 : decode cX7_noLot 0 = .ok (.aload_n 0, 1) := by decide +kernel
theorem dX7_noLot_1 : decode cX7_noLot 1 = .ok (.iload_n 1, 1) := by decide +kernel
theorem dX7_noLot_2 : decode cX7_noLot 2 = .ok (.iconst 0, 1) := by decide +kernel
theorem dX7_noLot_3 : decode cX7_noLot 3 = .ok (.aload_n 0, 1) := by decide +kernel
theorem dX7_noLot_4 : decode cX7_noLot 4 = .ok (.getfield 92, 3) := by decide +kernel
theorem dX7_noLot_7 : decode cX7_noLot 7 = .ok (.iconst 1, 1) := by decide +kernel
theorem dX7_noLot_8 : decode cX7_noLot 8 = .ok (.isub, 1) := by decide +kernel
theorem dX7_noLot_9 : decode cX7_noLot 9 = .ok (.invokestatic 88, 3) := by decide +kernel
theorem dX7_noLot_12 : decode cX7_noLot 12 = .ok (.ifCond .eq 7, 3) := by decide +kernel
theorem dX7_noLot_15 : decode cX7_noLot 15 = .ok (.iconst 0, 1) := by decide +kernel
theorem dX7_noLot_16 : decode cX7_noLot 16 = .ok (.goto 4, 3) := by decide +kernel
theorem dX7_noLot_19 : decode cX7_noLot 19 = .ok (.iconst 1, 1) := by decide +kernel
theorem dX7_noLot_20 : decode cX7_noLot 20 = .ok (.putfield 84, 3) := by decide +kernel
theorem dX7_noLot_23 : decode cX7_noLot 23 = .ok (.aload_n 0, 1) := by decide +kernel
theorem dX7_noLot_24 : decode cX7_noLot 24 = .ok (.getfield 84, 3) := by decide +kernel
theorem dX7_noLot_27 : decode cX7_noLot 27 = .ok (.ifCond .eq 7, 3) := by decide +kernel
theorem dX7_noLot_30 : decode cX7_noLot 30 = .ok (.iconst 1, 1) := by decide +kernel
theorem dX7_noLot_31 : decode cX7_noLot 31 = .ok (.goto 4, 3) := by decide +kernel
theorem dX7_noLot_34 : decode cX7_noLot 34 = .ok (.iconst 0, 1) := by decide +kernel
theorem dX7_noLot_35 : decode cX7_noLot 35 = .ok (.ireturn, 1) := by decide +kernel
set_option maxRecDepth 20000 in
theorem ggX7_noVat_X7_isIn : GoodIn wsX7_noVat wsX7_isIn := goodIn_r _ [6] (by decide +kernel) (by decide +kernel)
set_option maxRecDepth 20000 in
theorem gX7_noVat_X7_isIn : GoodIn wsX7_noVat (va_wsS RX7 88 yX7_isIn wsX7_isIn) := goodIn_app (goodIn_of _ (by decide +kernel)) ggX7_noVat_X7_isIn
theorem dX7_noVat_0 : decode cX7_noVat 0 = .ok (.aload_n 0, 1) := by decide +kernel
theorem dX7_noVat_1 : decode cX7_noVat 1 = .ok (.iload_n 1, 1) := by decide +kernel
theorem dX7_noVat_2 : decode cX7_noVat 2 = .ok (.iconst 0, 1) := by decide +kernel
theorem dX7_noVat_3 : decode cX7_noVat 3 = .ok (.aload_n 0, 1) := by decide +kernel
theorem dX7_noVat_4 : decode cX7_noVat 4 = .ok (.getfield 95, 3) := by decide +kernel
theorem dX7_noVat_7 : decode cX7_noVat 7 = .ok (.iconst 1, 1) := by decide +kernel
theorem dX7_noVat_8 : decode cX7_noVat 8 = .ok (.isub, 1) := by decide +kernel
theorem dX7_noVat_9 : decode cX7_noVat 9 = .ok (.invokestatic 88, 3) := by decide +kernel
theorem dX7_noVat_12 : decode cX7_noVat 12 = .ok (.ifCond .eq 7, 3) := by decide +kernel
theorem dX7_noVat_15 : decode cX7_noVat 15 = .ok (.iconst 0, 1) := by decide +kernel
theorem dX7_noVat_16 : decode cX7_noVat 16 = .ok (.goto 4, 3) := by decide +kernel
theorem dX7_noVat_19 : decode cX7_noVat 19 = .ok (.iconst 1, 1) := by decide +kernel
theorem dX7_noVat_20 : decode cX7_noVat 20 = .ok (.putfield 84, 3) := by decide +kernel
theorem dX7_noVat_23 : decode cX7_noVat 23 = .ok (.aload_n 0, 1) := by decide +kernel
theorem dX7_noVat_24 : decode cX7_noVat 24 = .ok (.getfield 84, 3) := by decide +kernel
theorem dX7_noVat_27 : decode cX7_noVat 27 = .ok (.ifCond .eq 7, 3) := by decide +kernel
theorem dX7_noVat_30 : decode cX7_noVat 30 = .ok (.iconst 1, 1) := by decide +kernel
theorem dX7_noVat_31 : decode cX7_noVat 31 = .ok (.goto 4, 3) := by decide +kernel
theorem dX7_noVat_34 : decode cX7_noVat 34 = .ok (.iconst 0, 1) := by decide +kernel
theorem dX7_noVat_35 : decode cX7_noVat 35 = .ok (.ireturn, 1) := by decide +kernel
set_option maxRecDepth 20000 in
theorem ggX7_noOrder_X7_isIn : GoodIn wsX7_noOrder wsX7_isIn := goodIn_r _ [6] (by decide +kernel) (by decide +kernel)
set_option maxRecDepth 20000 in
theorem gX7_noOrder_X7_isIn : GoodIn wsX7_noOrder (va_wsS RX7 88 yX7_isIn wsX7_isIn) := goodIn_app (goodIn_of _ (by decide +kernel)) ggX7_noOrder_X7_isIn
theorem dX7_noOrder_0 : decode cX7_noOrder 0 = .ok (.aload_n 0, 1) := by decide +kernel
theorem dX7_noOrder_1 : decode cX7_noOrder 1 = .ok (.iload_n 1, 1) := by decide +kernel
theorem dX7_noOrder_2 : decode cX7_noOrder 2 = .ok (.iconst 0, 1) := by decide +kernel
theorem dX7_noOrder_3 : decode cX7_noOrder 3 = .ok (.aload_n 0, 1) := by decide +kernel
theorem dX7_noOrder_4 : decode cX7_noOrder 4 = .ok (.getfield 98, 3) := by decide +kernel
theorem dX7_noOrder_7 : decode cX7_noOrder 7 = .ok (.iconst 1, 1) := by decide +kernel
theorem dX7_noOrder_8 : decode cX7_noOrder 8 = .ok (.isub, 1) := by decide +kernel
theorem dX7_noOrder_9 : decode cX7_noOrder 9 = .ok (.invokestatic 88, 3) := by decide +kernel
theorem dX7_noOrder_12 : decode cX7_noOrder 12 = .ok (.ifCond .eq 7, 3) := by decide +kernel
theorem dX7_noOrder_15 : decode cX7_noOrder 15 = .ok (.iconst 0, 1) := by decide +kernel
theorem dX7_noOrder_16 : decode cX7_noOrder 16 = .ok (.goto 4, 3) := by decide +kernel
theorem dX7_noOrder_19 : decode cX7_noOrder 19 = .ok (.iconst 1, 1) := by decide +kernel
theorem dX7_noOrder_20 : decode cX7_noOrder 20 = .ok (.putfield 84, 3) := by decide +kernel
theorem dX7_noOrder_23 : decode cX7_noOrder 23 = .ok (.aload_n 0, 1) := by decide +kernel
theorem dX7_noOrder_24 : decode cX7_noOrder 24 = .ok (.getfield 84, 3) := by decide +kernel
theorem dX7_noOrder_27 : decode cX7_noOrder 27 = .ok (.ifCond .eq 7, 3) := by decide +kernel
theorem dX7_noOrder_30 : decode cX7_noOrder 30 = .ok (.iconst 1, 1) := by decide +kernel
theorem dX7_noOrder_31 : decode cX7_noOrder 31 = .ok (.goto 4, 3) := by decide +kernel
theorem dX7_noOrder_34 : decode cX7_noOrder 34 = .ok (.iconst 0, 1) := by decide +kernel
theorem dX7_noOrder_35 : decode cX7_noOrder 35 = .ok (.ireturn, 1) := by decide +kernel
set_option maxRecDepth 20000 in
theorem ggX7_noDye_X7_isIn : GoodIn wsX7_noDye wsX7_isIn := goodIn_r _ [5] (by decide +kernel) (by decide +kernel)
set_option maxRecDepth 20000 in
theorem gX7_noDye_X7_isIn : GoodIn wsX7_noDye (va_wsS RX7 88 yX7_isIn wsX7_isIn) := goodIn_app (goodIn_of _ (by decide +kernel)) ggX7_noDye_X7_isIn
theorem dX7_noDye_0 : decode cX7_noDye 0 = .ok (.aload_n 0, 1) := by decide +kernel
theorem dX7_noDye_1 : decode cX7_noDye 1 = .ok (.iload_n 1, 1) := by decide +kernel
theorem dX7_noDye_2 : decode cX7_noDye 2 = .ok (.iconst 0, 1) := by decide +kernel
theorem dX7_noDye_3 : decode cX7_noDye 3 = .ok (.iconst 2, 1) := by decide +kernel
theorem dX7_noDye_4 : decode cX7_noDye 4 = .ok (.invokestatic 88, 3) := by decide +kernel
theorem dX7_noDye_7 : decode cX7_noDye 7 = .ok (.ifCond .eq 7, 3) := by decide +kernel
theorem dX7_noDye_10 : decode cX7_noDye 10 = .ok (.iconst 0, 1) := by decide +kernel
theorem dX7_noDye_11 : decode cX7_noDye 11 = .ok (.goto 4, 3) := by decide +kernel
theorem dX7_noDye_14 : decode cX7_noDye 14 = .ok (.iconst 1, 1) := by decide +kernel
theorem dX7_noDye_15 : decode cX7_noDye 15 = .ok (.putfield 84, 3) := by decide +kernel
theorem dX7_noDye_18 : decode cX7_noDye 18 = .ok (.aload_n 0, 1) := by decide +kernel
theorem dX7_noDye_19 : decode cX7_noDye 19 = .ok (.getfield 84, 3) := by decide +kernel
theorem dX7_noDye_22 : decode cX7_noDye 22 = .ok (.ifCond .eq 7, 3) := by decide +kernel
theorem dX7_noDye_25 : decode cX7_noDye 25 = .ok (.iconst 1, 1) := by decide +kernel
theorem dX7_noDye_26 : decode cX7_noDye 26 = .ok (.goto 4, 3) := by decide +kernel
theorem dX7_noDye_29 : decode cX7_noDye 29 = .ok (.iconst 0, 1) := by decide +kernel
theorem dX7_noDye_30 : decode cX7_noDye 30 = .ok (.ireturn, 1) := by decide +kernel
set_option maxRecDepth 20000 in
theorem ggX7_addRecipe_X7_isShade : GoodIn wsX7_addRecipe wsX7_isShade := goodIn_r _ [7, 8, 9, 6, 10] (by decide +kernel) (by decide +kernel)
set_option maxRecDepth 20000 in
theorem gX7_addRecipe_X7_isShade : GoodIn wsX7_addRecipe (va_wsS RX7 101 yX7_isShade wsX7_isShade) := goodIn_app (goodIn_of _ (by decide +kernel)) ggX7_addRecipe_X7_isShade
set_option maxRecDepth 20000 in
theorem ggX7_addRecipe_X7_refuse : GoodIn wsX7_addRecipe wsX7_refuse := goodIn_r _ [14, 2, 15, 16, 17, 18, 19, 20, 21, 22, 23, 24, 25, 26, 27, 28, 29, 30, 31, 32, 33, 34, 35, 36, 37, 38, 39, 40, 41, 42, 43] (by decide +kernel) (by decide +kernel)
set_option maxRecDepth 20000 in
theorem gX7_addRecipe_X7_refuse : GoodIn wsX7_addRecipe (wsV RX7 104 RX7 yX7_refuse wsX7_refuse) := goodIn_app (goodIn_of _ (by decide +kernel)) ggX7_addRecipe_X7_refuse
theorem dX7_addRecipe_0 : decode cX7_addRecipe 0 = .ok (.iload_n 1, 1) := by decide +kernel
theorem dX7_addRecipe_1 : decode cX7_addRecipe 1 = .ok (.iload_n 2, 1) := by decide +kernel
theorem dX7_addRecipe_2 : decode cX7_addRecipe 2 = .ok (.iload_n 3, 1) := by decide +kernel
theorem dX7_addRecipe_3 : decode cX7_addRecipe 3 = .ok (.invokestatic 101, 3) := by decide +kernel
theorem dX7_addRecipe_6 : decode cX7_addRecipe 6 = .ok (.ifCond .ne 9, 3) := by decide +kernel
theorem dX7_addRecipe_9 : decode cX7_addRecipe 9 = .ok (.aload_n 0, 1) := by decide +kernel
theorem dX7_addRecipe_10 : decode cX7_addRecipe 10 = .ok (.iconst 1, 1) := by decide +kernel
theorem dX7_addRecipe_11 : decode cX7_addRecipe 11 = .ok (.invokevirtual 104, 3) := by decide +kernel
theorem dX7_addRecipe_14 : decode cX7_addRecipe 14 = .ok (.ireturn, 1) := by decide +kernel
theorem dX7_addRecipe_15 : decode cX7_addRecipe 15 = .ok (.aload_n 0, 1) := by decide +kernel
theorem dX7_addRecipe_16 : decode cX7_addRecipe 16 = .ok (.getfield 108, 3) := by decide +kernel
theorem dX7_addRecipe_19 : decode cX7_addRecipe 19 = .ok (.bipush 8, 2) := by decide +kernel
theorem dX7_addRecipe_21 : decode cX7_addRecipe 21 = .ok (.if_icmp .ne 9, 3) := by decide +kernel
theorem dX7_addRecipe_24 : decode cX7_addRecipe 24 = .ok (.aload_n 0, 1) := by decide +kernel
theorem dX7_addRecipe_25 : decode cX7_addRecipe 25 = .ok (.iconst 2, 1) := by decide +kernel
theorem dX7_addRecipe_26 : decode cX7_addRecipe 26 = .ok (.invokevirtual 104, 3) := by decide +kernel
theorem dX7_addRecipe_29 : decode cX7_addRecipe 29 = .ok (.ireturn, 1) := by decide +kernel
theorem dX7_addRecipe_30 : decode cX7_addRecipe 30 = .ok (.aload_n 0, 1) := by decide +kernel
theorem dX7_addRecipe_31 : decode cX7_addRecipe 31 = .ok (.iconst 0, 1) := by decide +kernel
theorem dX7_addRecipe_32 : decode cX7_addRecipe 32 = .ok (.putfield 84, 3) := by decide +kernel
theorem dX7_addRecipe_35 : decode cX7_addRecipe 35 = .ok (.aload_n 0, 1) := by decide +kernel
theorem dX7_addRecipe_36 : decode cX7_addRecipe 36 = .ok (.getfield 7, 3) := by decide +kernel
theorem dX7_addRecipe_39 : decode cX7_addRecipe 39 = .ok (.iconst 3, 1) := by decide +kernel
theorem dX7_addRecipe_40 : decode cX7_addRecipe 40 = .ok (.aload_n 0, 1) := by decide +kernel
theorem dX7_addRecipe_41 : decode cX7_addRecipe 41 = .ok (.getfield 108, 3) := by decide +kernel
theorem dX7_addRecipe_44 : decode cX7_addRecipe 44 = .ok (.imul, 1) := by decide +kernel
theorem dX7_addRecipe_45 : decode cX7_addRecipe 45 = .ok (.iload_n 1, 1) := by decide +kernel
theorem dX7_addRecipe_46 : decode cX7_addRecipe 46 = .ok (.iastore, 1) := by decide +kernel
theorem dX7_addRecipe_47 : decode cX7_addRecipe 47 = .ok (.aload_n 0, 1) := by decide +kernel
theorem dX7_addRecipe_48 : decode cX7_addRecipe 48 = .ok (.getfield 7, 3) := by decide +kernel
theorem dX7_addRecipe_51 : decode cX7_addRecipe 51 = .ok (.iconst 3, 1) := by decide +kernel
theorem dX7_addRecipe_52 : decode cX7_addRecipe 52 = .ok (.aload_n 0, 1) := by decide +kernel
theorem dX7_addRecipe_53 : decode cX7_addRecipe 53 = .ok (.getfield 108, 3) := by decide +kernel
theorem dX7_addRecipe_56 : decode cX7_addRecipe 56 = .ok (.imul, 1) := by decide +kernel
theorem dX7_addRecipe_57 : decode cX7_addRecipe 57 = .ok (.iconst 1, 1) := by decide +kernel
theorem dX7_addRecipe_58 : decode cX7_addRecipe 58 = .ok (.iadd, 1) := by decide +kernel
theorem dX7_addRecipe_59 : decode cX7_addRecipe 59 = .ok (.iload_n 2, 1) := by decide +kernel
theorem dX7_addRecipe_60 : decode cX7_addRecipe 60 = .ok (.iastore, 1) := by decide +kernel
theorem dX7_addRecipe_61 : decode cX7_addRecipe 61 = .ok (.aload_n 0, 1) := by decide +kernel
theorem dX7_addRecipe_62 : decode cX7_addRecipe 62 = .ok (.getfield 7, 3) := by decide +kernel
theorem dX7_addRecipe_65 : decode cX7_addRecipe 65 = .ok (.iconst 3, 1) := by decide +kernel
theorem dX7_addRecipe_66 : decode cX7_addRecipe 66 = .ok (.aload_n 0, 1) := by decide +kernel
theorem dX7_addRecipe_67 : decode cX7_addRecipe 67 = .ok (.getfield 108, 3) := by decide +kernel
theorem dX7_addRecipe_70 : decode cX7_addRecipe 70 = .ok (.imul, 1) := by decide +kernel
theorem dX7_addRecipe_71 : decode cX7_addRecipe 71 = .ok (.iconst 2, 1) := by decide +kernel
theorem dX7_addRecipe_72 : decode cX7_addRecipe 72 = .ok (.iadd, 1) := by decide +kernel
theorem dX7_addRecipe_73 : decode cX7_addRecipe 73 = .ok (.iload_n 3, 1) := by decide +kernel
theorem dX7_addRecipe_74 : decode cX7_addRecipe 74 = .ok (.iastore, 1) := by decide +kernel
theorem dX7_addRecipe_75 : decode cX7_addRecipe 75 = .ok (.aload_n 0, 1) := by decide +kernel
theorem dX7_addRecipe_76 : decode cX7_addRecipe 76 = .ok (.dup, 1) := by decide +kernel
theorem dX7_addRecipe_77 : decode cX7_addRecipe 77 = .ok (.getfield 108, 3) := by decide +kernel
theorem dX7_addRecipe_80 : decode cX7_addRecipe 80 = .ok (.dup_x1, 1) := by decide +kernel
theorem dX7_addRecipe_81 : decode cX7_addRecipe 81 = .ok (.iconst 1, 1) := by decide +kernel
theorem dX7_addRecipe_82 : decode cX7_addRecipe 82 = .ok (.iadd, 1) := by decide +kernel
theorem dX7_addRecipe_83 : decode cX7_addRecipe 83 = .ok (.putfield 108, 3) := by decide +kernel
theorem dX7_addRecipe_86 : decode cX7_addRecipe 86 = .ok (.ireturn, 1) := by decide +kernel
set_option maxRecDepth 20000 in
theorem ggX7_setDye_X7_isIn : GoodIn wsX7_setDye wsX7_isIn := goodIn_r _ [7] (by decide +kernel) (by decide +kernel)
set_option maxRecDepth 20000 in
theorem gX7_setDye_X7_isIn : GoodIn wsX7_setDye (va_wsS RX7 88 yX7_isIn wsX7_isIn) := goodIn_app (goodIn_of _ (by decide +kernel)) ggX7_setDye_X7_isIn
set_option maxRecDepth 20000 in
theorem ggX7_setDye_X7_refuse : GoodIn wsX7_setDye wsX7_refuse := goodIn_r _ [11, 2, 12, 13, 14, 15, 16, 17, 18, 19, 20, 21, 22, 23, 24, 25, 26, 27, 28, 29, 30, 31, 32, 33, 34, 35, 36, 37, 38, 39, 40] (by decide +kernel) (by decide +kernel)
set_option maxRecDepth 20000 in
theorem gX7_setDye_X7_refuse : GoodIn wsX7_setDye (wsV RX7 104 RX7 yX7_refuse wsX7_refuse) := goodIn_app (goodIn_of _ (by decide +kernel)) ggX7_setDye_X7_refuse
theorem dX7_setDye_0 : decode cX7_setDye 0 = .ok (.iload_n 1, 1) := by decide +kernel
theorem dX7_setDye_1 : decode cX7_setDye 1 = .ok (.iconst 0, 1) := by decide +kernel
theorem dX7_setDye_2 : decode cX7_setDye 2 = .ok (.aload_n 0, 1) := by decide +kernel
theorem dX7_setDye_3 : decode cX7_setDye 3 = .ok (.getfield 108, 3) := by decide +kernel
theorem dX7_setDye_6 : decode cX7_setDye 6 = .ok (.iconst 1, 1) := by decide +kernel
theorem dX7_setDye_7 : decode cX7_setDye 7 = .ok (.isub, 1) := by decide +kernel
theorem dX7_setDye_8 : decode cX7_setDye 8 = .ok (.invokestatic 88, 3) := by decide +kernel
theorem dX7_setDye_11 : decode cX7_setDye 11 = .ok (.ifCond .ne 9, 3) := by decide +kernel
theorem dX7_setDye_14 : decode cX7_setDye 14 = .ok (.aload_n 0, 1) := by decide +kernel
theorem dX7_setDye_15 : decode cX7_setDye 15 = .ok (.iconst 1, 1) := by decide +kernel
theorem dX7_setDye_16 : decode cX7_setDye 16 = .ok (.invokevirtual 104, 3) := by decide +kernel
theorem dX7_setDye_19 : decode cX7_setDye 19 = .ok (.ireturn, 1) := by decide +kernel
theorem dX7_setDye_20 : decode cX7_setDye 20 = .ok (.iload_n 2, 1) := by decide +kernel
theorem dX7_setDye_21 : decode cX7_setDye 21 = .ok (.iconst 0, 1) := by decide +kernel
theorem dX7_setDye_22 : decode cX7_setDye 22 = .ok (.iconst 2, 1) := by decide +kernel
theorem dX7_setDye_23 : decode cX7_setDye 23 = .ok (.invokestatic 88, 3) := by decide +kernel
theorem dX7_setDye_26 : decode cX7_setDye 26 = .ok (.ifCond .eq 14, 3) := by decide +kernel
theorem dX7_setDye_29 : decode cX7_setDye 29 = .ok (.iload_n 3, 1) := by decide +kernel
theorem dX7_setDye_30 : decode cX7_setDye 30 = .ok (.iconst 0, 1) := by decide +kernel
theorem dX7_setDye_31 : decode cX7_setDye 31 = .ok (.sipush 5000, 3) := by decide +kernel
theorem dX7_setDye_34 : decode cX7_setDye 34 = .ok (.invokestatic 88, 3) := by decide +kernel
theorem dX7_setDye_37 : decode cX7_setDye 37 = .ok (.ifCond .ne 9, 3) := by decide +kernel
theorem dX7_setDye_40 : decode cX7_setDye 40 = .ok (.aload_n 0, 1) := by decide +kernel
theorem dX7_setDye_41 : decode cX7_setDye 41 = .ok (.iconst 2, 1) := by decide +kernel
theorem dX7_setDye_42 : decode cX7_setDye 42 = .ok (.invokevirtual 104, 3) := by decide +kernel
theorem dX7_setDye_45 : decode cX7_setDye 45 = .ok (.ireturn, 1) := by decide +kernel
theorem dX7_setDye_46 : decode cX7_setDye 46 = .ok (.aload_n 0, 1) := by decide +kernel
theorem dX7_setDye_47 : decode cX7_setDye 47 = .ok (.iconst 0, 1) := by decide +kernel
theorem dX7_setDye_48 : decode cX7_setDye 48 = .ok (.putfield 84, 3) := by decide +kernel
theorem dX7_setDye_51 : decode cX7_setDye 51 = .ok (.aload_n 0, 1) := by decide +kernel
theorem dX7_setDye_52 : decode cX7_setDye 52 = .ok (.getfield 13, 3) := by decide +kernel
theorem dX7_setDye_55 : decode cX7_setDye 55 = .ok (.iconst 3, 1) := by decide +kernel
theorem dX7_setDye_56 : decode cX7_setDye 56 = .ok (.iload_n 1, 1) := by decide +kernel
theorem dX7_setDye_57 : decode cX7_setDye 57 = .ok (.imul, 1) := by decide +kernel
theorem dX7_setDye_58 : decode cX7_setDye 58 = .ok (.iload_n 2, 1) := by decide +kernel
theorem dX7_setDye_59 : decode cX7_setDye 59 = .ok (.iadd, 1) := by decide +kernel
theorem dX7_setDye_60 : decode cX7_setDye 60 = .ok (.iaload, 1) := by decide +kernel
theorem dX7_setDye_61 : decode cX7_setDye 61 = .ok (.istore 4, 2) := by decide +kernel
theorem dX7_setDye_63 : decode cX7_setDye 63 = .ok (.aload_n 0, 1) := by decide +kernel
theorem dX7_setDye_64 : decode cX7_setDye 64 = .ok (.getfield 13, 3) := by decide +kernel
theorem dX7_setDye_67 : decode cX7_setDye 67 = .ok (.iconst 3, 1) := by decide +kernel
theorem dX7_setDye_68 : decode cX7_setDye 68 = .ok (.iload_n 1, 1) := by decide +kernel
theorem dX7_setDye_69 : decode cX7_setDye 69 = .ok (.imul, 1) := by decide +kernel
theorem dX7_setDye_70 : decode cX7_setDye 70 = .ok (.iload_n 2, 1) := by decide +kernel
theorem dX7_setDye_71 : decode cX7_setDye 71 = .ok (.iadd, 1) := by decide +kernel
theorem dX7_setDye_72 : decode cX7_setDye 72 = .ok (.iload_n 3, 1) := by decide +kernel
theorem dX7_setDye_73 : decode cX7_setDye 73 = .ok (.iastore, 1) := by decide +kernel
theorem dX7_setDye_74 : decode cX7_setDye 74 = .ok (.iload 4, 2) := by decide +kernel
theorem dX7_setDye_76 : decode cX7_setDye 76 = .ok (.ireturn, 1) := by decide +kernel
set_option maxRecDepth 20000 in
theorem ggX7_supply_X7_isIn : GoodIn wsX7_supply wsX7_isIn := goodIn_r _ [8] (by decide +kernel) (by decide +kernel)
set_option maxRecDepth 20000 in
theorem gX7_supply_X7_isIn : GoodIn wsX7_supply (va_wsS RX7 88 yX7_isIn wsX7_isIn) := goodIn_app (goodIn_of _ (by decide +kernel)) ggX7_supply_X7_isIn
set_option maxRecDepth 20000 in
theorem ggX7_supply_X7_refuse : GoodIn wsX7_supply wsX7_refuse := goodIn_r _ [12, 4, 13, 14, 15, 16, 17, 18, 19, 20, 21, 22, 23, 24, 25, 26, 27, 28, 29, 30, 31, 32, 33, 34, 35, 36, 37, 38, 39, 40, 41] (by decide +kernel) (by decide +kernel)
set_option maxRecDepth 20000 in
theorem gX7_supply_X7_refuse : GoodIn wsX7_supply (wsV RX7 104 RX7 yX7_refuse wsX7_refuse) := goodIn_app (goodIn_of _ (by decide +kernel)) ggX7_supply_X7_refuse
theorem dX7_supply_0 : decode cX7_supply 0 = .ok (.iload_n 1, 1) := by decide +kernel
theorem dX7_supply_1 : decode cX7_supply 1 = .ok (.iconst 0, 1) := by decide +kernel
theorem dX7_supply_2 : decode cX7_supply 2 = .ok (.iconst 2, 1) := by decide +kernel
theorem dX7_supply_3 : decode cX7_supply 3 = .ok (.invokestatic 88, 3) := by decide +kernel
theorem dX7_supply_6 : decode cX7_supply 6 = .ok (.ifCond .eq 13, 3) := by decide +kernel
theorem dX7_supply_9 : decode cX7_supply 9 = .ok (.iload_n 2, 1) := by decide +kernel
theorem dX7_supply_10 : decode cX7_supply 10 = .ok (.iconst 1, 1) := by decide +kernel
theorem dX7_supply_11 : decode cX7_supply 11 = .ok (.ldc 111, 2) := by decide +kernel
theorem dX7_supply_13 : decode cX7_supply 13 = .ok (.invokestatic 88, 3) := by decide +kernel
theorem dX7_supply_16 : decode cX7_supply 16 = .ok (.ifCond .ne 9, 3) := by decide +kernel
theorem dX7_supply_19 : decode cX7_supply 19 = .ok (.aload_n 0, 1) := by decide +kernel
theorem dX7_supply_20 : decode cX7_supply 20 = .ok (.iconst 1, 1) := by decide +kernel
theorem dX7_supply_21 : decode cX7_supply 21 = .ok (.invokevirtual 104, 3) := by decide +kernel
theorem dX7_supply_24 : decode cX7_supply 24 = .ok (.ireturn, 1) := by decide +kernel
theorem dX7_supply_25 : decode cX7_supply 25 = .ok (.aload_n 0, 1) := by decide +kernel
theorem dX7_supply_26 : decode cX7_supply 26 = .ok (.getfield 16, 3) := by decide +kernel
theorem dX7_supply_29 : decode cX7_supply 29 = .ok (.iload_n 1, 1) := by decide +kernel
theorem dX7_supply_30 : decode cX7_supply 30 = .ok (.iaload, 1) := by decide +kernel
theorem dX7_supply_31 : decode cX7_supply 31 = .ok (.iload_n 2, 1) := by decide +kernel
theorem dX7_supply_32 : decode cX7_supply 32 = .ok (.iadd, 1) := by decide +kernel
theorem dX7_supply_33 : decode cX7_supply 33 = .ok (.ldc 112, 2) := by decide +kernel
theorem dX7_supply_35 : decode cX7_supply 35 = .ok (.if_icmp .le 9, 3) := by decide +kernel
theorem dX7_supply_38 : decode cX7_supply 38 = .ok (.aload_n 0, 1) := by decide +kernel
theorem dX7_supply_39 : decode cX7_supply 39 = .ok (.iconst 2, 1) := by decide +kernel
theorem dX7_supply_40 : decode cX7_supply 40 = .ok (.invokevirtual 104, 3) := by decide +kernel
theorem dX7_supply_43 : decode cX7_supply 43 = .ok (.ireturn, 1) := by decide +kernel
theorem dX7_supply_44 : decode cX7_supply 44 = .ok (.aload_n 0, 1) := by decide +kernel
theorem dX7_supply_45 : decode cX7_supply 45 = .ok (.iconst 0, 1) := by decide +kernel
theorem dX7_supply_46 : decode cX7_supply 46 = .ok (.putfield 84, 3) := by decide +kernel
theorem dX7_supply_49 : decode cX7_supply 49 = .ok (.aload_n 0, 1) := by decide +kernel
theorem dX7_supply_50 : decode cX7_supply 50 = .ok (.getfield 16, 3) := by decide +kernel
theorem dX7_supply_53 : decode cX7_supply 53 = .ok (.iload_n 1, 1) := by decide +kernel
theorem dX7_supply_54 : decode cX7_supply 54 = .ok (.dup2, 1) := by decide +kernel
theorem dX7_supply_55 : decode cX7_supply 55 = .ok (.iaload, 1) := by decide +kernel
theorem dX7_supply_56 : decode cX7_supply 56 = .ok (.iload_n 2, 1) := by decide +kernel
theorem dX7_supply_57 : decode cX7_supply 57 = .ok (.iadd, 1) := by decide +kernel
theorem dX7_supply_58 : decode cX7_supply 58 = .ok (.iastore, 1) := by decide +kernel
theorem dX7_supply_59 : decode cX7_supply 59 = .ok (.aload_n 0, 1) := by decide +kernel
theorem dX7_supply_60 : decode cX7_supply 60 = .ok (.getfield 16, 3) := by decide +kernel
theorem dX7_supply_63 : decode cX7_supply 63 = .ok (.iload_n 1, 1) := by decide +kernel
theorem dX7_supply_64 : decode cX7_supply 64 = .ok (.iaload, 1) := by decide +kernel
theorem dX7_supply_65 : decode cX7_supply 65 = .ok (.ireturn, 1) := by decide +kernel
set_option maxRecDepth 20000 in
theorem ggX7_stock_X7_noDye : GoodIn wsX7_stock wsX7_noDye := goodIn_r _ [6, 7, 8, 9, 5, 10, 11, 12, 13, 14, 15, 16, 17, 18, 19, 20, 21, 22, 23, 24, 25, 26, 27, 28, 29, 30, 31, 32, 33, 34, 35, 36, 37, 38, 39] (by decide +kernel) (by decide +kernel)
set_option maxRecDepth 20000 in
theorem gX7_stock_X7_noDye : GoodIn wsX7_stock (wsV RX7 113 RX7 yX7_noDye wsX7_noDye) := goodIn_app (goodIn_of _ (by decide +kernel)) ggX7_stock_X7_noDye
theorem dX7_stock_0 : decode cX7_stock 0 = .ok (.aload_n 0, 1) := by decide +kernel
theorem dX7_stock_1 : decode cX7_stock 1 = .ok (.iload_n 1, 1) := by decide +kernel
theorem dX7_stock_2 : decode cX7_stock 2 = .ok (.invokevirtual 113, 3) := by decide +kernel
theorem dX7_stock_5 : decode cX7_stock 5 = .ok (.ifCond .eq 7, 3) := by decide +kernel
theorem dX7_stock_8 : decode cX7_stock 8 = .ok (.iconst 0, 1) := by decide +kernel
theorem dX7_stock_9 : decode cX7_stock 9 = .ok (.goto 9, 3) := by decide +kernel
theorem dX7_stock_12 : decode cX7_stock 12 = .ok (.aload_n 0, 1) := by decide +kernel
theorem dX7_stock_13 : decode cX7_stock 13 = .ok (.getfield 16, 3) := by decide +kernel
theorem dX7_stock_16 : decode cX7_stock 16 = .ok (.iload_n 1, 1) := by decide +kernel
theorem dX7_stock_17 : decode cX7_stock 17 = .ok (.iaload, 1) := by decide +kernel
theorem dX7_stock_18 : decode cX7_stock 18 = .ok (.ireturn, 1) := by decide +kernel
set_option maxRecDepth 20000 in
theorem ggX7_addOrder_X7_isIn : GoodIn wsX7_addOrder wsX7_isIn := goodIn_r _ [12] (by decide +kernel) (by decide +kernel)
set_option maxRecDepth 20000 in
theorem gX7_addOrder_X7_isIn : GoodIn wsX7_addOrder (va_wsS RX7 88 yX7_isIn wsX7_isIn) := goodIn_app (goodIn_of _ (by decide +kernel)) ggX7_addOrder_X7_isIn
set_option maxRecDepth 20000 in
theorem ggX7_addOrder_X7_refuse : GoodIn wsX7_addOrder wsX7_refuse := goodIn_r _ [16, 3, 17, 18, 19, 20, 21, 22, 23, 24, 25, 26, 27, 28, 29, 30, 31, 32, 33, 34, 35, 36, 37, 38, 39, 40, 41, 42, 43, 44, 45] (by decide +kernel) (by decide +kernel)
set_option maxRecDepth 20000 in
theorem gX7_addOrder_X7_refuse : GoodIn wsX7_addOrder (wsV RX7 104 RX7 yX7_refuse wsX7_refuse) := goodIn_app (goodIn_of _ (by decide +kernel)) ggX7_addOrder_X7_refuse
theorem dX7_addOrder_0 : decode cX7_addOrder 0 = .ok (.iload_n 2, 1) := by decide +kernel
theorem dX7_addOrder_1 : decode cX7_addOrder 1 = .ok (.iconst 0, 1) := by decide +kernel
theorem dX7_addOrder_2 : decode cX7_addOrder 2 = .ok (.aload_n 0, 1) := by decide +kernel
theorem dX7_addOrder_3 : decode cX7_addOrder 3 = .ok (.getfield 108, 3) := by decide +kernel
theorem dX7_addOrder_6 : decode cX7_addOrder 6 = .ok (.iconst 1, 1) := by decide +kernel
theorem dX7_addOrder_7 : decode cX7_addOrder 7 = .ok (.isub, 1) := by decide +kernel
theorem dX7_addOrder_8 : decode cX7_addOrder 8 = .ok (.invokestatic 88, 3) := by decide +kernel
theorem dX7_addOrder_11 : decode cX7_addOrder 11 = .ok (.ifCond .ne 9, 3) := by decide +kernel
theorem dX7_addOrder_14 : decode cX7_addOrder 14 = .ok (.aload_n 0, 1) := by decide +kernel
theorem dX7_addOrder_15 : decode cX7_addOrder 15 = .ok (.iconst 1, 1) := by decide +kernel
theorem dX7_addOrder_16 : decode cX7_addOrder 16 = .ok (.invokevirtual 104, 3) := by decide +kernel
theorem dX7_addOrder_19 : decode cX7_addOrder 19 = .ok (.ireturn, 1) := by decide +kernel
theorem dX7_addOrder_20 : decode cX7_addOrder 20 = .ok (.iload_n 1, 1) := by decide +kernel
theorem dX7_addOrder_21 : decode cX7_addOrder 21 = .ok (.iconst 0, 1) := by decide +kernel
theorem dX7_addOrder_22 : decode cX7_addOrder 22 = .ok (.iconst 3, 1) := by decide +kernel
theorem dX7_addOrder_23 : decode cX7_addOrder 23 = .ok (.invokestatic 88, 3) := by decide +kernel
theorem dX7_addOrder_26 : decode cX7_addOrder 26 = .ok (.ifCond .eq 35, 3) := by decide +kernel
theorem dX7_addOrder_29 : decode cX7_addOrder 29 = .ok (.iload_n 3, 1) := by decide +kernel
theorem dX7_addOrder_30 : decode cX7_addOrder 30 = .ok (.iconst 0, 1) := by decide +kernel
theorem dX7_addOrder_31 : decode cX7_addOrder 31 = .ok (.bipush 30, 2) := by decide +kernel
theorem dX7_addOrder_33 : decode cX7_addOrder 33 = .ok (.invokestatic 88, 3) := by decide +kernel
theorem dX7_addOrder_36 : decode cX7_addOrder 36 = .ok (.ifCond .eq 25, 3) := by decide +kernel
theorem dX7_addOrder_39 : decode cX7_addOrder 39 = .ok (.iload 4, 2) := by decide +kernel
theorem dX7_addOrder_41 : decode cX7_addOrder 41 = .ok (.iconst 0, 1) := by decide +kernel
theorem dX7_addOrder_42 : decode cX7_addOrder 42 = .ok (.bipush 99, 2) := by decide +kernel
theorem dX7_addOrder_44 : decode cX7_addOrder 44 = .ok (.invokestatic 88, 3) := by decide +kernel
theorem dX7_addOrder_47 : decode cX7_addOrder 47 = .ok (.ifCond .eq 14, 3) := by decide +kernel
theorem dX7_addOrder_50 : decode cX7_addOrder 50 = .ok (.iload 5, 2) := by decide +kernel
theorem dX7_addOrder_52 : decode cX7_addOrder 52 = .ok (.iconst 0, 1) := by decide +kernel
theorem dX7_addOrder_53 : decode cX7_addOrder 53 = .ok (.bipush 99, 2) := by decide +kernel
theorem dX7_addOrder_55 : decode cX7_addOrder 55 = .ok (.invokestatic 88, 3) := by decide +kernel
theorem dX7_addOrder_58 : decode cX7_addOrder 58 = .ok (.ifCond .ne 9, 3) := by decide +kernel
theorem dX7_addOrder_61 : decode cX7_addOrder 61 = .ok (.aload_n 0, 1) := by decide +kernel
theorem dX7_addOrder_62 : decode cX7_addOrder 62 = .ok (.iconst 2, 1) := by decide +kernel
theorem dX7_addOrder_63 : decode cX7_addOrder 63 = .ok (.invokevirtual 104, 3) := by decide +kernel
theorem dX7_addOrder_66 : decode cX7_addOrder 66 = .ok (.ireturn, 1) := by decide +kernel
theorem dX7_addOrder_67 : decode cX7_addOrder 67 = .ok (.aload_n 0, 1) := by decide +kernel
theorem dX7_addOrder_68 : decode cX7_addOrder 68 = .ok (.getfield 98, 3) := by decide +kernel
theorem dX7_addOrder_71 : decode cX7_addOrder 71 = .ok (.bipush 6, 2) := by decide +kernel
theorem dX7_addOrder_73 : decode cX7_addOrder 73 = .ok (.if_icmp .ne 9, 3) := by decide +kernel
theorem dX7_addOrder_76 : decode cX7_addOrder 76 = .ok (.aload_n 0, 1) := by decide +kernel
theorem dX7_addOrder_77 : decode cX7_addOrder 77 = .ok (.iconst 3, 1) := by decide +kernel
theorem dX7_addOrder_78 : decode cX7_addOrder 78 = .ok (.invokevirtual 104, 3) := by decide +kernel
theorem dX7_addOrder_81 : decode cX7_addOrder 81 = .ok (.ireturn, 1) := by decide +kernel
theorem dX7_addOrder_82 : decode cX7_addOrder 82 = .ok (.aload_n 0, 1) := by decide +kernel
theorem dX7_addOrder_83 : decode cX7_addOrder 83 = .ok (.iconst 0, 1) := by decide +kernel
theorem dX7_addOrder_84 : decode cX7_addOrder 84 = .ok (.putfield 84, 3) := by decide +kernel
theorem dX7_addOrder_87 : decode cX7_addOrder 87 = .ok (.aload_n 0, 1) := by decide +kernel
theorem dX7_addOrder_88 : decode cX7_addOrder 88 = .ok (.getfield 23, 3) := by decide +kernel
theorem dX7_addOrder_91 : decode cX7_addOrder 91 = .ok (.aload_n 0, 1) := by decide +kernel
theorem dX7_addOrder_92 : decode cX7_addOrder 92 = .ok (.getfield 98, 3) := by decide +kernel
theorem dX7_addOrder_95 : decode cX7_addOrder 95 = .ok (.iload_n 1, 1) := by decide +kernel
theorem dX7_addOrder_96 : decode cX7_addOrder 96 = .ok (.iastore, 1) := by decide +kernel
theorem dX7_addOrder_97 : decode cX7_addOrder 97 = .ok (.aload_n 0, 1) := by decide +kernel
theorem dX7_addOrder_98 : decode cX7_addOrder 98 = .ok (.getfield 26, 3) := by decide +kernel
theorem dX7_addOrder_101 : decode cX7_addOrder 101 = .ok (.aload_n 0, 1) := by decide +kernel
theorem dX7_addOrder_102 : decode cX7_addOrder 102 = .ok (.getfield 98, 3) := by decide +kernel
theorem dX7_addOrder_105 : decode cX7_addOrder 105 = .ok (.iload_n 2, 1) := by decide +kernel
theorem dX7_addOrder_106 : decode cX7_addOrder 106 = .ok (.iastore, 1) := by decide +kernel
theorem dX7_addOrder_107 : decode cX7_addOrder 107 = .ok (.aload_n 0, 1) := by decide +kernel
theorem dX7_addOrder_108 : decode cX7_addOrder 108 = .ok (.getfield 29, 3) := by decide +kernel
theorem dX7_addOrder_111 : decode cX7_addOrder 111 = .ok (.aload_n 0, 1) := by decide +kernel
theorem dX7_addOrder_112 : decode cX7_addOrder 112 = .ok (.getfield 98, 3) := by decide +kernel
theorem dX7_addOrder_115 : decode cX7_addOrder 115 = .ok (.iload_n 3, 1) := by decide +kernel
theorem dX7_addOrder_116 : decode cX7_addOrder 116 = .ok (.iastore, 1) := by decide +kernel
theorem dX7_addOrder_117 : decode cX7_addOrder 117 = .ok (.aload_n 0, 1) := by decide +kernel
theorem dX7_addOrder_118 : decode cX7_addOrder 118 = .ok (.getfield 32, 3) := by decide +kernel
theorem dX7_addOrder_121 : decode cX7_addOrder 121 = .ok (.aload_n 0, 1) := by decide +kernel
theorem dX7_addOrder_122 : decode cX7_addOrder 122 = .ok (.getfield 98, 3) := by decide +kernel
theorem dX7_addOrder_125 : decode cX7_addOrder 125 = .ok (.iload 4, 2) := by decide +kernel
theorem dX7_addOrder_127 : decode cX7_addOrder 127 = .ok (.iastore, 1) := by decide +kernel
theorem dX7_addOrder_128 : decode cX7_addOrder 128 = .ok (.aload_n 0, 1) := by decide +kernel
theorem dX7_addOrder_129 : decode cX7_addOrder 129 = .ok (.getfield 35, 3) := by decide +kernel
theorem dX7_addOrder_132 : decode cX7_addOrder 132 = .ok (.aload_n 0, 1) := by decide +kernel
theorem dX7_addOrder_133 : decode cX7_addOrder 133 = .ok (.getfield 98, 3) := by decide +kernel
theorem dX7_addOrder_136 : decode cX7_addOrder 136 = .ok (.iload 5, 2) := by decide +kernel
theorem dX7_addOrder_138 : decode cX7_addOrder 138 = .ok (.iastore, 1) := by decide +kernel
theorem dX7_addOrder_139 : decode cX7_addOrder 139 = .ok (.aload_n 0, 1) := by decide +kernel
theorem dX7_addOrder_140 : decode cX7_addOrder 140 = .ok (.dup, 1) := by decide +kernel
theorem dX7_addOrder_141 : decode cX7_addOrder 141 = .ok (.getfield 98, 3) := by decide +kernel
theorem dX7_addOrder_144 : decode cX7_addOrder 144 = .ok (.dup_x1, 1) := by decide +kernel
theorem dX7_addOrder_145 : decode cX7_addOrder 145 = .ok (.iconst 1, 1) := by decide +kernel
theorem dX7_addOrder_146 : decode cX7_addOrder 146 = .ok (.iadd, 1) := by decide +kernel
theorem dX7_addOrder_147 : decode cX7_addOrder 147 = .ok (.putfield 98, 3) := by decide +kernel
theorem dX7_addOrder_150 : decode cX7_addOrder 150 = .ok (.ireturn, 1) := by decide +kernel
set_option maxRecDepth 20000 in
theorem ggX7_addLot_X7_noOrder : GoodIn wsX7_addLot wsX7_noOrder := goodIn_r _ [10, 11, 12, 13, 14, 9, 15, 20, 21, 22, 23, 24, 25, 26, 27, 28, 29, 30, 31, 32, 33, 34, 35, 36, 37, 38, 39, 40, 41, 42, 43, 44, 45, 46, 47, 48] (by decide +kernel) (by decide +kernel)
set_option maxRecDepth 20000 in
theorem gX7_addLot_X7_noOrder : GoodIn wsX7_addLot (wsV RX7 117 RX7 yX7_noOrder wsX7_noOrder) := goodIn_app (goodIn_of _ (by decide +kernel)) ggX7_addLot_X7_noOrder
set_option maxRecDepth 20000 in
theorem ggX7_addLot_X7_isIn : GoodIn wsX7_addLot wsX7_isIn := goodIn_r _ [15] (by decide +kernel) (by decide +kernel)
set_option maxRecDepth 20000 in
theorem gX7_addLot_X7_isIn : GoodIn wsX7_addLot (va_wsS RX7 88 yX7_isIn wsX7_isIn) := goodIn_app (goodIn_of _ (by decide +kernel)) ggX7_addLot_X7_isIn
set_option maxRecDepth 20000 in
theorem ggX7_addLot_X7_refuse : GoodIn wsX7_addLot wsX7_refuse := goodIn_r _ [19, 12, 20, 21, 22, 23, 24, 25, 26, 27, 28, 29, 30, 31, 32, 33, 34, 35, 36, 37, 38, 39, 40, 41, 42, 43, 44, 45, 46, 47, 48] (by decide +kernel) (by decide +kernel)
set_option maxRecDepth 20000 in
theorem gX7_addLot_X7_refuse : GoodIn wsX7_addLot (wsV RX7 104 RX7 yX7_refuse wsX7_refuse) := goodIn_app (goodIn_of _ (by decide +kernel)) ggX7_addLot_X7_refuse
theorem dX7_addLot_0 : decode cX7_addLot 0 = .ok (.aload_n 0, 1) := by decide +kernel
theorem dX7_addLot_1 : decode cX7_addLot 1 = .ok (.iload_n 1, 1) := by decide +kernel
theorem dX7_addLot_2 : decode cX7_addLot 2 = .ok (.invokevirtual 117, 3) := by decide +kernel
theorem dX7_addLot_5 : decode cX7_addLot 5 = .ok (.ifCond .eq 5, 3) := by decide +kernel
theorem dX7_addLot_8 : decode cX7_addLot 8 = .ok (.iconst 0, 1) := by decide +kernel
theorem dX7_addLot_9 : decode cX7_addLot 9 = .ok (.ireturn, 1) := by decide +kernel
theorem dX7_addLot_10 : decode cX7_addLot 10 = .ok (.iload_n 2, 1) := by decide +kernel
theorem dX7_addLot_11 : decode cX7_addLot 11 = .ok (.iconst 1, 1) := by decide +kernel
theorem dX7_addLot_12 : decode cX7_addLot 12 = .ok (.sipush 200, 3) := by decide +kernel
theorem dX7_addLot_15 : decode cX7_addLot 15 = .ok (.invokestatic 88, 3) := by decide +kernel
theorem dX7_addLot_18 : decode cX7_addLot 18 = .ok (.ifCond .ne 9, 3) := by decide +kernel
theorem dX7_addLot_21 : decode cX7_addLot 21 = .ok (.aload_n 0, 1) := by decide +kernel
theorem dX7_addLot_22 : decode cX7_addLot 22 = .ok (.iconst 2, 1) := by decide +kernel
theorem dX7_addLot_23 : decode cX7_addLot 23 = .ok (.invokevirtual 104, 3) := by decide +kernel
theorem dX7_addLot_26 : decode cX7_addLot 26 = .ok (.ireturn, 1) := by decide +kernel
theorem dX7_addLot_27 : decode cX7_addLot 27 = .ok (.aload_n 0, 1) := by decide +kernel
theorem dX7_addLot_28 : decode cX7_addLot 28 = .ok (.getfield 92, 3) := by decide +kernel
theorem dX7_addLot_31 : decode cX7_addLot 31 = .ok (.bipush 24, 2) := by decide +kernel
theorem dX7_addLot_33 : decode cX7_addLot 33 = .ok (.if_icmp .ne 9, 3) := by decide +kernel
theorem dX7_addLot_36 : decode cX7_addLot 36 = .ok (.aload_n 0, 1) := by decide +kernel
theorem dX7_addLot_37 : decode cX7_addLot 37 = .ok (.iconst 3, 1) := by decide +kernel
theorem dX7_addLot_38 : decode cX7_addLot 38 = .ok (.invokevirtual 104, 3) := by decide +kernel
theorem dX7_addLot_41 : decode cX7_addLot 41 = .ok (.ireturn, 1) := by decide +kernel
theorem dX7_addLot_42 : decode cX7_addLot 42 = .ok (.aload_n 0, 1) := by decide +kernel
theorem dX7_addLot_43 : decode cX7_addLot 43 = .ok (.getfield 38, 3) := by decide +kernel
theorem dX7_addLot_46 : decode cX7_addLot 46 = .ok (.aload_n 0, 1) := by decide +kernel
theorem dX7_addLot_47 : decode cX7_addLot 47 = .ok (.getfield 92, 3) := by decide +kernel
theorem dX7_addLot_50 : decode cX7_addLot 50 = .ok (.iload_n 1, 1) := by decide +kernel
theorem dX7_addLot_51 : decode cX7_addLot 51 = .ok (.iastore, 1) := by decide +kernel
theorem dX7_addLot_52 : decode cX7_addLot 52 = .ok (.aload_n 0, 1) := by decide +kernel
theorem dX7_addLot_53 : decode cX7_addLot 53 = .ok (.getfield 41, 3) := by decide +kernel
theorem dX7_addLot_56 : decode cX7_addLot 56 = .ok (.aload_n 0, 1) := by decide +kernel
theorem dX7_addLot_57 : decode cX7_addLot 57 = .ok (.getfield 92, 3) := by decide +kernel
theorem dX7_addLot_60 : decode cX7_addLot 60 = .ok (.iload_n 2, 1) := by decide +kernel
theorem dX7_addLot_61 : decode cX7_addLot 61 = .ok (.iastore, 1) := by decide +kernel
theorem dX7_addLot_62 : decode cX7_addLot 62 = .ok (.aload_n 0, 1) := by decide +kernel
theorem dX7_addLot_63 : decode cX7_addLot 63 = .ok (.getfield 59, 3) := by decide +kernel
theorem dX7_addLot_66 : decode cX7_addLot 66 = .ok (.aload_n 0, 1) := by decide +kernel
theorem dX7_addLot_67 : decode cX7_addLot 67 = .ok (.getfield 92, 3) := by decide +kernel
theorem dX7_addLot_70 : decode cX7_addLot 70 = .ok (.bipush 119, 2) := by decide +kernel
theorem dX7_addLot_72 : decode cX7_addLot 72 = .ok (.castore, 1) := by decide +kernel
theorem dX7_addLot_73 : decode cX7_addLot 73 = .ok (.aload_n 0, 1) := by decide +kernel
theorem dX7_addLot_74 : decode cX7_addLot 74 = .ok (.getfield 56, 3) := by decide +kernel
theorem dX7_addLot_77 : decode cX7_addLot 77 = .ok (.aload_n 0, 1) := by decide +kernel
theorem dX7_addLot_78 : decode cX7_addLot 78 = .ok (.getfield 92, 3) := by decide +kernel
theorem dX7_addLot_81 : decode cX7_addLot 81 = .ok (.iconst (-1), 1) := by decide +kernel
theorem dX7_addLot_82 : decode cX7_addLot 82 = .ok (.iastore, 1) := by decide +kernel
theorem dX7_addLot_83 : decode cX7_addLot 83 = .ok (.aload_n 0, 1) := by decide +kernel
theorem dX7_addLot_84 : decode cX7_addLot 84 = .ok (.dup, 1) := by decide +kernel
theorem dX7_addLot_85 : decode cX7_addLot 85 = .ok (.getfield 92, 3) := by decide +kernel
theorem dX7_addLot_88 : decode cX7_addLot 88 = .ok (.dup_x1, 1) := by decide +kernel
theorem dX7_addLot_89 : decode cX7_addLot 89 = .ok (.iconst 1, 1) := by decide +kernel
theorem dX7_addLot_90 : decode cX7_addLot 90 = .ok (.iadd, 1) := by decide +kernel
theorem dX7_addLot_91 : decode cX7_addLot 91 = .ok (.putfield 92, 3) := by decide +kernel
theorem dX7_addLot_94 : decode cX7_addLot 94 = .ok (.ireturn, 1) := by decide +kernel
set_option maxRecDepth 20000 in
theorem ggX7_addVat_X7_isIn : GoodIn wsX7_addVat wsX7_isIn := goodIn_r _ [9] (by decide +kernel) (by decide +kernel)
set_option maxRecDepth 20000 in
theorem gX7_addVat_X7_isIn : GoodIn wsX7_addVat (va_wsS RX7 88 yX7_isIn wsX7_isIn) := goodIn_app (goodIn_of _ (by decide +kernel)) ggX7_addVat_X7_isIn
set_option maxRecDepth 20000 in
theorem ggX7_addVat_X7_refuse : GoodIn wsX7_addVat wsX7_refuse := goodIn_r _ [13, 2, 14, 15, 16, 17, 18, 19, 20, 21, 22, 23, 24, 25, 26, 27, 28, 29, 30, 31, 32, 33, 34, 35, 36, 37, 38, 39, 40, 41, 42] (by decide +kernel) (by decide +kernel)
set_option maxRecDepth 20000 in
theorem gX7_addVat_X7_refuse : GoodIn wsX7_addVat (wsV RX7 104 RX7 yX7_refuse wsX7_refuse) := goodIn_app (goodIn_of _ (by decide +kernel)) ggX7_addVat_X7_refuse
theorem dX7_addVat_0 : decode cX7_addVat 0 = .ok (.iload_n 1, 1) := by decide +kernel
theorem dX7_addVat_1 : decode cX7_addVat 1 = .ok (.bipush 10, 2) := by decide +kernel
theorem dX7_addVat_3 : decode cX7_addVat 3 = .ok (.sipush 300, 3) := by decide +kernel
theorem dX7_addVat_6 : decode cX7_addVat 6 = .ok (.invokestatic 88, 3) := by decide +kernel
theorem dX7_addVat_9 : decode cX7_addVat 9 = .ok (.ifCond .ne 9, 3) := by decide +kernel
theorem dX7_addVat_12 : decode cX7_addVat 12 = .ok (.aload_n 0, 1) := by decide +kernel
theorem dX7_addVat_13 : decode cX7_addVat 13 = .ok (.iconst 1, 1) := by decide +kernel
theorem dX7_addVat_14 : decode cX7_addVat 14 = .ok (.invokevirtual 104, 3) := by decide +kernel
theorem dX7_addVat_17 : decode cX7_addVat 17 = .ok (.ireturn, 1) := by decide +kernel
theorem dX7_addVat_18 : decode cX7_addVat 18 = .ok (.aload_n 0, 1) := by decide +kernel
theorem dX7_addVat_19 : decode cX7_addVat 19 = .ok (.getfield 95, 3) := by decide +kernel
theorem dX7_addVat_22 : decode cX7_addVat 22 = .ok (.iconst 4, 1) := by decide +kernel
theorem dX7_addVat_23 : decode cX7_addVat 23 = .ok (.if_icmp .ne 9, 3) := by decide +kernel
theorem dX7_addVat_26 : decode cX7_addVat 26 = .ok (.aload_n 0, 1) := by decide +kernel
theorem dX7_addVat_27 : decode cX7_addVat 27 = .ok (.iconst 2, 1) := by decide +kernel
theorem dX7_addVat_28 : decode cX7_addVat 28 = .ok (.invokevirtual 104, 3) := by decide +kernel
theorem dX7_addVat_31 : decode cX7_addVat 31 = .ok (.ireturn, 1) := by decide +kernel
theorem dX7_addVat_32 : decode cX7_addVat 32 = .ok (.aload_n 0, 1) := by decide +kernel
theorem dX7_addVat_33 : decode cX7_addVat 33 = .ok (.iconst 0, 1) := by decide +kernel
theorem dX7_addVat_34 : decode cX7_addVat 34 = .ok (.putfield 84, 3) := by decide +kernel
theorem dX7_addVat_37 : decode cX7_addVat 37 = .ok (.aload_n 0, 1) := by decide +kernel
theorem dX7_addVat_38 : decode cX7_addVat 38 = .ok (.getfield 63, 3) := by decide +kernel
theorem dX7_addVat_41 : decode cX7_addVat 41 = .ok (.aload_n 0, 1) := by decide +kernel
theorem dX7_addVat_42 : decode cX7_addVat 42 = .ok (.getfield 95, 3) := by decide +kernel
theorem dX7_addVat_45 : decode cX7_addVat 45 = .ok (.iload_n 1, 1) := by decide +kernel
theorem dX7_addVat_46 : decode cX7_addVat 46 = .ok (.iastore, 1) := by decide +kernel
theorem dX7_addVat_47 : decode cX7_addVat 47 = .ok (.aload_n 0, 1) := by decide +kernel
theorem dX7_addVat_48 : decode cX7_addVat 48 = .ok (.getfield 66, 3) := by decide +kernel
theorem dX7_addVat_51 : decode cX7_addVat 51 = .ok (.aload_n 0, 1) := by decide +kernel
theorem dX7_addVat_52 : decode cX7_addVat 52 = .ok (.getfield 95, 3) := by decide +kernel
theorem dX7_addVat_55 : decode cX7_addVat 55 = .ok (.iconst (-1), 1) := by decide +kernel
theorem dX7_addVat_56 : decode cX7_addVat 56 = .ok (.iastore, 1) := by decide +kernel
theorem dX7_addVat_57 : decode cX7_addVat 57 = .ok (.aload_n 0, 1) := by decide +kernel
theorem dX7_addVat_58 : decode cX7_addVat 58 = .ok (.getfield 69, 3) := by decide +kernel
theorem dX7_addVat_61 : decode cX7_addVat 61 = .ok (.aload_n 0, 1) := by decide +kernel
theorem dX7_addVat_62 : decode cX7_addVat 62 = .ok (.getfield 95, 3) := by decide +kernel
theorem dX7_addVat_65 : decode cX7_addVat 65 = .ok (.iconst (-1), 1) := by decide +kernel
theorem dX7_addVat_66 : decode cX7_addVat 66 = .ok (.iastore, 1) := by decide +kernel
theorem dX7_addVat_67 : decode cX7_addVat 67 = .ok (.aload_n 0, 1) := by decide +kernel
theorem dX7_addVat_68 : decode cX7_addVat 68 = .ok (.dup, 1) := by decide +kernel
theorem dX7_addVat_69 : decode cX7_addVat 69 = .ok (.getfield 95, 3) := by decide +kernel
theorem dX7_addVat_72 : decode cX7_addVat 72 = .ok (.dup_x1, 1) := by decide +kernel
theorem dX7_addVat_73 : decode cX7_addVat 73 = .ok (.iconst 1, 1) := by decide +kernel
theorem dX7_addVat_74 : decode cX7_addVat 74 = .ok (.iadd, 1) := by decide +kernel
theorem dX7_addVat_75 : decode cX7_addVat 75 = .ok (.putfield 95, 3) := by decide +kernel
theorem dX7_addVat_78 : decode cX7_addVat 78 = .ok (.ireturn, 1) := by decide +kernel
theorem dX7_needed_0 : decode cX7_needed 0 = .ok (.aload_n 0, 1) := by decide +kernel
theorem dX7_needed_1 : decode cX7_needed 1 = .ok (.getfield 13, 3) := by decide +kernel
theorem dX7_needed_4 : decode cX7_needed 4 = .ok (.iconst 3, 1) := by decide +kernel
theorem dX7_needed_5 : decode cX7_needed 5 = .ok (.aload_n 0, 1) := by decide +kernel
theorem dX7_needed_6 : decode cX7_needed 6 = .ok (.getfield 26, 3) := by decide +kernel
theorem dX7_needed_9 : decode cX7_needed 9 = .ok (.aload_n 0, 1) := by decide +kernel
theorem dX7_needed_10 : decode cX7_needed 10 = .ok (.getfield 38, 3) := by decide +kernel
theorem dX7_needed_13 : decode cX7_needed 13 = .ok (.iload_n 1, 1) := by decide +kernel
theorem dX7_needed_14 : decode cX7_needed 14 = .ok (.iaload, 1) := by decide +kernel
theorem dX7_needed_15 : decode cX7_needed 15 = .ok (.iaload, 1) := by decide +kernel
theorem dX7_needed_16 : decode cX7_needed 16 = .ok (.imul, 1) := by decide +kernel
theorem dX7_needed_17 : decode cX7_needed 17 = .ok (.iload_n 2, 1) := by decide +kernel
theorem dX7_needed_18 : decode cX7_needed 18 = .ok (.iadd, 1) := by decide +kernel
theorem dX7_needed_19 : decode cX7_needed 19 = .ok (.iaload, 1) := by decide +kernel
theorem dX7_needed_20 : decode cX7_needed 20 = .ok (.aload_n 0, 1) := by decide +kernel
theorem dX7_needed_21 : decode cX7_needed 21 = .ok (.getfield 41, 3) := by decide +kernel
theorem dX7_needed_24 : decode cX7_needed 24 = .ok (.iload_n 1, 1) := by decide +kernel
theorem dX7_needed_25 : decode cX7_needed 25 = .ok (.iaload, 1) := by decide +kernel
theorem dX7_needed_26 : decode cX7_needed 26 = .ok (.imul, 1) := by decide +kernel
theorem dX7_needed_27 : decode cX7_needed 27 = .ok (.bipush 99, 2) := by decide +kernel
theorem dX7_needed_29 : decode cX7_needed 29 = .ok (.iadd, 1) := by decide +kernel
theorem dX7_needed_30 : decode cX7_needed 30 = .ok (.bipush 100, 2) := by decide +kernel
theorem dX7_needed_32 : decode cX7_needed 32 = .ok (.idiv, 1) := by decide +kernel
theorem dX7_needed_33 : decode cX7_needed 33 = .ok (.ireturn, 1) := by decide +kernel
set_option maxRecDepth 20000 in
theorem ggX7_needs_X7_noLot : GoodIn wsX7_needs wsX7_noLot := goodIn_r _ [5, 6, 7, 8, 9, 4, 10, 23, 24, 25, 26, 27, 28, 29, 30, 31, 32, 33, 34, 35, 36, 37, 38, 39, 40, 41, 42, 43, 44, 45, 46, 47, 48, 49, 50, 51] (by decide +kernel) (by decide +kernel)
set_option maxRecDepth 20000 in
theorem gX7_needs_X7_noLot : GoodIn wsX7_needs (wsV RX7 120 RX7 yX7_noLot wsX7_noLot) := goodIn_app (goodIn_of _ (by decide +kernel)) ggX7_needs_X7_noLot
set_option maxRecDepth 20000 in
theorem ggX7_needs_X7_isIn : GoodIn wsX7_needs wsX7_isIn := goodIn_r _ [10] (by decide +kernel) (by decide +kernel)
set_option maxRecDepth 20000 in
theorem gX7_needs_X7_isIn : GoodIn wsX7_needs (va_wsS RX7 88 yX7_isIn wsX7_isIn) := goodIn_app (goodIn_of _ (by decide +kernel)) ggX7_needs_X7_isIn
set_option maxRecDepth 20000 in
theorem ggX7_needs_X7_refuse : GoodIn wsX7_needs wsX7_refuse := goodIn_r _ [14, 7, 23, 24, 25, 26, 27, 28, 29, 30, 31, 32, 33, 34, 35, 36, 37, 38, 39, 40, 41, 42, 43, 44, 45, 46, 47, 48, 49, 50, 51] (by decide +kernel) (by decide +kernel)
set_option maxRecDepth 20000 in
theorem gX7_needs_X7_refuse : GoodIn wsX7_needs (wsV RX7 104 RX7 yX7_refuse wsX7_refuse) := goodIn_app (goodIn_of _ (by decide +kernel)) ggX7_needs_X7_refuse
set_option maxRecDepth 20000 in
theorem ggX7_needs_X7_needed : GoodIn wsX7_needs wsX7_needed := goodIn_ca (goodIn_r _ [18, 19, 20, 21, 22, 23, 24, 25, 26, 27, 28, 29, 30, 31, 32, 33, 34, 35, 36, 37, 38, 39, 40, 41, 42, 43, 44, 45, 46, 47, 48, 49, 50, 51] (by decide +kernel) (by decide +kernel)) (goodIn_sub (fun _ h => List.mem_cons_of_mem _ (List.mem_append_right _ h)) (by decide +kernel))
set_option maxRecDepth 20000 in
theorem gX7_needs_X7_needed : GoodIn wsX7_needs (wsV RX7 123 RX7 yX7_needed wsX7_needed) := goodIn_app (goodIn_of _ (by decide +kernel)) ggX7_needs_X7_needed
theorem dX7_needs_0 : decode cX7_needs 0 = .ok (.aload_n 0, 1) := by decide +kernel
theorem dX7_needs_1 : decode cX7_needs 1 = .ok (.iload_n 1, 1) := by decide +kernel
theorem dX7_needs_2 : decode cX7_needs 2 = .ok (.invokevirtual 120, 3) := by decide +kernel
theorem dX7_needs_5 : decode cX7_needs 5 = .ok (.ifCond .eq 5, 3) := by decide +kernel
theorem dX7_needs_8 : decode cX7_needs 8 = .ok (.iconst 0, 1) := by decide +kernel
theorem dX7_needs_9 : decode cX7_needs 9 = .ok (.ireturn, 1) := by decide +kernel
theorem dX7_needs_10 : decode cX7_needs 10 = .ok (.iload_n 2, 1) := by decide +kernel
theorem dX7_needs_11 : decode cX7_needs 11 = .ok (.iconst 0, 1) := by decide +kernel
theorem dX7_needs_12 : decode cX7_needs 12 = .ok (.iconst 2, 1) := by decide +kernel
theorem dX7_needs_13 : decode cX7_needs 13 = .ok (.invokestatic 88, 3) := by decide +kernel
theorem dX7_needs_16 : decode cX7_needs 16 = .ok (.ifCond .ne 9, 3) := by decide +kernel
theorem dX7_needs_19 : decode cX7_needs 19 = .ok (.aload_n 0, 1) := by decide +kernel
theorem dX7_needs_20 : decode cX7_needs 20 = .ok (.iconst 2, 1) := by decide +kernel
theorem dX7_needs_21 : decode cX7_needs 21 = .ok (.invokevirtual 104, 3) := by decide +kernel
theorem dX7_needs_24 : decode cX7_needs 24 = .ok (.ireturn, 1) := by decide +kernel
theorem dX7_needs_25 : decode cX7_needs 25 = .ok (.aload_n 0, 1) := by decide +kernel
theorem dX7_needs_26 : decode cX7_needs 26 = .ok (.iload_n 1, 1) := by decide +kernel
theorem dX7_needs_27 : decode cX7_needs 27 = .ok (.iload_n 2, 1) := by decide +kernel
theorem dX7_needs_28 : decode cX7_needs 28 = .ok (.invokevirtual 123, 3) := by decide +kernel
theorem dX7_needs_31 : decode cX7_needs 31 = .ok (.ireturn, 1) := by decide +kernel
theorem dX7_hours_0 : decode cX7_hours 0 = .ok (.iconst 4, 1) := by decide +kernel
theorem dX7_hours_1 : decode cX7_hours 1 = .ok (.aload_n 0, 1) := by decide +kernel
theorem dX7_hours_2 : decode cX7_hours 2 = .ok (.getfield 41, 3) := by decide +kernel
theorem dX7_hours_5 : decode cX7_hours 5 = .ok (.iload_n 1, 1) := by decide +kernel
theorem dX7_hours_6 : decode cX7_hours 6 = .ok (.iaload, 1) := by decide +kernel
theorem dX7_hours_7 : decode cX7_hours 7 = .ok (.bipush 49, 2) := by decide +kernel
theorem dX7_hours_9 : decode cX7_hours 9 = .ok (.iadd, 1) := by decide +kernel
theorem dX7_hours_10 : decode cX7_hours 10 = .ok (.bipush 50, 2) := by decide +kernel
theorem dX7_hours_12 : decode cX7_hours 12 = .ok (.idiv, 1) := by decide +kernel
theorem dX7_hours_13 : decode cX7_hours 13 = .ok (.iadd, 1) := by decide +kernel
theorem dX7_hours_14 : decode cX7_hours 14 = .ok (.ireturn, 1) := by decide +kernel
set_option maxRecDepth 20000 in
theorem ggX7_hoursFor_X7_noLot : GoodIn wsX7_hoursFor wsX7_noLot := goodIn_r _ [5, 6, 7, 8, 9, 4, 10, 16, 17, 18, 19, 20, 21, 22, 23, 24, 25, 26, 27, 28, 29, 30, 31, 32, 33, 34, 35, 36, 37, 38, 39, 40, 41, 42, 43, 44] (by decide +kernel) (by decide +kernel)
set_option maxRecDepth 20000 in
theorem gX7_hoursFor_X7_noLot : GoodIn wsX7_hoursFor (wsV RX7 120 RX7 yX7_noLot wsX7_noLot) := goodIn_app (goodIn_of _ (by decide +kernel)) ggX7_hoursFor_X7_noLot
set_option maxRecDepth 20000 in
theorem ggX7_hoursFor_X7_hours : GoodIn wsX7_hoursFor wsX7_hours := goodIn_ca (goodIn_r _ [14, 15, 16, 17, 18, 19, 20, 21, 22, 23, 24, 25, 26, 27, 28, 29, 30, 31, 32, 33, 34, 35, 36, 37, 38, 39, 40, 41, 42, 43, 44] (by decide +kernel) (by decide +kernel)) (goodIn_sub (fun _ h => List.mem_cons_of_mem _ (List.mem_append_right _ h)) (by decide +kernel))
set_option maxRecDepth 20000 in
theorem gX7_hoursFor_X7_hours : GoodIn wsX7_hoursFor (wsV RX7 127 RX7 yX7_hours wsX7_hours) := goodIn_app (goodIn_of _ (by decide +kernel)) ggX7_hoursFor_X7_hours
theorem dX7_hoursFor_0 : decode cX7_hoursFor 0 = .ok (.aload_n 0, 1) := by decide +kernel
theorem dX7_hoursFor_1 : decode cX7_hoursFor 1 = .ok (.iload_n 1, 1) := by decide +kernel
theorem dX7_hoursFor_2 : decode cX7_hoursFor 2 = .ok (.invokevirtual 120, 3) := by decide +kernel
theorem dX7_hoursFor_5 : decode cX7_hoursFor 5 = .ok (.ifCond .eq 7, 3) := by decide +kernel
theorem dX7_hoursFor_8 : decode cX7_hoursFor 8 = .ok (.iconst 0, 1) := by decide +kernel
theorem dX7_hoursFor_9 : decode cX7_hoursFor 9 = .ok (.goto 8, 3) := by decide +kernel
theorem dX7_hoursFor_12 : decode cX7_hoursFor 12 = .ok (.aload_n 0, 1) := by decide +kernel
theorem dX7_hoursFor_13 : decode cX7_hoursFor 13 = .ok (.iload_n 1, 1) := by decide +kernel
theorem dX7_hoursFor_14 : decode cX7_hoursFor 14 = .ok (.invokevirtual 127, 3) := by decide +kernel
theorem dX7_hoursFor_17 : decode cX7_hoursFor 17 = .ok (.ireturn, 1) := by decide +kernel
theorem dX7_lightOf_0 : decode cX7_lightOf 0 = .ok (.aload_n 0, 1) := by decide +kernel
theorem dX7_lightOf_1 : decode cX7_lightOf 1 = .ok (.getfield 7, 3) := by decide +kernel
theorem dX7_lightOf_4 : decode cX7_lightOf 4 = .ok (.iconst 3, 1) := by decide +kernel
theorem dX7_lightOf_5 : decode cX7_lightOf 5 = .ok (.aload_n 0, 1) := by decide +kernel
theorem dX7_lightOf_6 : decode cX7_lightOf 6 = .ok (.getfield 26, 3) := by decide +kernel
theorem dX7_lightOf_9 : decode cX7_lightOf 9 = .ok (.aload_n 0, 1) := by decide +kernel
theorem dX7_lightOf_10 : decode cX7_lightOf 10 = .ok (.getfield 38, 3) := by decide +kernel
theorem dX7_lightOf_13 : decode cX7_lightOf 13 = .ok (.iload_n 1, 1) := by decide +kernel
theorem dX7_lightOf_14 : decode cX7_lightOf 14 = .ok (.iaload, 1) := by decide +kernel
theorem dX7_lightOf_15 : decode cX7_lightOf 15 = .ok (.iaload, 1) := by decide +kernel
theorem dX7_lightOf_16 : decode cX7_lightOf 16 = .ok (.imul, 1) := by decide +kernel
theorem dX7_lightOf_17 : decode cX7_lightOf 17 = .ok (.iaload, 1) := by decide +kernel
theorem dX7_lightOf_18 : decode cX7_lightOf 18 = .ok (.ireturn, 1) := by decide +kernel
set_option maxRecDepth 20000 in
theorem ggX7_why_X7_lightOf : GoodIn wsX7_why wsX7_lightOf := goodIn_ca (goodIn_r _ [13, 14, 15, 7, 21, 22, 23, 24, 25, 26, 27, 28, 29, 30, 31, 32, 33, 34, 35, 36, 37, 38, 39, 40, 41, 42, 43, 44, 45, 46, 47, 48, 49] (by decide +kernel) (by decide +kernel)) (goodIn_sub (fun _ h => List.mem_cons_of_mem _ (List.mem_append_right _ h)) (by decide +kernel))
set_option maxRecDepth 20000 in
theorem gX7_why_X7_lightOf : GoodIn wsX7_why (wsV RX7 130 RX7 yX7_lightOf wsX7_lightOf) := goodIn_app (goodIn_of _ (by decide +kernel)) ggX7_why_X7_lightOf
set_option maxRecDepth 20000 in
theorem ggX7_why_X7_needed : GoodIn wsX7_why wsX7_needed := goodIn_ca (goodIn_r _ [19, 20, 15, 7, 2, 21, 22, 23, 24, 25, 26, 27, 28, 29, 30, 31, 32, 33, 34, 35, 36, 37, 38, 39, 40, 41, 42, 43, 44, 45, 46, 47, 48, 49] (by decide +kernel) (by decide +kernel)) (goodIn_sub (fun _ h => List.mem_cons_of_mem _ (List.mem_append_right _ h)) (by decide +kernel))
set_option maxRecDepth 20000 in
theorem gX7_why_X7_needed : GoodIn wsX7_why (wsV RX7 123 RX7 yX7_needed wsX7_needed) := goodIn_app (goodIn_of _ (by decide +kernel)) ggX7_why_X7_needed
theorem dX7_why_0 : decode cX7_why 0 = .ok (.aload_n 0, 1) := by decide +kernel
theorem dX7_why_1 : decode cX7_why 1 = .ok (.getfield 59, 3) := by decide +kernel
theorem dX7_why_4 : decode cX7_why 4 = .ok (.iload_n 1, 1) := by decide +kernel
theorem dX7_why_5 : decode cX7_why 5 = .ok (.caload, 1) := by decide +kernel
theorem dX7_why_6 : decode cX7_why 6 = .ok (.bipush 119, 2) := by decide +kernel
theorem dX7_why_8 : decode cX7_why 8 = .ok (.if_icmp .eq 6, 3) := by decide +kernel
theorem dX7_why_11 : decode cX7_why 11 = .ok (.bipush 119, 2) := by decide +kernel
theorem dX7_why_13 : decode cX7_why 13 = .ok (.ireturn, 1) := by decide +kernel
theorem dX7_why_14 : decode cX7_why 14 = .ok (.aload_n 0, 1) := by decide +kernel
theorem dX7_why_15 : decode cX7_why 15 = .ok (.getfield 41, 3) := by decide +kernel
theorem dX7_why_18 : decode cX7_why 18 = .ok (.iload_n 1, 1) := by decide +kernel
theorem dX7_why_19 : decode cX7_why 19 = .ok (.iaload, 1) := by decide +kernel
theorem dX7_why_20 : decode cX7_why 20 = .ok (.aload_n 0, 1) := by decide +kernel
theorem dX7_why_21 : decode cX7_why 21 = .ok (.getfield 63, 3) := by decide +kernel
theorem dX7_why_24 : decode cX7_why 24 = .ok (.iload_n 2, 1) := by decide +kernel
theorem dX7_why_25 : decode cX7_why 25 = .ok (.iaload, 1) := by decide +kernel
theorem dX7_why_26 : decode cX7_why 26 = .ok (.if_icmp .le 6, 3) := by decide +kernel
theorem dX7_why_29 : decode cX7_why 29 = .ok (.bipush 104, 2) := by decide +kernel
theorem dX7_why_31 : decode cX7_why 31 = .ok (.ireturn, 1) := by decide +kernel
theorem dX7_why_32 : decode cX7_why 32 = .ok (.aload_n 0, 1) := by decide +kernel
theorem dX7_why_33 : decode cX7_why 33 = .ok (.getfield 66, 3) := by decide +kernel
theorem dX7_why_36 : decode cX7_why 36 = .ok (.iload_n 2, 1) := by decide +kernel
theorem dX7_why_37 : decode cX7_why 37 = .ok (.iaload, 1) := by decide +kernel
theorem dX7_why_38 : decode cX7_why 38 = .ok (.iconst (-1), 1) := by decide +kernel
theorem dX7_why_39 : decode cX7_why 39 = .ok (.if_icmp .eq 20, 3) := by decide +kernel
theorem dX7_why_42 : decode cX7_why 42 = .ok (.aload_n 0, 1) := by decide +kernel
theorem dX7_why_43 : decode cX7_why 43 = .ok (.getfield 66, 3) := by decide +kernel
theorem dX7_why_46 : decode cX7_why 46 = .ok (.iload_n 2, 1) := by decide +kernel
theorem dX7_why_47 : decode cX7_why 47 = .ok (.iaload, 1) := by decide +kernel
theorem dX7_why_48 : decode cX7_why 48 = .ok (.aload_n 0, 1) := by decide +kernel
theorem dX7_why_49 : decode cX7_why 49 = .ok (.iload_n 1, 1) := by decide +kernel
theorem dX7_why_50 : decode cX7_why 50 = .ok (.invokevirtual 130, 3) := by decide +kernel
theorem dX7_why_53 : decode cX7_why 53 = .ok (.if_icmp .ge 6, 3) := by decide +kernel
theorem dX7_why_56 : decode cX7_why 56 = .ok (.bipush 115, 2) := by decide +kernel
theorem dX7_why_58 : decode cX7_why 58 = .ok (.ireturn, 1) := by decide +kernel
theorem dX7_why_59 : decode cX7_why 59 = .ok (.aload_n 0, 1) := by decide +kernel
theorem dX7_why_60 : decode cX7_why 60 = .ok (.getfield 69, 3) := by decide +kernel
theorem dX7_why_63 : decode cX7_why 63 = .ok (.iload_n 2, 1) := by decide +kernel
theorem dX7_why_64 : decode cX7_why 64 = .ok (.iaload, 1) := by decide +kernel
theorem dX7_why_65 : decode cX7_why 65 = .ok (.iconst (-1), 1) := by decide +kernel
theorem dX7_why_66 : decode cX7_why 66 = .ok (.if_icmp .eq 26, 3) := by decide +kernel
theorem dX7_why_69 : decode cX7_why 69 = .ok (.aload_n 0, 1) := by decide +kernel
theorem dX7_why_70 : decode cX7_why 70 = .ok (.getfield 69, 3) := by decide +kernel
theorem dX7_why_73 : decode cX7_why 73 = .ok (.iload_n 2, 1) := by decide +kernel
theorem dX7_why_74 : decode cX7_why 74 = .ok (.iaload, 1) := by decide +kernel
theorem dX7_why_75 : decode cX7_why 75 = .ok (.aload_n 0, 1) := by decide +kernel
theorem dX7_why_76 : decode cX7_why 76 = .ok (.getfield 23, 3) := by decide +kernel
theorem dX7_why_79 : decode cX7_why 79 = .ok (.aload_n 0, 1) := by decide +kernel
theorem dX7_why_80 : decode cX7_why 80 = .ok (.getfield 38, 3) := by decide +kernel
theorem dX7_why_83 : decode cX7_why 83 = .ok (.iload_n 1, 1) := by decide +kernel
theorem dX7_why_84 : decode cX7_why 84 = .ok (.iaload, 1) := by decide +kernel
theorem dX7_why_85 : decode cX7_why 85 = .ok (.iaload, 1) := by decide +kernel
theorem dX7_why_86 : decode cX7_why 86 = .ok (.if_icmp .eq 6, 3) := by decide +kernel
theorem dX7_why_89 : decode cX7_why 89 = .ok (.bipush 98, 2) := by decide +kernel
theorem dX7_why_91 : decode cX7_why 91 = .ok (.ireturn, 1) := by decide +kernel
theorem dX7_why_92 : decode cX7_why 92 = .ok (.iconst 0, 1) := by decide +kernel
theorem dX7_why_93 : decode cX7_why 93 = .ok (.istore_n 3, 1) := by decide +kernel
theorem dX7_why_94 : decode cX7_why 94 = .ok (.iload_n 3, 1) := by decide +kernel
theorem dX7_why_95 : decode cX7_why 95 = .ok (.iconst 3, 1) := by decide +kernel
theorem dX7_why_96 : decode cX7_why 96 = .ok (.if_icmp .ge 27, 3) := by decide +kernel
theorem dX7_why_99 : decode cX7_why 99 = .ok (.aload_n 0, 1) := by decide +kernel
theorem dX7_why_100 : decode cX7_why 100 = .ok (.getfield 16, 3) := by decide +kernel
theorem dX7_why_103 : decode cX7_why 103 = .ok (.iload_n 3, 1) := by decide +kernel
theorem dX7_why_104 : decode cX7_why 104 = .ok (.iaload, 1) := by decide +kernel
theorem dX7_why_105 : decode cX7_why 105 = .ok (.aload_n 0, 1) := by decide +kernel
theorem dX7_why_106 : decode cX7_why 106 = .ok (.iload_n 1, 1) := by decide +kernel
theorem dX7_why_107 : decode cX7_why 107 = .ok (.iload_n 3, 1) := by decide +kernel
theorem dX7_why_108 : decode cX7_why 108 = .ok (.invokevirtual 123, 3) := by decide +kernel
theorem dX7_why_111 : decode cX7_why 111 = .ok (.if_icmp .ge 6, 3) := by decide +kernel
theorem dX7_why_114 : decode cX7_why 114 = .ok (.bipush 103, 2) := by decide +kernel
theorem dX7_why_116 : decode cX7_why 116 = .ok (.ireturn, 1) := by decide +kernel
theorem dX7_why_117 : decode cX7_why 117 = .ok (.iinc 3 1, 3) := by decide +kernel
theorem dX7_why_120 : decode cX7_why 120 = .ok (.goto (-26), 3) := by decide +kernel
theorem dX7_why_123 : decode cX7_why 123 = .ok (.bipush 45, 2) := by decide +kernel
theorem dX7_why_125 : decode cX7_why 125 = .ok (.ireturn, 1) := by decide +kernel
set_option maxRecDepth 20000 in
theorem ggX7_reason_X7_noLot : GoodIn wsX7_reason wsX7_noLot := goodIn_r _ [5, 6, 7, 8, 9, 4, 10, 39, 40, 41, 42, 43, 44, 45, 46, 47, 48, 49, 50, 51, 52, 53, 54, 55, 56, 57, 58, 59, 60, 61, 62, 63, 64, 65, 66, 67] (by decide +kernel) (by decide +kernel)
set_option maxRecDepth 20000 in
theorem gX7_reason_X7_noLot : GoodIn wsX7_reason (wsV RX7 120 RX7 yX7_noLot wsX7_noLot) := goodIn_app (goodIn_of _ (by decide +kernel)) ggX7_reason_X7_noLot
set_option maxRecDepth 20000 in
theorem ggX7_reason_X7_noVat : GoodIn wsX7_reason wsX7_noVat := goodIn_r _ [14, 15, 7, 8, 9, 4, 10, 39, 40, 41, 42, 43, 44, 45, 46, 47, 48, 49, 50, 51, 52, 53, 54, 55, 56, 57, 58, 59, 60, 61, 62, 63, 64, 65, 66, 67] (by decide +kernel) (by decide +kernel)
set_option maxRecDepth 20000 in
theorem gX7_reason_X7_noVat : GoodIn wsX7_reason (wsV RX7 133 RX7 yX7_noVat wsX7_noVat) := goodIn_app (goodIn_of _ (by decide +kernel)) ggX7_reason_X7_noVat
set_option maxRecDepth 20000 in
theorem ggX7_reason_X7_why : GoodIn wsX7_reason wsX7_why := goodIn_ca (goodIn_r _ [19, 20, 21, 22, 23, 24, 25, 26, 27, 28, 29, 30, 4, 31, 32, 33, 34, 35, 36, 37, 38, 39, 40, 41, 42, 43, 44, 45, 46, 47, 48, 49, 50, 51, 52, 53, 54, 55, 56, 57, 58, 59, 60, 61, 62, 63, 64, 65, 66, 67] (by decide +kernel) (by decide +kernel)) (goodIn_sub (fun _ h => List.mem_cons_of_mem _ (List.mem_append_right _ h)) (by decide +kernel))
set_option maxRecDepth 20000 in
theorem gX7_reason_X7_why : GoodIn wsX7_reason (wsV RX7 136 RX7 yX7_why wsX7_why) := goodIn_app (goodIn_of _ (by decide +kernel)) ggX7_reason_X7_why
theorem dX7_reason_0 : decode cX7_reason 0 = .ok (.aload_n 0, 1) := by decide +kernel
theorem dX7_reason_1 : decode cX7_reason 1 = .ok (.iload_n 1, 1) := by decide +kernel
theorem dX7_reason_2 : decode cX7_reason 2 = .ok (.invokevirtual 120, 3) := by decide +kernel
theorem dX7_reason_5 : decode cX7_reason 5 = .ok (.ifCond .ne 11, 3) := by decide +kernel
theorem dX7_reason_8 : decode cX7_reason 8 = .ok (.aload_n 0, 1) := by decide +kernel
theorem dX7_reason_9 : decode cX7_reason 9 = .ok (.iload_n 2, 1) := by decide +kernel
theorem dX7_reason_10 : decode cX7_reason 10 = .ok (.invokevirtual 133, 3) := by decide +kernel
theorem dX7_reason_13 : decode cX7_reason 13 = .ok (.ifCond .eq 8, 3) := by decide +kernel
theorem dX7_reason_16 : decode cX7_reason 16 = .ok (.bipush 45, 2) := by decide +kernel
theorem dX7_reason_18 : decode cX7_reason 18 = .ok (.goto 9, 3) := by decide +kernel
theorem dX7_reason_21 : decode cX7_reason 21 = .ok (.aload_n 0, 1) := by decide +kernel
theorem dX7_reason_22 : decode cX7_reason 22 = .ok (.iload_n 1, 1) := by decide +kernel
theorem dX7_reason_23 : decode cX7_reason 23 = .ok (.iload_n 2, 1) := by decide +kernel
theorem dX7_reason_24 : decode cX7_reason 24 = .ok (.invokevirtual 136, 3) := by decide +kernel
theorem dX7_reason_27 : decode cX7_reason 27 = .ok (.ireturn, 1) := by decide +kernel
set_option maxRecDepth 20000 in
theorem ggX7_dye_X7_noLot : GoodIn wsX7_dye wsX7_noLot := goodIn_r _ [16, 17, 18, 19, 20, 15, 21, 58, 59, 60, 61, 62, 63, 64, 65, 66, 67, 68, 69, 70, 71, 72, 73, 74, 75, 76, 77, 78, 79, 80, 81, 82, 83, 84, 85, 86] (by decide +kernel) (by decide +kernel)
set_option maxRecDepth 20000 in
theorem gX7_dye_X7_noLot : GoodIn wsX7_dye (wsV RX7 120 RX7 yX7_noLot wsX7_noLot) := goodIn_app (goodIn_of _ (by decide +kernel)) ggX7_dye_X7_noLot
set_option maxRecDepth 20000 in
theorem ggX7_dye_X7_noVat : GoodIn wsX7_dye wsX7_noVat := goodIn_r _ [25, 26, 18, 19, 20, 15, 21, 58, 59, 60, 61, 62, 63, 64, 65, 66, 67, 68, 69, 70, 71, 72, 73, 74, 75, 76, 77, 78, 79, 80, 81, 82, 83, 84, 85, 86] (by decide +kernel) (by decide +kernel)
set_option maxRecDepth 20000 in
theorem gX7_dye_X7_noVat : GoodIn wsX7_dye (wsV RX7 133 RX7 yX7_noVat wsX7_noVat) := goodIn_app (goodIn_of _ (by decide +kernel)) ggX7_dye_X7_noVat
set_option maxRecDepth 20000 in
theorem ggX7_dye_X7_isShade : GoodIn wsX7_dye wsX7_isShade := goodIn_r _ [29, 19, 20, 15, 21] (by decide +kernel) (by decide +kernel)
set_option maxRecDepth 20000 in
theorem gX7_dye_X7_isShade : GoodIn wsX7_dye (va_wsS RX7 101 yX7_isShade wsX7_isShade) := goodIn_app (goodIn_of _ (by decide +kernel)) ggX7_dye_X7_isShade
set_option maxRecDepth 20000 in
theorem ggX7_dye_X7_refuse : GoodIn wsX7_dye wsX7_refuse := goodIn_r _ [33, 18, 58, 59, 60, 61, 62, 63, 64, 65, 66, 67, 68, 69, 70, 71, 72, 73, 74, 75, 76, 77, 78, 79, 80, 81, 82, 83, 84, 85, 86] (by decide +kernel) (by decide +kernel)
set_option maxRecDepth 20000 in
theorem gX7_dye_X7_refuse : GoodIn wsX7_dye (wsV RX7 104 RX7 yX7_refuse wsX7_refuse) := goodIn_app (goodIn_of _ (by decide +kernel)) ggX7_dye_X7_refuse
set_option maxRecDepth 20000 in
theorem ggX7_dye_X7_why : GoodIn wsX7_dye wsX7_why := goodIn_ca (goodIn_r _ [37, 4, 38, 39, 7, 40, 41, 42, 1, 43, 44, 45, 15, 46, 47, 48, 49, 50, 51, 52, 53, 58, 59, 60, 61, 62, 63, 64, 65, 66, 67, 68, 69, 70, 71, 72, 73, 74, 75, 76, 77, 78, 79, 80, 81, 82, 83, 84, 85, 86] (by decide +kernel) (by decide +kernel)) (goodIn_sub (fun _ h => List.mem_cons_of_mem _ (List.mem_append_right _ h)) (by decide +kernel))
set_option maxRecDepth 20000 in
theorem gX7_dye_X7_why : GoodIn wsX7_dye (wsV RX7 136 RX7 yX7_why wsX7_why) := goodIn_app (goodIn_of _ (by decide +kernel)) ggX7_dye_X7_why
set_option maxRecDepth 20000 in
theorem ggX7_dye_X7_needed : GoodIn wsX7_dye wsX7_needed := goodIn_ca (goodIn_r _ [52, 53, 48, 42, 38, 58, 59, 60, 61, 62, 63, 64, 65, 66, 67, 68, 69, 70, 71, 72, 73, 74, 75, 76, 77, 78, 79, 80, 81, 82, 83, 84, 85, 86] (by decide +kernel) (by decide +kernel)) (goodIn_sub (fun _ h => List.mem_cons_of_mem _ (List.mem_append_right _ h)) (by decide +kernel))
set_option maxRecDepth 20000 in
theorem gX7_dye_X7_needed : GoodIn wsX7_dye (wsV RX7 123 RX7 yX7_needed wsX7_needed) := goodIn_app (goodIn_of _ (by decide +kernel)) ggX7_dye_X7_needed
set_option maxRecDepth 20000 in
theorem ggX7_dye_X7_hours : GoodIn wsX7_dye wsX7_hours := goodIn_ca (goodIn_r _ [57, 38, 58, 59, 60, 61, 62, 63, 64, 65, 66, 67, 68, 69, 70, 71, 72, 73, 74, 75, 76, 77, 78, 79, 80, 81, 82, 83, 84, 85, 86] (by decide +kernel) (by decide +kernel)) (goodIn_sub (fun _ h => List.mem_cons_of_mem _ (List.mem_append_right _ h)) (by decide +kernel))
set_option maxRecDepth 20000 in
theorem gX7_dye_X7_hours : GoodIn wsX7_dye (wsV RX7 127 RX7 yX7_hours wsX7_hours) := goodIn_app (goodIn_of _ (by decide +kernel)) ggX7_dye_X7_hours
theorem dX7_dye_0 : decode cX7_dye 0 = .ok (.aload_n 0, 1) := by decide +kernel
theorem dX7_dye_1 : decode cX7_dye 1 = .ok (.iload_n 1, 1) := by decide +kernel
theorem dX7_dye_2 : decode cX7_dye 2 = .ok (.invokevirtual 120, 3) := by decide +kernel
theorem dX7_dye_5 : decode cX7_dye 5 = .ok (.ifCond .ne 11, 3) := by decide +kernel
theorem dX7_dye_8 : decode cX7_dye 8 = .ok (.aload_n 0, 1) := by decide +kernel
theorem dX7_dye_9 : decode cX7_dye 9 = .ok (.iload_n 2, 1) := by decide +kernel
theorem dX7_dye_10 : decode cX7_dye 10 = .ok (.invokevirtual 133, 3) := by decide +kernel
theorem dX7_dye_13 : decode cX7_dye 13 = .ok (.ifCond .eq 5, 3) := by decide +kernel
theorem dX7_dye_16 : decode cX7_dye 16 = .ok (.iconst 0, 1) := by decide +kernel
theorem dX7_dye_17 : decode cX7_dye 17 = .ok (.ireturn, 1) := by decide +kernel
theorem dX7_dye_18 : decode cX7_dye 18 = .ok (.iload_n 3, 1) := by decide +kernel
theorem dX7_dye_19 : decode cX7_dye 19 = .ok (.iload 4, 2) := by decide +kernel
theorem dX7_dye_21 : decode cX7_dye 21 = .ok (.iload 5, 2) := by decide +kernel
theorem dX7_dye_23 : decode cX7_dye 23 = .ok (.invokestatic 101, 3) := by decide +kernel
theorem dX7_dye_26 : decode cX7_dye 26 = .ok (.ifCond .ne 9, 3) := by decide +kernel
theorem dX7_dye_29 : decode cX7_dye 29 = .ok (.aload_n 0, 1) := by decide +kernel
theorem dX7_dye_30 : decode cX7_dye 30 = .ok (.iconst 2, 1) := by decide +kernel
theorem dX7_dye_31 : decode cX7_dye 31 = .ok (.invokevirtual 104, 3) := by decide +kernel
theorem dX7_dye_34 : decode cX7_dye 34 = .ok (.ireturn, 1) := by decide +kernel
theorem dX7_dye_35 : decode cX7_dye 35 = .ok (.aload_n 0, 1) := by decide +kernel
theorem dX7_dye_36 : decode cX7_dye 36 = .ok (.iload_n 1, 1) := by decide +kernel
theorem dX7_dye_37 : decode cX7_dye 37 = .ok (.iload_n 2, 1) := by decide +kernel
theorem dX7_dye_38 : decode cX7_dye 38 = .ok (.invokevirtual 136, 3) := by decide +kernel
theorem dX7_dye_41 : decode cX7_dye 41 = .ok (.bipush 45, 2) := by decide +kernel
theorem dX7_dye_43 : decode cX7_dye 43 = .ok (.if_icmp .eq 9, 3) := by decide +kernel
theorem dX7_dye_46 : decode cX7_dye 46 = .ok (.aload_n 0, 1) := by decide +kernel
theorem dX7_dye_47 : decode cX7_dye 47 = .ok (.iconst 3, 1) := by decide +kernel
theorem dX7_dye_48 : decode cX7_dye 48 = .ok (.invokevirtual 104, 3) := by decide +kernel
theorem dX7_dye_51 : decode cX7_dye 51 = .ok (.ireturn, 1) := by decide +kernel
theorem dX7_dye_52 : decode cX7_dye 52 = .ok (.iconst 0, 1) := by decide +kernel
theorem dX7_dye_53 : decode cX7_dye 53 = .ok (.istore 6, 2) := by decide +kernel
theorem dX7_dye_55 : decode cX7_dye 55 = .ok (.iload 6, 2) := by decide +kernel
theorem dX7_dye_57 : decode cX7_dye 57 = .ok (.iconst 3, 1) := by decide +kernel
theorem dX7_dye_58 : decode cX7_dye 58 = .ok (.if_icmp .ge 44, 3) := by decide +kernel
theorem dX7_dye_61 : decode cX7_dye 61 = .ok (.aload_n 0, 1) := by decide +kernel
theorem dX7_dye_62 : decode cX7_dye 62 = .ok (.getfield 16, 3) := by decide +kernel
theorem dX7_dye_65 : decode cX7_dye 65 = .ok (.iload 6, 2) := by decide +kernel
theorem dX7_dye_67 : decode cX7_dye 67 = .ok (.dup2, 1) := by decide +kernel
theorem dX7_dye_68 : decode cX7_dye 68 = .ok (.iaload, 1) := by decide +kernel
theorem dX7_dye_69 : decode cX7_dye 69 = .ok (.aload_n 0, 1) := by decide +kernel
theorem dX7_dye_70 : decode cX7_dye 70 = .ok (.iload_n 1, 1) := by decide +kernel
theorem dX7_dye_71 : decode cX7_dye 71 = .ok (.iload 6, 2) := by decide +kernel
theorem dX7_dye_73 : decode cX7_dye 73 = .ok (.invokevirtual 123, 3) := by decide +kernel
theorem dX7_dye_76 : decode cX7_dye 76 = .ok (.isub, 1) := by decide +kernel
theorem dX7_dye_77 : decode cX7_dye 77 = .ok (.iastore, 1) := by decide +kernel
theorem dX7_dye_78 : decode cX7_dye 78 = .ok (.aload_n 0, 1) := by decide +kernel
theorem dX7_dye_79 : decode cX7_dye 79 = .ok (.getfield 19, 3) := by decide +kernel
theorem dX7_dye_82 : decode cX7_dye 82 = .ok (.iload 6, 2) := by decide +kernel
theorem dX7_dye_84 : decode cX7_dye 84 = .ok (.dup2, 1) := by decide +kernel
theorem dX7_dye_85 : decode cX7_dye 85 = .ok (.laload, 1) := by decide +kernel
theorem dX7_dye_86 : decode cX7_dye 86 = .ok (.aload_n 0, 1) := by decide +kernel
theorem dX7_dye_87 : decode cX7_dye 87 = .ok (.iload_n 1, 1) := by decide +kernel
theorem dX7_dye_88 : decode cX7_dye 88 = .ok (.iload 6, 2) := by decide +kernel
theorem dX7_dye_90 : decode cX7_dye 90 = .ok (.invokevirtual 123, 3) := by decide +kernel
theorem dX7_dye_93 : decode cX7_dye 93 = .ok (.i2l, 1) := by decide +kernel
theorem dX7_dye_94 : decode cX7_dye 94 = .ok (.ladd, 1) := by decide +kernel
theorem dX7_dye_95 : decode cX7_dye 95 = .ok (.lastore, 1) := by decide +kernel
theorem dX7_dye_96 : decode cX7_dye 96 = .ok (.iinc 6 1, 3) := by decide +kernel
theorem dX7_dye_99 : decode cX7_dye 99 = .ok (.goto (-44), 3) := by decide +kernel
theorem dX7_dye_102 : decode cX7_dye 102 = .ok (.aload_n 0, 1) := by decide +kernel
theorem dX7_dye_103 : decode cX7_dye 103 = .ok (.getfield 44, 3) := by decide +kernel
theorem dX7_dye_106 : decode cX7_dye 106 = .ok (.iconst 3, 1) := by decide +kernel
theorem dX7_dye_107 : decode cX7_dye 107 = .ok (.iload_n 1, 1) := by decide +kernel
theorem dX7_dye_108 : decode cX7_dye 108 = .ok (.imul, 1) := by decide +kernel
theorem dX7_dye_109 : decode cX7_dye 109 = .ok (.iload_n 3, 1) := by decide +kernel
theorem dX7_dye_110 : decode cX7_dye 110 = .ok (.iastore, 1) := by decide +kernel
theorem dX7_dye_111 : decode cX7_dye 111 = .ok (.aload_n 0, 1) := by decide +kernel
theorem dX7_dye_112 : decode cX7_dye 112 = .ok (.getfield 44, 3) := by decide +kernel
theorem dX7_dye_115 : decode cX7_dye 115 = .ok (.iconst 3, 1) := by decide +kernel
theorem dX7_dye_116 : decode cX7_dye 116 = .ok (.iload_n 1, 1) := by decide +kernel
theorem dX7_dye_117 : decode cX7_dye 117 = .ok (.imul, 1) := by decide +kernel
theorem dX7_dye_118 : decode cX7_dye 118 = .ok (.iconst 1, 1) := by decide +kernel
theorem dX7_dye_119 : decode cX7_dye 119 = .ok (.iadd, 1) := by decide +kernel
theorem dX7_dye_120 : decode cX7_dye 120 = .ok (.iload 4, 2) := by decide +kernel
theorem dX7_dye_122 : decode cX7_dye 122 = .ok (.iastore, 1) := by decide +kernel
theorem dX7_dye_123 : decode cX7_dye 123 = .ok (.aload_n 0, 1) := by decide +kernel
theorem dX7_dye_124 : decode cX7_dye 124 = .ok (.getfield 44, 3) := by decide +kernel
theorem dX7_dye_127 : decode cX7_dye 127 = .ok (.iconst 3, 1) := by decide +kernel
theorem dX7_dye_128 : decode cX7_dye 128 = .ok (.iload_n 1, 1) := by decide +kernel
theorem dX7_dye_129 : decode cX7_dye 129 = .ok (.imul, 1) := by decide +kernel
theorem dX7_dye_130 : decode cX7_dye 130 = .ok (.iconst 2, 1) := by decide +kernel
theorem dX7_dye_131 : decode cX7_dye 131 = .ok (.iadd, 1) := by decide +kernel
theorem dX7_dye_132 : decode cX7_dye 132 = .ok (.iload 5, 2) := by decide +kernel
theorem dX7_dye_134 : decode cX7_dye 134 = .ok (.iastore, 1) := by decide +kernel
theorem dX7_dye_135 : decode cX7_dye 135 = .ok (.aload_n 0, 1) := by decide +kernel
theorem dX7_dye_136 : decode cX7_dye 136 = .ok (.getfield 59, 3) := by decide +kernel
theorem dX7_dye_139 : decode cX7_dye 139 = .ok (.iload_n 1, 1) := by decide +kernel
theorem dX7_dye_140 : decode cX7_dye 140 = .ok (.bipush 100, 2) := by decide +kernel
theorem dX7_dye_142 : decode cX7_dye 142 = .ok (.castore, 1) := by decide +kernel
theorem dX7_dye_143 : decode cX7_dye 143 = .ok (.aload_n 0, 1) := by decide +kernel
theorem dX7_dye_144 : decode cX7_dye 144 = .ok (.getfield 56, 3) := by decide +kernel
theorem dX7_dye_147 : decode cX7_dye 147 = .ok (.iload_n 1, 1) := by decide +kernel
theorem dX7_dye_148 : decode cX7_dye 148 = .ok (.iconst (-1), 1) := by decide +kernel
theorem dX7_dye_149 : decode cX7_dye 149 = .ok (.iastore, 1) := by decide +kernel
theorem dX7_dye_150 : decode cX7_dye 150 = .ok (.aload_n 0, 1) := by decide +kernel
theorem dX7_dye_151 : decode cX7_dye 151 = .ok (.getfield 47, 3) := by decide +kernel
theorem dX7_dye_154 : decode cX7_dye 154 = .ok (.iload_n 1, 1) := by decide +kernel
theorem dX7_dye_155 : decode cX7_dye 155 = .ok (.iload_n 2, 1) := by decide +kernel
theorem dX7_dye_156 : decode cX7_dye 156 = .ok (.iastore, 1) := by decide +kernel
theorem dX7_dye_157 : decode cX7_dye 157 = .ok (.aload_n 0, 1) := by decide +kernel
theorem dX7_dye_158 : decode cX7_dye 158 = .ok (.getfield 66, 3) := by decide +kernel
theorem dX7_dye_161 : decode cX7_dye 161 = .ok (.iload_n 2, 1) := by decide +kernel
theorem dX7_dye_162 : decode cX7_dye 162 = .ok (.iload_n 3, 1) := by decide +kernel
theorem dX7_dye_163 : decode cX7_dye 163 = .ok (.iastore, 1) := by decide +kernel
theorem dX7_dye_164 : decode cX7_dye 164 = .ok (.aload_n 0, 1) := by decide +kernel
theorem dX7_dye_165 : decode cX7_dye 165 = .ok (.getfield 72, 3) := by decide +kernel
theorem dX7_dye_168 : decode cX7_dye 168 = .ok (.iload_n 2, 1) := by decide +kernel
theorem dX7_dye_169 : decode cX7_dye 169 = .ok (.dup2, 1) := by decide +kernel
theorem dX7_dye_170 : decode cX7_dye 170 = .ok (.iaload, 1) := by decide +kernel
theorem dX7_dye_171 : decode cX7_dye 171 = .ok (.aload_n 0, 1) := by decide +kernel
theorem dX7_dye_172 : decode cX7_dye 172 = .ok (.iload_n 1, 1) := by decide +kernel
theorem dX7_dye_173 : decode cX7_dye 173 = .ok (.invokevirtual 127, 3) := by decide +kernel
theorem dX7_dye_176 : decode cX7_dye 176 = .ok (.iadd, 1) := by decide +kernel
theorem dX7_dye_177 : decode cX7_dye 177 = .ok (.iastore, 1) := by decide +kernel
theorem dX7_dye_178 : decode cX7_dye 178 = .ok (.aload_n 0, 1) := by decide +kernel
theorem dX7_dye_179 : decode cX7_dye 179 = .ok (.getfield 50, 3) := by decide +kernel
theorem dX7_dye_182 : decode cX7_dye 182 = .ok (.iload_n 1, 1) := by decide +kernel
theorem dX7_dye_183 : decode cX7_dye 183 = .ok (.aload_n 0, 1) := by decide +kernel
theorem dX7_dye_184 : decode cX7_dye 184 = .ok (.getfield 72, 3) := by decide +kernel
theorem dX7_dye_187 : decode cX7_dye 187 = .ok (.iload_n 2, 1) := by decide +kernel
theorem dX7_dye_188 : decode cX7_dye 188 = .ok (.iaload, 1) := by decide +kernel
theorem dX7_dye_189 : decode cX7_dye 189 = .ok (.iastore, 1) := by decide +kernel
theorem dX7_dye_190 : decode cX7_dye 190 = .ok (.aload_n 0, 1) := by decide +kernel
theorem dX7_dye_191 : decode cX7_dye 191 = .ok (.getfield 53, 3) := by decide +kernel
theorem dX7_dye_194 : decode cX7_dye 194 = .ok (.iload_n 1, 1) := by decide +kernel
theorem dX7_dye_195 : decode cX7_dye 195 = .ok (.aload_n 0, 1) := by decide +kernel
theorem dX7_dye_196 : decode cX7_dye 196 = .ok (.getfield 75, 3) := by decide +kernel
theorem dX7_dye_199 : decode cX7_dye 199 = .ok (.iload_n 2, 1) := by decide +kernel
theorem dX7_dye_200 : decode cX7_dye 200 = .ok (.iaload, 1) := by decide +kernel
theorem dX7_dye_201 : decode cX7_dye 201 = .ok (.iastore, 1) := by decide +kernel
theorem dX7_dye_202 : decode cX7_dye 202 = .ok (.aload_n 0, 1) := by decide +kernel
theorem dX7_dye_203 : decode cX7_dye 203 = .ok (.getfield 72, 3) := by decide +kernel
theorem dX7_dye_206 : decode cX7_dye 206 = .ok (.iload_n 2, 1) := by decide +kernel
theorem dX7_dye_207 : decode cX7_dye 207 = .ok (.iaload, 1) := by decide +kernel
theorem dX7_dye_208 : decode cX7_dye 208 = .ok (.ireturn, 1) := by decide +kernel
set_option maxRecDepth 20000 in
theorem ggX7_clean_X7_noVat : GoodIn wsX7_clean wsX7_noVat := goodIn_r _ [9, 10, 11, 12, 13, 8, 14, 15, 16, 17, 18, 19, 20, 21, 22, 23, 24, 25, 26, 27, 28, 29, 30, 31, 32, 33, 34, 35, 36, 37, 38, 39, 40, 41, 42, 43] (by decide +kernel) (by decide +kernel)
set_option maxRecDepth 20000 in
theorem gX7_clean_X7_noVat : GoodIn wsX7_clean (wsV RX7 133 RX7 yX7_noVat wsX7_noVat) := goodIn_app (goodIn_of _ (by decide +kernel)) ggX7_clean_X7_noVat
theorem dX7_clean_0 : decode cX7_clean 0 = .ok (.aload_n 0, 1) := by decide +kernel
theorem dX7_clean_1 : decode cX7_clean 1 = .ok (.iload_n 1, 1) := by decide +kernel
theorem dX7_clean_2 : decode cX7_clean 2 = .ok (.invokevirtual 133, 3) := by decide +kernel
theorem dX7_clean_5 : decode cX7_clean 5 = .ok (.ifCond .eq 5, 3) := by decide +kernel
theorem dX7_clean_8 : decode cX7_clean 8 = .ok (.iconst 0, 1) := by decide +kernel
theorem dX7_clean_9 : decode cX7_clean 9 = .ok (.ireturn, 1) := by decide +kernel
theorem dX7_clean_10 : decode cX7_clean 10 = .ok (.aload_n 0, 1) := by decide +kernel
theorem dX7_clean_11 : decode cX7_clean 11 = .ok (.getfield 66, 3) := by decide +kernel
theorem dX7_clean_14 : decode cX7_clean 14 = .ok (.iload_n 1, 1) := by decide +kernel
theorem dX7_clean_15 : decode cX7_clean 15 = .ok (.iconst (-1), 1) := by decide +kernel
theorem dX7_clean_16 : decode cX7_clean 16 = .ok (.iastore, 1) := by decide +kernel
theorem dX7_clean_17 : decode cX7_clean 17 = .ok (.aload_n 0, 1) := by decide +kernel
theorem dX7_clean_18 : decode cX7_clean 18 = .ok (.getfield 69, 3) := by decide +kernel
theorem dX7_clean_21 : decode cX7_clean 21 = .ok (.iload_n 1, 1) := by decide +kernel
theorem dX7_clean_22 : decode cX7_clean 22 = .ok (.iconst (-1), 1) := by decide +kernel
theorem dX7_clean_23 : decode cX7_clean 23 = .ok (.iastore, 1) := by decide +kernel
theorem dX7_clean_24 : decode cX7_clean 24 = .ok (.aload_n 0, 1) := by decide +kernel
theorem dX7_clean_25 : decode cX7_clean 25 = .ok (.getfield 75, 3) := by decide +kernel
theorem dX7_clean_28 : decode cX7_clean 28 = .ok (.iload_n 1, 1) := by decide +kernel
theorem dX7_clean_29 : decode cX7_clean 29 = .ok (.dup2, 1) := by decide +kernel
theorem dX7_clean_30 : decode cX7_clean 30 = .ok (.iaload, 1) := by decide +kernel
theorem dX7_clean_31 : decode cX7_clean 31 = .ok (.iconst 1, 1) := by decide +kernel
theorem dX7_clean_32 : decode cX7_clean 32 = .ok (.iadd, 1) := by decide +kernel
theorem dX7_clean_33 : decode cX7_clean 33 = .ok (.iastore, 1) := by decide +kernel
theorem dX7_clean_34 : decode cX7_clean 34 = .ok (.aload_n 0, 1) := by decide +kernel
theorem dX7_clean_35 : decode cX7_clean 35 = .ok (.getfield 72, 3) := by decide +kernel
theorem dX7_clean_38 : decode cX7_clean 38 = .ok (.iload_n 1, 1) := by decide +kernel
theorem dX7_clean_39 : decode cX7_clean 39 = .ok (.dup2, 1) := by decide +kernel
theorem dX7_clean_40 : decode cX7_clean 40 = .ok (.iaload, 1) := by decide +kernel
theorem dX7_clean_41 : decode cX7_clean 41 = .ok (.iconst 3, 1) := by decide +kernel
theorem dX7_clean_42 : decode cX7_clean 42 = .ok (.iadd, 1) := by decide +kernel
theorem dX7_clean_43 : decode cX7_clean 43 = .ok (.iastore, 1) := by decide +kernel
theorem dX7_clean_44 : decode cX7_clean 44 = .ok (.aload_n 0, 1) := by decide +kernel
theorem dX7_clean_45 : decode cX7_clean 45 = .ok (.getfield 72, 3) := by decide +kernel
theorem dX7_clean_48 : decode cX7_clean 48 = .ok (.iload_n 1, 1) := by decide +kernel
theorem dX7_clean_49 : decode cX7_clean 49 = .ok (.iaload, 1) := by decide +kernel
theorem dX7_clean_50 : decode cX7_clean 50 = .ok (.ireturn, 1) := by decide +kernel
theorem dX7_gap_0 : decode cX7_gap 0 = .ok (.iload_n 0, 1) := by decide +kernel
theorem dX7_gap_1 : decode cX7_gap 1 = .ok (.iload_n 1, 1) := by decide +kernel
theorem dX7_gap_2 : decode cX7_gap 2 = .ok (.if_icmp .ge 9, 3) := by decide +kernel
theorem dX7_gap_5 : decode cX7_gap 5 = .ok (.iload_n 1, 1) := by decide +kernel
theorem dX7_gap_6 : decode cX7_gap 6 = .ok (.iload_n 0, 1) := by decide +kernel
theorem dX7_gap_7 : decode cX7_gap 7 = .ok (.isub, 1) := by decide +kernel
theorem dX7_gap_8 : decode cX7_gap 8 = .ok (.goto 6, 3) := by decide +kernel
theorem dX7_gap_11 : decode cX7_gap 11 = .ok (.iload_n 0, 1) := by decide +kernel
theorem dX7_gap_12 : decode cX7_gap 12 = .ok (.iload_n 1, 1) := by decide +kernel
theorem dX7_gap_13 : decode cX7_gap 13 = .ok (.isub, 1) := by decide +kernel
theorem dX7_gap_14 : decode cX7_gap 14 = .ok (.ireturn, 1) := by decide +kernel
set_option maxRecDepth 20000 in
theorem ggX7_off_X7_gap : GoodIn wsX7_off wsX7_gap := goodIn_r _ [8] (by decide +kernel) (by decide +kernel)
set_option maxRecDepth 20000 in
theorem gX7_off_X7_gap : GoodIn wsX7_off (va_wsS RX7 140 yX7_gap wsX7_gap) := goodIn_app (goodIn_of _ (by decide +kernel)) ggX7_off_X7_gap
theorem dX7_off_0 : decode cX7_off 0 = .ok (.iconst 3, 1) := by decide +kernel
theorem dX7_off_1 : decode cX7_off 1 = .ok (.aload_n 0, 1) := by decide +kernel
theorem dX7_off_2 : decode cX7_off 2 = .ok (.getfield 26, 3) := by decide +kernel
theorem dX7_off_5 : decode cX7_off 5 = .ok (.aload_n 0, 1) := by decide +kernel
theorem dX7_off_6 : decode cX7_off 6 = .ok (.getfield 38, 3) := by decide +kernel
theorem dX7_off_9 : decode cX7_off 9 = .ok (.iload_n 1, 1) := by decide +kernel
theorem dX7_off_10 : decode cX7_off 10 = .ok (.iaload, 1) := by decide +kernel
theorem dX7_off_11 : decode cX7_off 11 = .ok (.iaload, 1) := by decide +kernel
theorem dX7_off_12 : decode cX7_off 12 = .ok (.imul, 1) := by decide +kernel
theorem dX7_off_13 : decode cX7_off 13 = .ok (.istore_n 2, 1) := by decide +kernel
theorem dX7_off_14 : decode cX7_off 14 = .ok (.aload_n 0, 1) := by decide +kernel
theorem dX7_off_15 : decode cX7_off 15 = .ok (.getfield 44, 3) := by decide +kernel
theorem dX7_off_18 : decode cX7_off 18 = .ok (.iconst 3, 1) := by decide +kernel
theorem dX7_off_19 : decode cX7_off 19 = .ok (.iload_n 1, 1) := by decide +kernel
theorem dX7_off_20 : decode cX7_off 20 = .ok (.imul, 1) := by decide +kernel
theorem dX7_off_21 : decode cX7_off 21 = .ok (.iaload, 1) := by decide +kernel
theorem dX7_off_22 : decode cX7_off 22 = .ok (.aload_n 0, 1) := by decide +kernel
theorem dX7_off_23 : decode cX7_off 23 = .ok (.getfield 7, 3) := by decide +kernel
theorem dX7_off_26 : decode cX7_off 26 = .ok (.iload_n 2, 1) := by decide +kernel
theorem dX7_off_27 : decode cX7_off 27 = .ok (.iaload, 1) := by decide +kernel
theorem dX7_off_28 : decode cX7_off 28 = .ok (.invokestatic 140, 3) := by decide +kernel
theorem dX7_off_31 : decode cX7_off 31 = .ok (.aload_n 0, 1) := by decide +kernel
theorem dX7_off_32 : decode cX7_off 32 = .ok (.getfield 44, 3) := by decide +kernel
theorem dX7_off_35 : decode cX7_off 35 = .ok (.iconst 3, 1) := by decide +kernel
theorem dX7_off_36 : decode cX7_off 36 = .ok (.iload_n 1, 1) := by decide +kernel
theorem dX7_off_37 : decode cX7_off 37 = .ok (.imul, 1) := by decide +kernel
theorem dX7_off_38 : decode cX7_off 38 = .ok (.iconst 1, 1) := by decide +kernel
theorem dX7_off_39 : decode cX7_off 39 = .ok (.iadd, 1) := by decide +kernel
theorem dX7_off_40 : decode cX7_off 40 = .ok (.iaload, 1) := by decide +kernel
theorem dX7_off_41 : decode cX7_off 41 = .ok (.aload_n 0, 1) := by decide +kernel
theorem dX7_off_42 : decode cX7_off 42 = .ok (.getfield 7, 3) := by decide +kernel
theorem dX7_off_45 : decode cX7_off 45 = .ok (.iload_n 2, 1) := by decide +kernel
theorem dX7_off_46 : decode cX7_off 46 = .ok (.iconst 1, 1) := by decide +kernel
theorem dX7_off_47 : decode cX7_off 47 = .ok (.iadd, 1) := by decide +kernel
theorem dX7_off_48 : decode cX7_off 48 = .ok (.iaload, 1) := by decide +kernel
theorem dX7_off_49 : decode cX7_off 49 = .ok (.invokestatic 140, 3) := by decide +kernel
theorem dX7_off_52 : decode cX7_off 52 = .ok (.iadd, 1) := by decide +kernel
theorem dX7_off_53 : decode cX7_off 53 = .ok (.aload_n 0, 1) := by decide +kernel
theorem dX7_off_54 : decode cX7_off 54 = .ok (.getfield 44, 3) := by decide +kernel
theorem dX7_off_57 : decode cX7_off 57 = .ok (.iconst 3, 1) := by decide +kernel
theorem dX7_off_58 : decode cX7_off 58 = .ok (.iload_n 1, 1) := by decide +kernel
theorem dX7_off_59 : decode cX7_off 59 = .ok (.imul, 1) := by decide +kernel
theorem dX7_off_60 : decode cX7_off 60 = .ok (.iconst 2, 1) := by decide +kernel
theorem dX7_off_61 : decode cX7_off 61 = .ok (.iadd, 1) := by decide +kernel
theorem dX7_off_62 : decode cX7_off 62 = .ok (.iaload, 1) := by decide +kernel
theorem dX7_off_63 : decode cX7_off 63 = .ok (.aload_n 0, 1) := by decide +kernel
theorem dX7_off_64 : decode cX7_off 64 = .ok (.getfield 7, 3) := by decide +kernel
theorem dX7_off_67 : decode cX7_off 67 = .ok (.iload_n 2, 1) := by decide +kernel
theorem dX7_off_68 : decode cX7_off 68 = .ok (.iconst 2, 1) := by decide +kernel
theorem dX7_off_69 : decode cX7_off 69 = .ok (.iadd, 1) := by decide +kernel
theorem dX7_off_70 : decode cX7_off 70 = .ok (.iaload, 1) := by decide +kernel
theorem dX7_off_71 : decode cX7_off 71 = .ok (.invokestatic 140, 3) := by decide +kernel
theorem dX7_off_74 : decode cX7_off 74 = .ok (.iadd, 1) := by decide +kernel
theorem dX7_off_75 : decode cX7_off 75 = .ok (.ireturn, 1) := by decide +kernel
set_option maxRecDepth 20000 in
theorem ggX7_apart_X7_gap : GoodIn wsX7_apart wsX7_gap := goodIn_r _ [5] (by decide +kernel) (by decide +kernel)
set_option maxRecDepth 20000 in
theorem gX7_apart_X7_gap : GoodIn wsX7_apart (va_wsS RX7 140 yX7_gap wsX7_gap) := goodIn_app (goodIn_of _ (by decide +kernel)) ggX7_apart_X7_gap
theorem dX7_apart_0 : decode cX7_apart 0 = .ok (.aload_n 0, 1) := by decide +kernel
theorem dX7_apart_1 : decode cX7_apart 1 = .ok (.getfield 44, 3) := by decide +kernel
theorem dX7_apart_4 : decode cX7_apart 4 = .ok (.iconst 3, 1) := by decide +kernel
theorem dX7_apart_5 : decode cX7_apart 5 = .ok (.iload_n 1, 1) := by decide +kernel
theorem dX7_apart_6 : decode cX7_apart 6 = .ok (.imul, 1) := by decide +kernel
theorem dX7_apart_7 : decode cX7_apart 7 = .ok (.iaload, 1) := by decide +kernel
theorem dX7_apart_8 : decode cX7_apart 8 = .ok (.aload_n 0, 1) := by decide +kernel
theorem dX7_apart_9 : decode cX7_apart 9 = .ok (.getfield 44, 3) := by decide +kernel
theorem dX7_apart_12 : decode cX7_apart 12 = .ok (.iconst 3, 1) := by decide +kernel
theorem dX7_apart_13 : decode cX7_apart 13 = .ok (.iload_n 2, 1) := by decide +kernel
theorem dX7_apart_14 : decode cX7_apart 14 = .ok (.imul, 1) := by decide +kernel
theorem dX7_apart_15 : decode cX7_apart 15 = .ok (.iaload, 1) := by decide +kernel
theorem dX7_apart_16 : decode cX7_apart 16 = .ok (.invokestatic 140, 3) := by decide +kernel
theorem dX7_apart_19 : decode cX7_apart 19 = .ok (.aload_n 0, 1) := by decide +kernel
theorem dX7_apart_20 : decode cX7_apart 20 = .ok (.getfield 44, 3) := by decide +kernel
theorem dX7_apart_23 : decode cX7_apart 23 = .ok (.iconst 3, 1) := by decide +kernel
theorem dX7_apart_24 : decode cX7_apart 24 = .ok (.iload_n 1, 1) := by decide +kernel
theorem dX7_apart_25 : decode cX7_apart 25 = .ok (.imul, 1) := by decide +kernel
theorem dX7_apart_26 : decode cX7_apart 26 = .ok (.iconst 1, 1) := by decide +kernel
theorem dX7_apart_27 : decode cX7_apart 27 = .ok (.iadd, 1) := by decide +kernel
theorem dX7_apart_28 : decode cX7_apart 28 = .ok (.iaload, 1) := by decide +kernel
theorem dX7_apart_29 : decode cX7_apart 29 = .ok (.aload_n 0, 1) := by decide +kernel
theorem dX7_apart_30 : decode cX7_apart 30 = .ok (.getfield 44, 3) := by decide +kernel
theorem dX7_apart_33 : decode cX7_apart 33 = .ok (.iconst 3, 1) := by decide +kernel
theorem dX7_apart_34 : decode cX7_apart 34 = .ok (.iload_n 2, 1) := by decide +kernel
theorem dX7_apart_35 : decode cX7_apart 35 = .ok (.imul, 1) := by decide +kernel
theorem dX7_apart_36 : decode cX7_apart 36 = .ok (.iconst 1, 1) := by decide +kernel
theorem dX7_apart_37 : decode cX7_apart 37 = .ok (.iadd, 1) := by decide +kernel
theorem dX7_apart_38 : decode cX7_apart 38 = .ok (.iaload, 1) := by decide +kernel
theorem dX7_apart_39 : decode cX7_apart 39 = .ok (.invokestatic 140, 3) := by decide +kernel
theorem dX7_apart_42 : decode cX7_apart 42 = .ok (.iadd, 1) := by decide +kernel
theorem dX7_apart_43 : decode cX7_apart 43 = .ok (.aload_n 0, 1) := by decide +kernel
theorem dX7_apart_44 : decode cX7_apart 44 = .ok (.getfield 44, 3) := by decide +kernel
theorem dX7_apart_47 : decode cX7_apart 47 = .ok (.iconst 3, 1) := by decide +kernel
theorem dX7_apart_48 : decode cX7_apart 48 = .ok (.iload_n 1, 1) := by decide +kernel
theorem dX7_apart_49 : decode cX7_apart 49 = .ok (.imul, 1) := by decide +kernel
theorem dX7_apart_50 : decode cX7_apart 50 = .ok (.iconst 2, 1) := by decide +kernel
theorem dX7_apart_51 : decode cX7_apart 51 = .ok (.iadd, 1) := by decide +kernel
theorem dX7_apart_52 : decode cX7_apart 52 = .ok (.iaload, 1) := by decide +kernel
theorem dX7_apart_53 : decode cX7_apart 53 = .ok (.aload_n 0, 1) := by decide +kernel
theorem dX7_apart_54 : decode cX7_apart 54 = .ok (.getfield 44, 3) := by decide +kernel
theorem dX7_apart_57 : decode cX7_apart 57 = .ok (.iconst 3, 1) := by decide +kernel
theorem dX7_apart_58 : decode cX7_apart 58 = .ok (.iload_n 2, 1) := by decide +kernel
theorem dX7_apart_59 : decode cX7_apart 59 = .ok (.imul, 1) := by decide +kernel
theorem dX7_apart_60 : decode cX7_apart 60 = .ok (.iconst 2, 1) := by decide +kernel
theorem dX7_apart_61 : decode cX7_apart 61 = .ok (.iadd, 1) := by decide +kernel
theorem dX7_apart_62 : decode cX7_apart 62 = .ok (.iaload, 1) := by decide +kernel
theorem dX7_apart_63 : decode cX7_apart 63 = .ok (.invokestatic 140, 3) := by decide +kernel
theorem dX7_apart_66 : decode cX7_apart 66 = .ok (.iadd, 1) := by decide +kernel
theorem dX7_apart_67 : decode cX7_apart 67 = .ok (.ireturn, 1) := by decide +kernel
set_option maxRecDepth 20000 in
theorem ggX7_judged_X7_off : GoodIn wsX7_judged wsX7_off := goodIn_ca (goodIn_r _ [9, 10, 2, 11, 12, 13, 14, 8, 15, 20, 21, 22, 23, 24, 25, 26, 27, 28, 29, 30, 31, 32, 33, 34, 35, 36, 37, 38, 39, 40, 41, 42, 43, 44, 45, 46, 47, 48] (by decide +kernel) (by decide +kernel)) (goodIn_sub (fun _ h => List.mem_cons_of_mem _ (List.mem_append_right _ h)) (by decide +kernel))
set_option maxRecDepth 20000 in
theorem gX7_judged_X7_off : GoodIn wsX7_judged (wsV RX7 143 RX7 yX7_off wsX7_off) := goodIn_app (goodIn_of _ (by decide +kernel)) ggX7_judged_X7_off
set_option maxRecDepth 20000 in
theorem ggX7_judged_X7_apart : GoodIn wsX7_judged wsX7_apart := goodIn_ca (goodIn_r _ [19, 11, 13, 14, 8, 15, 20, 21, 22, 23, 24, 25, 26, 27, 28, 29, 30, 31, 32, 33, 34, 35, 36, 37, 38, 39, 40, 41, 42, 43, 44, 45, 46, 47, 48] (by decide +kernel) (by decide +kernel)) (goodIn_sub (fun _ h => List.mem_cons_of_mem _ (List.mem_append_right _ h)) (by decide +kernel))
set_option maxRecDepth 20000 in
theorem gX7_judged_X7_apart : GoodIn wsX7_judged (wsV RX7 146 RX7 yX7_apart wsX7_apart) := goodIn_app (goodIn_of _ (by decide +kernel)) ggX7_judged_X7_apart
theorem dX7_judged_0 : decode cX7_judged 0 = .ok (.aload_n 0, 1) := by decide +kernel
theorem dX7_judged_1 : decode cX7_judged 1 = .ok (.iload_n 1, 1) := by decide +kernel
theorem dX7_judged_2 : decode cX7_judged 2 = .ok (.invokevirtual 143, 3) := by decide +kernel
theorem dX7_judged_5 : decode cX7_judged 5 = .ok (.aload_n 0, 1) := by decide +kernel
theorem dX7_judged_6 : decode cX7_judged 6 = .ok (.getfield 29, 3) := by decide +kernel
theorem dX7_judged_9 : decode cX7_judged 9 = .ok (.aload_n 0, 1) := by decide +kernel
theorem dX7_judged_10 : decode cX7_judged 10 = .ok (.getfield 38, 3) := by decide +kernel
theorem dX7_judged_13 : decode cX7_judged 13 = .ok (.iload_n 1, 1) := by decide +kernel
theorem dX7_judged_14 : decode cX7_judged 14 = .ok (.iaload, 1) := by decide +kernel
theorem dX7_judged_15 : decode cX7_judged 15 = .ok (.iaload, 1) := by decide +kernel
theorem dX7_judged_16 : decode cX7_judged 16 = .ok (.if_icmp .le 6, 3) := by decide +kernel
theorem dX7_judged_19 : decode cX7_judged 19 = .ok (.bipush 102, 2) := by decide +kernel
theorem dX7_judged_21 : decode cX7_judged 21 = .ok (.ireturn, 1) := by decide +kernel
theorem dX7_judged_22 : decode cX7_judged 22 = .ok (.iconst 0, 1) := by decide +kernel
theorem dX7_judged_23 : decode cX7_judged 23 = .ok (.istore_n 2, 1) := by decide +kernel
theorem dX7_judged_24 : decode cX7_judged 24 = .ok (.iload_n 2, 1) := by decide +kernel
theorem dX7_judged_25 : decode cX7_judged 25 = .ok (.aload_n 0, 1) := by decide +kernel
theorem dX7_judged_26 : decode cX7_judged 26 = .ok (.getfield 92, 3) := by decide +kernel
theorem dX7_judged_29 : decode cX7_judged 29 = .ok (.if_icmp .ge 58, 3) := by decide +kernel
theorem dX7_judged_32 : decode cX7_judged 32 = .ok (.aload_n 0, 1) := by decide +kernel
theorem dX7_judged_33 : decode cX7_judged 33 = .ok (.getfield 38, 3) := by decide +kernel
theorem dX7_judged_36 : decode cX7_judged 36 = .ok (.iload_n 2, 1) := by decide +kernel
theorem dX7_judged_37 : decode cX7_judged 37 = .ok (.iaload, 1) := by decide +kernel
theorem dX7_judged_38 : decode cX7_judged 38 = .ok (.aload_n 0, 1) := by decide +kernel
theorem dX7_judged_39 : decode cX7_judged 39 = .ok (.getfield 38, 3) := by decide +kernel
theorem dX7_judged_42 : decode cX7_judged 42 = .ok (.iload_n 1, 1) := by decide +kernel
theorem dX7_judged_43 : decode cX7_judged 43 = .ok (.iaload, 1) := by decide +kernel
theorem dX7_judged_44 : decode cX7_judged 44 = .ok (.if_icmp .ne 37, 3) := by decide +kernel
theorem dX7_judged_47 : decode cX7_judged 47 = .ok (.aload_n 0, 1) := by decide +kernel
theorem dX7_judged_48 : decode cX7_judged 48 = .ok (.getfield 59, 3) := by decide +kernel
theorem dX7_judged_51 : decode cX7_judged 51 = .ok (.iload_n 2, 1) := by decide +kernel
theorem dX7_judged_52 : decode cX7_judged 52 = .ok (.caload, 1) := by decide +kernel
theorem dX7_judged_53 : decode cX7_judged 53 = .ok (.bipush 112, 2) := by decide +kernel
theorem dX7_judged_55 : decode cX7_judged 55 = .ok (.if_icmp .ne 26, 3) := by decide +kernel
theorem dX7_judged_58 : decode cX7_judged 58 = .ok (.aload_n 0, 1) := by decide +kernel
theorem dX7_judged_59 : decode cX7_judged 59 = .ok (.iload_n 1, 1) := by decide +kernel
theorem dX7_judged_60 : decode cX7_judged 60 = .ok (.iload_n 2, 1) := by decide +kernel
theorem dX7_judged_61 : decode cX7_judged 61 = .ok (.invokevirtual 146, 3) := by decide +kernel
theorem dX7_judged_64 : decode cX7_judged 64 = .ok (.aload_n 0, 1) := by decide +kernel
theorem dX7_judged_65 : decode cX7_judged 65 = .ok (.getfield 29, 3) := by decide +kernel
theorem dX7_judged_68 : decode cX7_judged 68 = .ok (.aload_n 0, 1) := by decide +kernel
theorem dX7_judged_69 : decode cX7_judged 69 = .ok (.getfield 38, 3) := by decide +kernel
theorem dX7_judged_72 : decode cX7_judged 72 = .ok (.iload_n 1, 1) := by decide +kernel
theorem dX7_judged_73 : decode cX7_judged 73 = .ok (.iaload, 1) := by decide +kernel
theorem dX7_judged_74 : decode cX7_judged 74 = .ok (.iaload, 1) := by decide +kernel
theorem dX7_judged_75 : decode cX7_judged 75 = .ok (.if_icmp .le 6, 3) := by decide +kernel
theorem dX7_judged_78 : decode cX7_judged 78 = .ok (.bipush 97, 2) := by decide +kernel
theorem dX7_judged_80 : decode cX7_judged 80 = .ok (.ireturn, 1) := by decide +kernel
theorem dX7_judged_81 : decode cX7_judged 81 = .ok (.iinc 2 1, 3) := by decide +kernel
theorem dX7_judged_84 : decode cX7_judged 84 = .ok (.goto (-60), 3) := by decide +kernel
theorem dX7_judged_87 : decode cX7_judged 87 = .ok (.bipush 112, 2) := by decide +kernel
theorem dX7_judged_89 : decode cX7_judged 89 = .ok (.ireturn, 1) := by decide +kernel
set_option maxRecDepth 20000 in
theorem ggX7_isNot_X7_noLot : GoodIn wsX7_isNot wsX7_noLot := goodIn_r _ [7, 8, 2, 9, 10, 6, 11, 12, 13, 14, 15, 16, 17, 18, 19, 20, 21, 22, 23, 24, 25, 26, 27, 28, 29, 30, 31, 32, 33, 34, 35, 36, 37, 38, 39, 40] (by decide +kernel) (by decide +kernel)
set_option maxRecDepth 20000 in
theorem gX7_isNot_X7_noLot : GoodIn wsX7_isNot (wsV RX7 120 RX7 yX7_noLot wsX7_noLot) := goodIn_app (goodIn_of _ (by decide +kernel)) ggX7_isNot_X7_noLot
theorem dX7_isNot_0 : decode cX7_isNot 0 = .ok (.aload_n 0, 1) := by decide +kernel
theorem dX7_isNot_1 : decode cX7_isNot 1 = .ok (.iload_n 1, 1) := by decide +kernel
theorem dX7_isNot_2 : decode cX7_isNot 2 = .ok (.invokevirtual 120, 3) := by decide +kernel
theorem dX7_isNot_5 : decode cX7_isNot 5 = .ok (.ifCond .eq 5, 3) := by decide +kernel
theorem dX7_isNot_8 : decode cX7_isNot 8 = .ok (.iconst 1, 1) := by decide +kernel
theorem dX7_isNot_9 : decode cX7_isNot 9 = .ok (.ireturn, 1) := by decide +kernel
theorem dX7_isNot_10 : decode cX7_isNot 10 = .ok (.aload_n 0, 1) := by decide +kernel
theorem dX7_isNot_11 : decode cX7_isNot 11 = .ok (.aload_n 0, 1) := by decide +kernel
theorem dX7_isNot_12 : decode cX7_isNot 12 = .ok (.getfield 59, 3) := by decide +kernel
theorem dX7_isNot_15 : decode cX7_isNot 15 = .ok (.iload_n 1, 1) := by decide +kernel
theorem dX7_isNot_16 : decode cX7_isNot 16 = .ok (.caload, 1) := by decide +kernel
theorem dX7_isNot_17 : decode cX7_isNot 17 = .ok (.iload_n 2, 1) := by decide +kernel
theorem dX7_isNot_18 : decode cX7_isNot 18 = .ok (.if_icmp .ne 7, 3) := by decide +kernel
theorem dX7_isNot_21 : decode cX7_isNot 21 = .ok (.iconst 0, 1) := by decide +kernel
theorem dX7_isNot_22 : decode cX7_isNot 22 = .ok (.goto 4, 3) := by decide +kernel
theorem dX7_isNot_25 : decode cX7_isNot 25 = .ok (.iconst 2, 1) := by decide +kernel
theorem dX7_isNot_26 : decode cX7_isNot 26 = .ok (.putfield 84, 3) := by decide +kernel
theorem dX7_isNot_29 : decode cX7_isNot 29 = .ok (.aload_n 0, 1) := by decide +kernel
theorem dX7_isNot_30 : decode cX7_isNot 30 = .ok (.getfield 84, 3) := by decide +kernel
theorem dX7_isNot_33 : decode cX7_isNot 33 = .ok (.ifCond .eq 7, 3) := by decide +kernel
theorem dX7_isNot_36 : decode cX7_isNot 36 = .ok (.iconst 1, 1) := by decide +kernel
theorem dX7_isNot_37 : decode cX7_isNot 37 = .ok (.goto 4, 3) := by decide +kernel
theorem dX7_isNot_40 : decode cX7_isNot 40 = .ok (.iconst 0, 1) := by decide +kernel
theorem dX7_isNot_41 : decode cX7_isNot 41 = .ok (.ireturn, 1) := by decide +kernel
set_option maxRecDepth 20000 in
theorem ggX7_verdict_X7_isNot : GoodIn wsX7_verdict wsX7_isNot := goodIn_ca (goodIn_r _ [5, 6, 7, 8, 9, 10, 4, 11, 12, 13, 14, 15, 36, 37, 38, 39, 40, 41, 42, 43, 44, 45, 46, 47, 48, 49, 50, 51, 52, 53, 54, 55, 56, 57, 58, 59, 60, 61, 62, 63, 64] (by decide +kernel) (by decide +kernel)) (goodIn_sub (fun _ h => List.mem_cons_of_mem _ (List.mem_append_right _ h)) (by decide +kernel))
set_option maxRecDepth 20000 in
theorem gX7_verdict_X7_isNot : GoodIn wsX7_verdict (wsV RX7 149 RX7 yX7_isNot wsX7_isNot) := goodIn_app (goodIn_of _ (by decide +kernel)) ggX7_verdict_X7_isNot
set_option maxRecDepth 20000 in
theorem ggX7_verdict_X7_judged : GoodIn wsX7_verdict wsX7_judged := goodIn_ca (goodIn_r _ [19, 20, 21, 12, 6, 22, 23, 24, 4, 25, 26, 27, 28, 29, 30, 31, 32, 33, 34, 35, 36, 37, 38, 39, 40, 41, 42, 43, 44, 45, 46, 47, 48, 49, 50, 51, 52, 53, 54, 55, 56, 57, 58, 59, 60, 61, 62, 63, 64] (by decide +kernel) (by decide +kernel)) (goodIn_sub (fun _ h => List.mem_cons_of_mem _ (List.mem_append_right _ h)) (by decide +kernel))
set_option maxRecDepth 20000 in
theorem gX7_verdict_X7_judged : GoodIn wsX7_verdict (wsV RX7 153 RX7 yX7_judged wsX7_judged) := goodIn_app (goodIn_of _ (by decide +kernel)) ggX7_verdict_X7_judged
theorem dX7_verdict_0 : decode cX7_verdict 0 = .ok (.aload_n 0, 1) := by decide +kernel
theorem dX7_verdict_1 : decode cX7_verdict 1 = .ok (.iload_n 1, 1) := by decide +kernel
theorem dX7_verdict_2 : decode cX7_verdict 2 = .ok (.bipush 100, 2) := by decide +kernel
theorem dX7_verdict_4 : decode cX7_verdict 4 = .ok (.invokevirtual 149, 3) := by decide +kernel
theorem dX7_verdict_7 : decode cX7_verdict 7 = .ok (.ifCond .eq 8, 3) := by decide +kernel
theorem dX7_verdict_10 : decode cX7_verdict 10 = .ok (.bipush 102, 2) := by decide +kernel
theorem dX7_verdict_12 : decode cX7_verdict 12 = .ok (.goto 8, 3) := by decide +kernel
theorem dX7_verdict_15 : decode cX7_verdict 15 = .ok (.aload_n 0, 1) := by decide +kernel
theorem dX7_verdict_16 : decode cX7_verdict 16 = .ok (.iload_n 1, 1) := by decide +kernel
theorem dX7_verdict_17 : decode cX7_verdict 17 = .ok (.invokevirtual 153, 3) := by decide +kernel
theorem dX7_verdict_20 : decode cX7_verdict 20 = .ok (.ireturn, 1) := by decide +kernel
set_option maxRecDepth 20000 in
theorem ggX7_judge_X7_isNot : GoodIn wsX7_judge wsX7_isNot := goodIn_ca (goodIn_r _ [12, 1, 13, 14, 15, 16, 11, 17, 18, 19, 20, 21, 41, 42, 43, 44, 45, 46, 47, 48, 49, 50, 51, 52, 53, 54, 55, 56, 57, 58, 59, 60, 61, 62, 63, 64, 65, 66, 67, 68, 69] (by decide +kernel) (by decide +kernel)) (goodIn_sub (fun _ h => List.mem_cons_of_mem _ (List.mem_append_right _ h)) (by decide +kernel))
set_option maxRecDepth 20000 in
theorem gX7_judge_X7_isNot : GoodIn wsX7_judge (wsV RX7 149 RX7 yX7_isNot wsX7_isNot) := goodIn_app (goodIn_of _ (by decide +kernel)) ggX7_judge_X7_isNot
set_option maxRecDepth 20000 in
theorem ggX7_judge_X7_judged : GoodIn wsX7_judge wsX7_judged := goodIn_ca (goodIn_r _ [25, 26, 7, 18, 1, 27, 28, 29, 11, 30, 31, 32, 33, 34, 35, 36, 37, 38, 39, 40, 41, 42, 43, 44, 45, 46, 47, 48, 49, 50, 51, 52, 53, 54, 55, 56, 57, 58, 59, 60, 61, 62, 63, 64, 65, 66, 67, 68, 69] (by decide +kernel) (by decide +kernel)) (goodIn_sub (fun _ h => List.mem_cons_of_mem _ (List.mem_append_right _ h)) (by decide +kernel))
set_option maxRecDepth 20000 in
theorem gX7_judge_X7_judged : GoodIn wsX7_judge (wsV RX7 153 RX7 yX7_judged wsX7_judged) := goodIn_app (goodIn_of _ (by decide +kernel)) ggX7_judge_X7_judged
theorem dX7_judge_0 : decode cX7_judge 0 = .ok (.aload_n 0, 1) := by decide +kernel
theorem dX7_judge_1 : decode cX7_judge 1 = .ok (.iload_n 1, 1) := by decide +kernel
theorem dX7_judge_2 : decode cX7_judge 2 = .ok (.bipush 100, 2) := by decide +kernel
theorem dX7_judge_4 : decode cX7_judge 4 = .ok (.invokevirtual 149, 3) := by decide +kernel
theorem dX7_judge_7 : decode cX7_judge 7 = .ok (.ifCond .eq 5, 3) := by decide +kernel
theorem dX7_judge_10 : decode cX7_judge 10 = .ok (.iconst 0, 1) := by decide +kernel
theorem dX7_judge_11 : decode cX7_judge 11 = .ok (.ireturn, 1) := by decide +kernel
theorem dX7_judge_12 : decode cX7_judge 12 = .ok (.aload_n 0, 1) := by decide +kernel
theorem dX7_judge_13 : decode cX7_judge 13 = .ok (.iload_n 1, 1) := by decide +kernel
theorem dX7_judge_14 : decode cX7_judge 14 = .ok (.invokevirtual 153, 3) := by decide +kernel
theorem dX7_judge_17 : decode cX7_judge 17 = .ok (.bipush 112, 2) := by decide +kernel
theorem dX7_judge_19 : decode cX7_judge 19 = .ok (.if_icmp .ne 7, 3) := by decide +kernel
theorem dX7_judge_22 : decode cX7_judge 22 = .ok (.iconst 1, 1) := by decide +kernel
theorem dX7_judge_23 : decode cX7_judge 23 = .ok (.goto 4, 3) := by decide +kernel
theorem dX7_judge_26 : decode cX7_judge 26 = .ok (.iconst 0, 1) := by decide +kernel
theorem dX7_judge_27 : decode cX7_judge 27 = .ok (.istore_n 2, 1) := by decide +kernel
theorem dX7_judge_28 : decode cX7_judge 28 = .ok (.aload_n 0, 1) := by decide +kernel
theorem dX7_judge_29 : decode cX7_judge 29 = .ok (.getfield 59, 3) := by decide +kernel
theorem dX7_judge_32 : decode cX7_judge 32 = .ok (.iload_n 1, 1) := by decide +kernel
theorem dX7_judge_33 : decode cX7_judge 33 = .ok (.iload_n 2, 1) := by decide +kernel
theorem dX7_judge_34 : decode cX7_judge 34 = .ok (.ifCond .eq 8, 3) := by decide +kernel
theorem dX7_judge_37 : decode cX7_judge 37 = .ok (.bipush 112, 2) := by decide +kernel
theorem dX7_judge_39 : decode cX7_judge 39 = .ok (.goto 5, 3) := by decide +kernel
theorem dX7_judge_42 : decode cX7_judge 42 = .ok (.bipush 120, 2) := by decide +kernel
theorem dX7_judge_44 : decode cX7_judge 44 = .ok (.castore, 1) := by decide +kernel
theorem dX7_judge_45 : decode cX7_judge 45 = .ok (.iload_n 2, 1) := by decide +kernel
theorem dX7_judge_46 : decode cX7_judge 46 = .ok (.ifCond .eq 45, 3) := by decide +kernel
theorem dX7_judge_49 : decode cX7_judge 49 = .ok (.aload_n 0, 1) := by decide +kernel
theorem dX7_judge_50 : decode cX7_judge 50 = .ok (.getfield 53, 3) := by decide +kernel
theorem dX7_judge_53 : decode cX7_judge 53 = .ok (.iload_n 1, 1) := by decide +kernel
theorem dX7_judge_54 : decode cX7_judge 54 = .ok (.iaload, 1) := by decide +kernel
theorem dX7_judge_55 : decode cX7_judge 55 = .ok (.aload_n 0, 1) := by decide +kernel
theorem dX7_judge_56 : decode cX7_judge 56 = .ok (.getfield 75, 3) := by decide +kernel
theorem dX7_judge_59 : decode cX7_judge 59 = .ok (.aload_n 0, 1) := by decide +kernel
theorem dX7_judge_60 : decode cX7_judge 60 = .ok (.getfield 47, 3) := by decide +kernel
theorem dX7_judge_63 : decode cX7_judge 63 = .ok (.iload_n 1, 1) := by decide +kernel
theorem dX7_judge_64 : decode cX7_judge 64 = .ok (.iaload, 1) := by decide +kernel
theorem dX7_judge_65 : decode cX7_judge 65 = .ok (.iaload, 1) := by decide +kernel
theorem dX7_judge_66 : decode cX7_judge 66 = .ok (.if_icmp .ne 25, 3) := by decide +kernel
theorem dX7_judge_69 : decode cX7_judge 69 = .ok (.aload_n 0, 1) := by decide +kernel
theorem dX7_judge_70 : decode cX7_judge 70 = .ok (.getfield 69, 3) := by decide +kernel
theorem dX7_judge_73 : decode cX7_judge 73 = .ok (.aload_n 0, 1) := by decide +kernel
theorem dX7_judge_74 : decode cX7_judge 74 = .ok (.getfield 47, 3) := by decide +kernel
theorem dX7_judge_77 : decode cX7_judge 77 = .ok (.iload_n 1, 1) := by decide +kernel
theorem dX7_judge_78 : decode cX7_judge 78 = .ok (.iaload, 1) := by decide +kernel
theorem dX7_judge_79 : decode cX7_judge 79 = .ok (.aload_n 0, 1) := by decide +kernel
theorem dX7_judge_80 : decode cX7_judge 80 = .ok (.getfield 23, 3) := by decide +kernel
theorem dX7_judge_83 : decode cX7_judge 83 = .ok (.aload_n 0, 1) := by decide +kernel
theorem dX7_judge_84 : decode cX7_judge 84 = .ok (.getfield 38, 3) := by decide +kernel
theorem dX7_judge_87 : decode cX7_judge 87 = .ok (.iload_n 1, 1) := by decide +kernel
theorem dX7_judge_88 : decode cX7_judge 88 = .ok (.iaload, 1) := by decide +kernel
theorem dX7_judge_89 : decode cX7_judge 89 = .ok (.iaload, 1) := by decide +kernel
theorem dX7_judge_90 : decode cX7_judge 90 = .ok (.iastore, 1) := by decide +kernel
theorem dX7_judge_91 : decode cX7_judge 91 = .ok (.iload_n 2, 1) := by decide +kernel
theorem dX7_judge_92 : decode cX7_judge 92 = .ok (.ireturn, 1) := by decide +kernel
theorem dX7_waiting_0 : decode cX7_waiting 0 = .ok (.iconst 0, 1) := by decide +kernel
theorem dX7_waiting_1 : decode cX7_waiting 1 = .ok (.istore_n 1, 1) := by decide +kernel
theorem dX7_waiting_2 : decode cX7_waiting 2 = .ok (.iconst 0, 1) := by decide +kernel
theorem dX7_waiting_3 : decode cX7_waiting 3 = .ok (.istore_n 2, 1) := by decide +kernel
theorem dX7_waiting_4 : decode cX7_waiting 4 = .ok (.iload_n 2, 1) := by decide +kernel
theorem dX7_waiting_5 : decode cX7_waiting 5 = .ok (.aload_n 0, 1) := by decide +kernel
theorem dX7_waiting_6 : decode cX7_waiting 6 = .ok (.getfield 92, 3) := by decide +kernel
theorem dX7_waiting_9 : decode cX7_waiting 9 = .ok (.if_icmp .ge 28, 3) := by decide +kernel
theorem dX7_waiting_12 : decode cX7_waiting 12 = .ok (.iload_n 1, 1) := by decide +kernel
theorem dX7_waiting_13 : decode cX7_waiting 13 = .ok (.aload_n 0, 1) := by decide +kernel
theorem dX7_waiting_14 : decode cX7_waiting 14 = .ok (.getfield 59, 3) := by decide +kernel
theorem dX7_waiting_17 : decode cX7_waiting 17 = .ok (.iload_n 2, 1) := by decide +kernel
theorem dX7_waiting_18 : decode cX7_waiting 18 = .ok (.caload, 1) := by decide +kernel
theorem dX7_waiting_19 : decode cX7_waiting 19 = .ok (.bipush 119, 2) := by decide +kernel
theorem dX7_waiting_21 : decode cX7_waiting 21 = .ok (.if_icmp .ne 7, 3) := by decide +kernel
theorem dX7_waiting_24 : decode cX7_waiting 24 = .ok (.iconst 1, 1) := by decide +kernel
theorem dX7_waiting_25 : decode cX7_waiting 25 = .ok (.goto 4, 3) := by decide +kernel
theorem dX7_waiting_28 : decode cX7_waiting 28 = .ok (.iconst 0, 1) := by decide +kernel
theorem dX7_waiting_29 : decode cX7_waiting 29 = .ok (.iadd, 1) := by decide +kernel
theorem dX7_waiting_30 : decode cX7_waiting 30 = .ok (.istore_n 1, 1) := by decide +kernel
theorem dX7_waiting_31 : decode cX7_waiting 31 = .ok (.iinc 2 1, 3) := by decide +kernel
theorem dX7_waiting_34 : decode cX7_waiting 34 = .ok (.goto (-30), 3) := by decide +kernel
theorem dX7_waiting_37 : decode cX7_waiting 37 = .ok (.iload_n 1, 1) := by decide +kernel
theorem dX7_waiting_38 : decode cX7_waiting 38 = .ok (.ireturn, 1) := by decide +kernel
set_option maxRecDepth 20000 in
theorem ggX7_again_X7_isNot : GoodIn wsX7_again wsX7_isNot := goodIn_ca (goodIn_r _ [6, 1, 7, 8, 9, 10, 5, 11, 12, 13, 14, 15, 20, 21, 22, 23, 24, 25, 26, 27, 28, 29, 30, 31, 32, 33, 34, 35, 36, 37, 38, 39, 40, 41, 42, 43, 44, 45, 46, 47, 48] (by decide +kernel) (by decide +kernel)) (goodIn_sub (fun _ h => List.mem_cons_of_mem _ (List.mem_append_right _ h)) (by decide +kernel))
set_option maxRecDepth 20000 in
theorem gX7_again_X7_isNot : GoodIn wsX7_again (wsV RX7 149 RX7 yX7_isNot wsX7_isNot) := goodIn_app (goodIn_of _ (by decide +kernel)) ggX7_again_X7_isNot
set_option maxRecDepth 20000 in
theorem ggX7_again_X7_waiting : GoodIn wsX7_again wsX7_waiting := goodIn_ca (goodIn_r _ [19, 12, 1, 20, 21, 22, 23, 24, 25, 26, 27, 28, 29, 30, 31, 32, 33, 34, 35, 36, 37, 38, 39, 40, 41, 42, 43, 44, 45, 46, 47, 48] (by decide +kernel) (by decide +kernel)) (goodIn_sub (fun _ h => List.mem_cons_of_mem _ (List.mem_append_right _ h)) (by decide +kernel))
set_option maxRecDepth 20000 in
theorem gX7_again_X7_waiting : GoodIn wsX7_again (wsV RX7 157 RX7 yX7_waiting wsX7_waiting) := goodIn_app (goodIn_of _ (by decide +kernel)) ggX7_again_X7_waiting
theorem dX7_again_0 : decode cX7_again 0 = .ok (.aload_n 0, 1) := by decide +kernel
theorem dX7_again_1 : decode cX7_again 1 = .ok (.iload_n 1, 1) := by decide +kernel
theorem dX7_again_2 : decode cX7_again 2 = .ok (.bipush 120, 2) := by decide +kernel
theorem dX7_again_4 : decode cX7_again 4 = .ok (.invokevirtual 149, 3) := by decide +kernel
theorem dX7_again_7 : decode cX7_again 7 = .ok (.ifCond .eq 5, 3) := by decide +kernel
theorem dX7_again_10 : decode cX7_again 10 = .ok (.iconst 0, 1) := by decide +kernel
theorem dX7_again_11 : decode cX7_again 11 = .ok (.ireturn, 1) := by decide +kernel
theorem dX7_again_12 : decode cX7_again 12 = .ok (.aload_n 0, 1) := by decide +kernel
theorem dX7_again_13 : decode cX7_again 13 = .ok (.getfield 59, 3) := by decide +kernel
theorem dX7_again_16 : decode cX7_again 16 = .ok (.iload_n 1, 1) := by decide +kernel
theorem dX7_again_17 : decode cX7_again 17 = .ok (.bipush 119, 2) := by decide +kernel
theorem dX7_again_19 : decode cX7_again 19 = .ok (.castore, 1) := by decide +kernel
theorem dX7_again_20 : decode cX7_again 20 = .ok (.aload_n 0, 1) := by decide +kernel
theorem dX7_again_21 : decode cX7_again 21 = .ok (.invokevirtual 157, 3) := by decide +kernel
theorem dX7_again_24 : decode cX7_again 24 = .ok (.ireturn, 1) := by decide +kernel
theorem dX7_inPlan_0 : decode cX7_inPlan 0 = .ok (.iconst 0, 1) := by decide +kernel
theorem dX7_inPlan_1 : decode cX7_inPlan 1 = .ok (.istore_n 2, 1) := by decide +kernel
theorem dX7_inPlan_2 : decode cX7_inPlan 2 = .ok (.iconst 0, 1) := by decide +kernel
theorem dX7_inPlan_3 : decode cX7_inPlan 3 = .ok (.istore_n 3, 1) := by decide +kernel
theorem dX7_inPlan_4 : decode cX7_inPlan 4 = .ok (.iload_n 3, 1) := by decide +kernel
theorem dX7_inPlan_5 : decode cX7_inPlan 5 = .ok (.aload_n 0, 1) := by decide +kernel
theorem dX7_inPlan_6 : decode cX7_inPlan 6 = .ok (.getfield 92, 3) := by decide +kernel
theorem dX7_inPlan_9 : decode cX7_inPlan 9 = .ok (.if_icmp .ge 27, 3) := by decide +kernel
theorem dX7_inPlan_12 : decode cX7_inPlan 12 = .ok (.iload_n 2, 1) := by decide +kernel
theorem dX7_inPlan_13 : decode cX7_inPlan 13 = .ok (.aload_n 0, 1) := by decide +kernel
theorem dX7_inPlan_14 : decode cX7_inPlan 14 = .ok (.getfield 56, 3) := by decide +kernel
theorem dX7_inPlan_17 : decode cX7_inPlan 17 = .ok (.iload_n 3, 1) := by decide +kernel
theorem dX7_inPlan_18 : decode cX7_inPlan 18 = .ok (.iaload, 1) := by decide +kernel
theorem dX7_inPlan_19 : decode cX7_inPlan 19 = .ok (.iload_n 1, 1) := by decide +kernel
theorem dX7_inPlan_20 : decode cX7_inPlan 20 = .ok (.if_icmp .ne 7, 3) := by decide +kernel
theorem dX7_inPlan_23 : decode cX7_inPlan 23 = .ok (.iconst 1, 1) := by decide +kernel
theorem dX7_inPlan_24 : decode cX7_inPlan 24 = .ok (.goto 4, 3) := by decide +kernel
theorem dX7_inPlan_27 : decode cX7_inPlan 27 = .ok (.iconst 0, 1) := by decide +kernel
theorem dX7_inPlan_28 : decode cX7_inPlan 28 = .ok (.iadd, 1) := by decide +kernel
theorem dX7_inPlan_29 : decode cX7_inPlan 29 = .ok (.istore_n 2, 1) := by decide +kernel
theorem dX7_inPlan_30 : decode cX7_inPlan 30 = .ok (.iinc 3 1, 3) := by decide +kernel
theorem dX7_inPlan_33 : decode cX7_inPlan 33 = .ok (.goto (-29), 3) := by decide +kernel
theorem dX7_inPlan_36 : decode cX7_inPlan 36 = .ok (.iload_n 2, 1) := by decide +kernel
theorem dX7_inPlan_37 : decode cX7_inPlan 37 = .ok (.ireturn, 1) := by decide +kernel
set_option maxRecDepth 20000 in
theorem ggX7_plan_X7_noLot : GoodIn wsX7_plan wsX7_noLot := goodIn_r _ [9, 10, 11, 12, 13, 8, 14, 28, 29, 30, 31, 32, 33, 34, 35, 36, 37, 38, 39, 40, 41, 42, 43, 44, 45, 46, 47, 48, 49, 50, 51, 52, 53, 54, 55, 56] (by decide +kernel) (by decide +kernel)
set_option maxRecDepth 20000 in
theorem gX7_plan_X7_noLot : GoodIn wsX7_plan (wsV RX7 120 RX7 yX7_noLot wsX7_noLot) := goodIn_app (goodIn_of _ (by decide +kernel)) ggX7_plan_X7_noLot
set_option maxRecDepth 20000 in
theorem ggX7_plan_X7_noVat : GoodIn wsX7_plan wsX7_noVat := goodIn_r _ [18, 19, 11, 12, 13, 8, 14, 28, 29, 30, 31, 32, 33, 34, 35, 36, 37, 38, 39, 40, 41, 42, 43, 44, 45, 46, 47, 48, 49, 50, 51, 52, 53, 54, 55, 56] (by decide +kernel) (by decide +kernel)
set_option maxRecDepth 20000 in
theorem gX7_plan_X7_noVat : GoodIn wsX7_plan (wsV RX7 133 RX7 yX7_noVat wsX7_noVat) := goodIn_app (goodIn_of _ (by decide +kernel)) ggX7_plan_X7_noVat
set_option maxRecDepth 20000 in
theorem ggX7_plan_X7_inPlan : GoodIn wsX7_plan wsX7_inPlan := goodIn_ca (goodIn_r _ [23, 10, 2, 28, 29, 30, 31, 32, 33, 34, 35, 36, 37, 38, 39, 40, 41, 42, 43, 44, 45, 46, 47, 48, 49, 50, 51, 52, 53, 54, 55, 56] (by decide +kernel) (by decide +kernel)) (goodIn_sub (fun _ h => List.mem_cons_of_mem _ (List.mem_append_right _ h)) (by decide +kernel))
set_option maxRecDepth 20000 in
theorem gX7_plan_X7_inPlan : GoodIn wsX7_plan (wsV RX7 161 RX7 yX7_inPlan wsX7_inPlan) := goodIn_app (goodIn_of _ (by decide +kernel)) ggX7_plan_X7_inPlan
set_option maxRecDepth 20000 in
theorem ggX7_plan_X7_refuse : GoodIn wsX7_plan wsX7_refuse := goodIn_r _ [27, 11, 28, 29, 30, 31, 32, 33, 34, 35, 36, 37, 38, 39, 40, 41, 42, 43, 44, 45, 46, 47, 48, 49, 50, 51, 52, 53, 54, 55, 56] (by decide +kernel) (by decide +kernel)
set_option maxRecDepth 20000 in
theorem gX7_plan_X7_refuse : GoodIn wsX7_plan (wsV RX7 104 RX7 yX7_refuse wsX7_refuse) := goodIn_app (goodIn_of _ (by decide +kernel)) ggX7_plan_X7_refuse
theorem dX7_plan_0 : decode cX7_plan 0 = .ok (.aload_n 0, 1) := by decide +kernel
theorem dX7_plan_1 : decode cX7_plan 1 = .ok (.iload_n 1, 1) := by decide +kernel
theorem dX7_plan_2 : decode cX7_plan 2 = .ok (.invokevirtual 120, 3) := by decide +kernel
theorem dX7_plan_5 : decode cX7_plan 5 = .ok (.ifCond .ne 11, 3) := by decide +kernel
theorem dX7_plan_8 : decode cX7_plan 8 = .ok (.aload_n 0, 1) := by decide +kernel
theorem dX7_plan_9 : decode cX7_plan 9 = .ok (.iload_n 2, 1) := by decide +kernel
theorem dX7_plan_10 : decode cX7_plan 10 = .ok (.invokevirtual 133, 3) := by decide +kernel
theorem dX7_plan_13 : decode cX7_plan 13 = .ok (.ifCond .eq 5, 3) := by decide +kernel
theorem dX7_plan_16 : decode cX7_plan 16 = .ok (.iconst 0, 1) := by decide +kernel
theorem dX7_plan_17 : decode cX7_plan 17 = .ok (.ireturn, 1) := by decide +kernel
theorem dX7_plan_18 : decode cX7_plan 18 = .ok (.aload_n 0, 1) := by decide +kernel
theorem dX7_plan_19 : decode cX7_plan 19 = .ok (.getfield 59, 3) := by decide +kernel
theorem dX7_plan_22 : decode cX7_plan 22 = .ok (.iload_n 1, 1) := by decide +kernel
theorem dX7_plan_23 : decode cX7_plan 23 = .ok (.caload, 1) := by decide +kernel
theorem dX7_plan_24 : decode cX7_plan 24 = .ok (.bipush 119, 2) := by decide +kernel
theorem dX7_plan_26 : decode cX7_plan 26 = .ok (.if_icmp .ne 23, 3) := by decide +kernel
theorem dX7_plan_29 : decode cX7_plan 29 = .ok (.aload_n 0, 1) := by decide +kernel
theorem dX7_plan_30 : decode cX7_plan 30 = .ok (.getfield 56, 3) := by decide +kernel
theorem dX7_plan_33 : decode cX7_plan 33 = .ok (.iload_n 1, 1) := by decide +kernel
theorem dX7_plan_34 : decode cX7_plan 34 = .ok (.iaload, 1) := by decide +kernel
theorem dX7_plan_35 : decode cX7_plan 35 = .ok (.iconst (-1), 1) := by decide +kernel
theorem dX7_plan_36 : decode cX7_plan 36 = .ok (.if_icmp .ne 13, 3) := by decide +kernel
theorem dX7_plan_39 : decode cX7_plan 39 = .ok (.aload_n 0, 1) := by decide +kernel
theorem dX7_plan_40 : decode cX7_plan 40 = .ok (.iload_n 2, 1) := by decide +kernel
theorem dX7_plan_41 : decode cX7_plan 41 = .ok (.invokevirtual 161, 3) := by decide +kernel
theorem dX7_plan_44 : decode cX7_plan 44 = .ok (.bipush 6, 2) := by decide +kernel
theorem dX7_plan_46 : decode cX7_plan 46 = .ok (.if_icmp .ne 9, 3) := by decide +kernel
theorem dX7_plan_49 : decode cX7_plan 49 = .ok (.aload_n 0, 1) := by decide +kernel
theorem dX7_plan_50 : decode cX7_plan 50 = .ok (.iconst 2, 1) := by decide +kernel
theorem dX7_plan_51 : decode cX7_plan 51 = .ok (.invokevirtual 104, 3) := by decide +kernel
theorem dX7_plan_54 : decode cX7_plan 54 = .ok (.ireturn, 1) := by decide +kernel
theorem dX7_plan_55 : decode cX7_plan 55 = .ok (.aload_n 0, 1) := by decide +kernel
theorem dX7_plan_56 : decode cX7_plan 56 = .ok (.getfield 41, 3) := by decide +kernel
theorem dX7_plan_59 : decode cX7_plan 59 = .ok (.iload_n 1, 1) := by decide +kernel
theorem dX7_plan_60 : decode cX7_plan 60 = .ok (.iaload, 1) := by decide +kernel
theorem dX7_plan_61 : decode cX7_plan 61 = .ok (.aload_n 0, 1) := by decide +kernel
theorem dX7_plan_62 : decode cX7_plan 62 = .ok (.getfield 63, 3) := by decide +kernel
theorem dX7_plan_65 : decode cX7_plan 65 = .ok (.iload_n 2, 1) := by decide +kernel
theorem dX7_plan_66 : decode cX7_plan 66 = .ok (.iaload, 1) := by decide +kernel
theorem dX7_plan_67 : decode cX7_plan 67 = .ok (.if_icmp .le 9, 3) := by decide +kernel
theorem dX7_plan_70 : decode cX7_plan 70 = .ok (.aload_n 0, 1) := by decide +kernel
theorem dX7_plan_71 : decode cX7_plan 71 = .ok (.iconst 3, 1) := by decide +kernel
theorem dX7_plan_72 : decode cX7_plan 72 = .ok (.invokevirtual 104, 3) := by decide +kernel
theorem dX7_plan_75 : decode cX7_plan 75 = .ok (.ireturn, 1) := by decide +kernel
theorem dX7_plan_76 : decode cX7_plan 76 = .ok (.aload_n 0, 1) := by decide +kernel
theorem dX7_plan_77 : decode cX7_plan 77 = .ok (.getfield 56, 3) := by decide +kernel
theorem dX7_plan_80 : decode cX7_plan 80 = .ok (.iload_n 1, 1) := by decide +kernel
theorem dX7_plan_81 : decode cX7_plan 81 = .ok (.iload_n 2, 1) := by decide +kernel
theorem dX7_plan_82 : decode cX7_plan 82 = .ok (.iastore, 1) := by decide +kernel
theorem dX7_plan_83 : decode cX7_plan 83 = .ok (.aload_n 0, 1) := by decide +kernel
theorem dX7_plan_84 : decode cX7_plan 84 = .ok (.iload_n 2, 1) := by decide +kernel
theorem dX7_plan_85 : decode cX7_plan 85 = .ok (.invokevirtual 161, 3) := by decide +kernel
theorem dX7_plan_88 : decode cX7_plan 88 = .ok (.ireturn, 1) := by decide +kernel
set_option maxRecDepth 20000 in
theorem ggX7_unplan_X7_noLot : GoodIn wsX7_unplan wsX7_noLot := goodIn_r _ [6, 7, 8, 9, 10, 5, 11, 16, 17, 18, 19, 20, 21, 22, 23, 24, 25, 26, 27, 28, 29, 30, 31, 32, 33, 34, 35, 36, 37, 38, 39, 40, 41, 42, 43, 44] (by decide +kernel) (by decide +kernel)
set_option maxRecDepth 20000 in
theorem gX7_unplan_X7_noLot : GoodIn wsX7_unplan (wsV RX7 120 RX7 yX7_noLot wsX7_noLot) := goodIn_app (goodIn_of _ (by decide +kernel)) ggX7_unplan_X7_noLot
set_option maxRecDepth 20000 in
theorem ggX7_unplan_X7_refuse : GoodIn wsX7_unplan wsX7_refuse := goodIn_r _ [15, 8, 16, 17, 18, 19, 20, 21, 22, 23, 24, 25, 26, 27, 28, 29, 30, 31, 32, 33, 34, 35, 36, 37, 38, 39, 40, 41, 42, 43, 44] (by decide +kernel) (by decide +kernel)
set_option maxRecDepth 20000 in
theorem gX7_unplan_X7_refuse : GoodIn wsX7_unplan (wsV RX7 104 RX7 yX7_refuse wsX7_refuse) := goodIn_app (goodIn_of _ (by decide +kernel)) ggX7_unplan_X7_refuse
theorem dX7_unplan_0 : decode cX7_unplan 0 = .ok (.aload_n 0, 1) := by decide +kernel
theorem dX7_unplan_1 : decode cX7_unplan 1 = .ok (.iload_n 1, 1) := by decide +kernel
theorem dX7_unplan_2 : decode cX7_unplan 2 = .ok (.invokevirtual 120, 3) := by decide +kernel
theorem dX7_unplan_5 : decode cX7_unplan 5 = .ok (.ifCond .eq 5, 3) := by decide +kernel
theorem dX7_unplan_8 : decode cX7_unplan 8 = .ok (.iconst 0, 1) := by decide +kernel
theorem dX7_unplan_9 : decode cX7_unplan 9 = .ok (.ireturn, 1) := by decide +kernel
theorem dX7_unplan_10 : decode cX7_unplan 10 = .ok (.aload_n 0, 1) := by decide +kernel
theorem dX7_unplan_11 : decode cX7_unplan 11 = .ok (.getfield 56, 3) := by decide +kernel
theorem dX7_unplan_14 : decode cX7_unplan 14 = .ok (.iload_n 1, 1) := by decide +kernel
theorem dX7_unplan_15 : decode cX7_unplan 15 = .ok (.iaload, 1) := by decide +kernel
theorem dX7_unplan_16 : decode cX7_unplan 16 = .ok (.iconst (-1), 1) := by decide +kernel
theorem dX7_unplan_17 : decode cX7_unplan 17 = .ok (.if_icmp .ne 9, 3) := by decide +kernel
theorem dX7_unplan_20 : decode cX7_unplan 20 = .ok (.aload_n 0, 1) := by decide +kernel
theorem dX7_unplan_21 : decode cX7_unplan 21 = .ok (.iconst 2, 1) := by decide +kernel
theorem dX7_unplan_22 : decode cX7_unplan 22 = .ok (.invokevirtual 104, 3) := by decide +kernel
theorem dX7_unplan_25 : decode cX7_unplan 25 = .ok (.ireturn, 1) := by decide +kernel
theorem dX7_unplan_26 : decode cX7_unplan 26 = .ok (.aload_n 0, 1) := by decide +kernel
theorem dX7_unplan_27 : decode cX7_unplan 27 = .ok (.getfield 56, 3) := by decide +kernel
theorem dX7_unplan_30 : decode cX7_unplan 30 = .ok (.iload_n 1, 1) := by decide +kernel
theorem dX7_unplan_31 : decode cX7_unplan 31 = .ok (.iaload, 1) := by decide +kernel
theorem dX7_unplan_32 : decode cX7_unplan 32 = .ok (.istore_n 2, 1) := by decide +kernel
theorem dX7_unplan_33 : decode cX7_unplan 33 = .ok (.aload_n 0, 1) := by decide +kernel
theorem dX7_unplan_34 : decode cX7_unplan 34 = .ok (.getfield 56, 3) := by decide +kernel
theorem dX7_unplan_37 : decode cX7_unplan 37 = .ok (.iload_n 1, 1) := by decide +kernel
theorem dX7_unplan_38 : decode cX7_unplan 38 = .ok (.iconst (-1), 1) := by decide +kernel
theorem dX7_unplan_39 : decode cX7_unplan 39 = .ok (.iastore, 1) := by decide +kernel
theorem dX7_unplan_40 : decode cX7_unplan 40 = .ok (.iload_n 2, 1) := by decide +kernel
theorem dX7_unplan_41 : decode cX7_unplan 41 = .ok (.ireturn, 1) := by decide +kernel
set_option maxRecDepth 20000 in
theorem ggX7_planned_X7_noVat : GoodIn wsX7_planned wsX7_noVat := goodIn_r _ [5, 6, 7, 8, 9, 4, 10, 17, 18, 19, 20, 21, 22, 23, 24, 25, 26, 27, 28, 29, 30, 31, 32, 33, 34, 35, 36, 37, 38, 39, 40, 41, 42, 43, 44, 45] (by decide +kernel) (by decide +kernel)
set_option maxRecDepth 20000 in
theorem gX7_planned_X7_noVat : GoodIn wsX7_planned (wsV RX7 133 RX7 yX7_noVat wsX7_noVat) := goodIn_app (goodIn_of _ (by decide +kernel)) ggX7_planned_X7_noVat
set_option maxRecDepth 20000 in
theorem ggX7_planned_X7_inPlan : GoodIn wsX7_planned wsX7_inPlan := goodIn_ca (goodIn_r _ [14, 15, 16, 17, 18, 19, 20, 21, 22, 23, 24, 25, 26, 27, 28, 29, 30, 31, 32, 33, 34, 35, 36, 37, 38, 39, 40, 41, 42, 43, 44, 45] (by decide +kernel) (by decide +kernel)) (goodIn_sub (fun _ h => List.mem_cons_of_mem _ (List.mem_append_right _ h)) (by decide +kernel))
set_option maxRecDepth 20000 in
theorem gX7_planned_X7_inPlan : GoodIn wsX7_planned (wsV RX7 161 RX7 yX7_inPlan wsX7_inPlan) := goodIn_app (goodIn_of _ (by decide +kernel)) ggX7_planned_X7_inPlan
theorem dX7_planned_0 : decode cX7_planned 0 = .ok (.aload_n 0, 1) := by decide +kernel
theorem dX7_planned_1 : decode cX7_planned 1 = .ok (.iload_n 1, 1) := by decide +kernel
theorem dX7_planned_2 : decode cX7_planned 2 = .ok (.invokevirtual 133, 3) := by decide +kernel
theorem dX7_planned_5 : decode cX7_planned 5 = .ok (.ifCond .eq 7, 3) := by decide +kernel
theorem dX7_planned_8 : decode cX7_planned 8 = .ok (.iconst 0, 1) := by decide +kernel
theorem dX7_planned_9 : decode cX7_planned 9 = .ok (.goto 8, 3) := by decide +kernel
theorem dX7_planned_12 : decode cX7_planned 12 = .ok (.aload_n 0, 1) := by decide +kernel
theorem dX7_planned_13 : decode cX7_planned 13 = .ok (.iload_n 1, 1) := by decide +kernel
theorem dX7_planned_14 : decode cX7_planned 14 = .ok (.invokevirtual 161, 3) := by decide +kernel
theorem dX7_planned_17 : decode cX7_planned 17 = .ok (.ireturn, 1) := by decide +kernel
theorem dX7_lotAt_0 : decode cX7_lotAt 0 = .ok (.iconst 0, 1) := by decide +kernel
theorem dX7_lotAt_1 : decode cX7_lotAt 1 = .ok (.istore_n 3, 1) := by decide +kernel
theorem dX7_lotAt_2 : decode cX7_lotAt 2 = .ok (.iconst 0, 1) := by decide +kernel
theorem dX7_lotAt_3 : decode cX7_lotAt 3 = .ok (.istore 4, 2) := by decide +kernel
theorem dX7_lotAt_5 : decode cX7_lotAt 5 = .ok (.iload 4, 2) := by decide +kernel
theorem dX7_lotAt_7 : decode cX7_lotAt 7 = .ok (.aload_n 0, 1) := by decide +kernel
theorem dX7_lotAt_8 : decode cX7_lotAt 8 = .ok (.getfield 92, 3) := by decide +kernel
theorem dX7_lotAt_11 : decode cX7_lotAt 11 = .ok (.if_icmp .ge 34, 3) := by decide +kernel
theorem dX7_lotAt_14 : decode cX7_lotAt 14 = .ok (.aload_n 0, 1) := by decide +kernel
theorem dX7_lotAt_15 : decode cX7_lotAt 15 = .ok (.getfield 56, 3) := by decide +kernel
theorem dX7_lotAt_18 : decode cX7_lotAt 18 = .ok (.iload 4, 2) := by decide +kernel
theorem dX7_lotAt_20 : decode cX7_lotAt 20 = .ok (.iaload, 1) := by decide +kernel
theorem dX7_lotAt_21 : decode cX7_lotAt 21 = .ok (.iload_n 1, 1) := by decide +kernel
theorem dX7_lotAt_22 : decode cX7_lotAt 22 = .ok (.if_icmp .eq 6, 3) := by decide +kernel
theorem dX7_lotAt_25 : decode cX7_lotAt 25 = .ok (.goto 14, 3) := by decide +kernel
theorem dX7_lotAt_28 : decode cX7_lotAt 28 = .ok (.iload_n 3, 1) := by decide +kernel
theorem dX7_lotAt_29 : decode cX7_lotAt 29 = .ok (.iload_n 2, 1) := by decide +kernel
theorem dX7_lotAt_30 : decode cX7_lotAt 30 = .ok (.if_icmp .ne 6, 3) := by decide +kernel
theorem dX7_lotAt_33 : decode cX7_lotAt 33 = .ok (.iload 4, 2) := by decide +kernel
theorem dX7_lotAt_35 : decode cX7_lotAt 35 = .ok (.ireturn, 1) := by decide +kernel
theorem dX7_lotAt_36 : decode cX7_lotAt 36 = .ok (.iinc 3 1, 3) := by decide +kernel
theorem dX7_lotAt_39 : decode cX7_lotAt 39 = .ok (.iinc 4 1, 3) := by decide +kernel
theorem dX7_lotAt_42 : decode cX7_lotAt 42 = .ok (.goto (-37), 3) := by decide +kernel
theorem dX7_lotAt_45 : decode cX7_lotAt 45 = .ok (.iconst (-1), 1) := by decide +kernel
theorem dX7_lotAt_46 : decode cX7_lotAt 46 = .ok (.ireturn, 1) := by decide +kernel
set_option maxRecDepth 20000 in
theorem ggX7_plannedAt_X7_noVat : GoodIn wsX7_plannedAt wsX7_noVat := goodIn_r _ [5, 6, 7, 8, 9, 4, 10, 21, 22, 23, 24, 25, 26, 27, 28, 29, 30, 31, 32, 33, 34, 35, 36, 37, 38, 39, 40, 41, 42, 43, 44, 45, 46, 47, 48, 49] (by decide +kernel) (by decide +kernel)
set_option maxRecDepth 20000 in
theorem gX7_plannedAt_X7_noVat : GoodIn wsX7_plannedAt (wsV RX7 133 RX7 yX7_noVat wsX7_noVat) := goodIn_app (goodIn_of _ (by decide +kernel)) ggX7_plannedAt_X7_noVat
set_option maxRecDepth 20000 in
theorem ggX7_plannedAt_X7_lotAt : GoodIn wsX7_plannedAt wsX7_lotAt := goodIn_ca (goodIn_r _ [14, 15, 16, 21, 22, 23, 24, 25, 26, 27, 28, 29, 30, 31, 32, 33, 34, 35, 36, 37, 38, 39, 40, 41, 42, 43, 44, 45, 46, 47, 48, 49] (by decide +kernel) (by decide +kernel)) (goodIn_sub (fun _ h => List.mem_cons_of_mem _ (List.mem_append_right _ h)) (by decide +kernel))
set_option maxRecDepth 20000 in
theorem gX7_plannedAt_X7_lotAt : GoodIn wsX7_plannedAt (wsV RX7 164 RX7 yX7_lotAt wsX7_lotAt) := goodIn_app (goodIn_of _ (by decide +kernel)) ggX7_plannedAt_X7_lotAt
set_option maxRecDepth 20000 in
theorem ggX7_plannedAt_X7_refuse : GoodIn wsX7_plannedAt wsX7_refuse := goodIn_r _ [20, 7, 21, 22, 23, 24, 25, 26, 27, 28, 29, 30, 31, 32, 33, 34, 35, 36, 37, 38, 39, 40, 41, 42, 43, 44, 45, 46, 47, 48, 49] (by decide +kernel) (by decide +kernel)
set_option maxRecDepth 20000 in
theorem gX7_plannedAt_X7_refuse : GoodIn wsX7_plannedAt (wsV RX7 104 RX7 yX7_refuse wsX7_refuse) := goodIn_app (goodIn_of _ (by decide +kernel)) ggX7_plannedAt_X7_refuse
theorem dX7_plannedAt_0 : decode cX7_plannedAt 0 = .ok (.aload_n 0, 1) := by decide +kernel
theorem dX7_plannedAt_1 : decode cX7_plannedAt 1 = .ok (.iload_n 1, 1) := by decide +kernel
theorem dX7_plannedAt_2 : decode cX7_plannedAt 2 = .ok (.invokevirtual 133, 3) := by decide +kernel
theorem dX7_plannedAt_5 : decode cX7_plannedAt 5 = .ok (.ifCond .eq 5, 3) := by decide +kernel
theorem dX7_plannedAt_8 : decode cX7_plannedAt 8 = .ok (.iconst 0, 1) := by decide +kernel
theorem dX7_plannedAt_9 : decode cX7_plannedAt 9 = .ok (.ireturn, 1) := by decide +kernel
theorem dX7_plannedAt_10 : decode cX7_plannedAt 10 = .ok (.aload_n 0, 1) := by decide +kernel
theorem dX7_plannedAt_11 : decode cX7_plannedAt 11 = .ok (.iload_n 1, 1) := by decide +kernel
theorem dX7_plannedAt_12 : decode cX7_plannedAt 12 = .ok (.iload_n 2, 1) := by decide +kernel
theorem dX7_plannedAt_13 : decode cX7_plannedAt 13 = .ok (.invokevirtual 164, 3) := by decide +kernel
theorem dX7_plannedAt_16 : decode cX7_plannedAt 16 = .ok (.istore_n 3, 1) := by decide +kernel
theorem dX7_plannedAt_17 : decode cX7_plannedAt 17 = .ok (.iload_n 3, 1) := by decide +kernel
theorem dX7_plannedAt_18 : decode cX7_plannedAt 18 = .ok (.iconst (-1), 1) := by decide +kernel
theorem dX7_plannedAt_19 : decode cX7_plannedAt 19 = .ok (.if_icmp .ne 9, 3) := by decide +kernel
theorem dX7_plannedAt_22 : decode cX7_plannedAt 22 = .ok (.aload_n 0, 1) := by decide +kernel
theorem dX7_plannedAt_23 : decode cX7_plannedAt 23 = .ok (.iconst 2, 1) := by decide +kernel
theorem dX7_plannedAt_24 : decode cX7_plannedAt 24 = .ok (.invokevirtual 104, 3) := by decide +kernel
theorem dX7_plannedAt_27 : decode cX7_plannedAt 27 = .ok (.ireturn, 1) := by decide +kernel
theorem dX7_plannedAt_28 : decode cX7_plannedAt 28 = .ok (.iload_n 3, 1) := by decide +kernel
theorem dX7_plannedAt_29 : decode cX7_plannedAt 29 = .ok (.ireturn, 1) := by decide +kernel
set_option maxRecDepth 20000 in
theorem ggX7_lasts_X7_lightOf : GoodIn wsX7_lasts wsX7_lightOf := goodIn_ca (goodIn_r _ [10, 11, 12, 5, 18, 19, 20, 21, 22, 23, 24, 25, 26, 27, 28, 29, 30, 31, 32, 33, 34, 35, 36, 37, 38, 39, 40, 41, 42, 43, 44, 45, 46] (by decide +kernel) (by decide +kernel)) (goodIn_sub (fun _ h => List.mem_cons_of_mem _ (List.mem_append_right _ h)) (by decide +kernel))
set_option maxRecDepth 20000 in
theorem gX7_lasts_X7_lightOf : GoodIn wsX7_lasts (wsV RX7 130 RX7 yX7_lightOf wsX7_lightOf) := goodIn_app (goodIn_of _ (by decide +kernel)) ggX7_lasts_X7_lightOf
set_option maxRecDepth 20000 in
theorem ggX7_lasts_X7_hours : GoodIn wsX7_lasts wsX7_hours := goodIn_ca (goodIn_r _ [16, 17, 18, 19, 20, 21, 22, 23, 24, 25, 26, 27, 28, 29, 30, 31, 32, 33, 34, 35, 36, 37, 38, 39, 40, 41, 42, 43, 44, 45, 46] (by decide +kernel) (by decide +kernel)) (goodIn_sub (fun _ h => List.mem_cons_of_mem _ (List.mem_append_right _ h)) (by decide +kernel))
set_option maxRecDepth 20000 in
theorem gX7_lasts_X7_hours : GoodIn wsX7_lasts (wsV RX7 127 RX7 yX7_hours wsX7_hours) := goodIn_app (goodIn_of _ (by decide +kernel)) ggX7_lasts_X7_hours
theorem dX7_lasts_0 : decode cX7_lasts 0 = .ok (.iconst 0, 1) := by decide +kernel
theorem dX7_lasts_1 : decode cX7_lasts 1 = .ok (.istore_n 3, 1) := by decide +kernel
theorem dX7_lasts_2 : decode cX7_lasts 2 = .ok (.aload_n 0, 1) := by decide +kernel
theorem dX7_lasts_3 : decode cX7_lasts 3 = .ok (.getfield 66, 3) := by decide +kernel
theorem dX7_lasts_6 : decode cX7_lasts 6 = .ok (.iload_n 1, 1) := by decide +kernel
theorem dX7_lasts_7 : decode cX7_lasts 7 = .ok (.iaload, 1) := by decide +kernel
theorem dX7_lasts_8 : decode cX7_lasts 8 = .ok (.istore 4, 2) := by decide +kernel
theorem dX7_lasts_10 : decode cX7_lasts 10 = .ok (.aload_n 0, 1) := by decide +kernel
theorem dX7_lasts_11 : decode cX7_lasts 11 = .ok (.getfield 69, 3) := by decide +kernel
theorem dX7_lasts_14 : decode cX7_lasts 14 = .ok (.iload_n 1, 1) := by decide +kernel
theorem dX7_lasts_15 : decode cX7_lasts 15 = .ok (.iaload, 1) := by decide +kernel
theorem dX7_lasts_16 : decode cX7_lasts 16 = .ok (.istore 5, 2) := by decide +kernel
theorem dX7_lasts_18 : decode cX7_lasts 18 = .ok (.iconst 0, 1) := by decide +kernel
theorem dX7_lasts_19 : decode cX7_lasts 19 = .ok (.istore 6, 2) := by decide +kernel
theorem dX7_lasts_21 : decode cX7_lasts 21 = .ok (.iload 6, 2) := by decide +kernel
theorem dX7_lasts_23 : decode cX7_lasts 23 = .ok (.iload_n 2, 1) := by decide +kernel
theorem dX7_lasts_24 : decode cX7_lasts 24 = .ok (.if_icmp .ge 81, 3) := by decide +kernel
theorem dX7_lasts_27 : decode cX7_lasts 27 = .ok (.aload_n 0, 1) := by decide +kernel
theorem dX7_lasts_28 : decode cX7_lasts 28 = .ok (.getfield 78, 3) := by decide +kernel
theorem dX7_lasts_31 : decode cX7_lasts 31 = .ok (.iload 6, 2) := by decide +kernel
theorem dX7_lasts_33 : decode cX7_lasts 33 = .ok (.iaload, 1) := by decide +kernel
theorem dX7_lasts_34 : decode cX7_lasts 34 = .ok (.istore 7, 2) := by decide +kernel
theorem dX7_lasts_36 : decode cX7_lasts 36 = .ok (.iload 4, 2) := by decide +kernel
theorem dX7_lasts_38 : decode cX7_lasts 38 = .ok (.iconst (-1), 1) := by decide +kernel
theorem dX7_lasts_39 : decode cX7_lasts 39 = .ok (.if_icmp .eq 14, 3) := by decide +kernel
theorem dX7_lasts_42 : decode cX7_lasts 42 = .ok (.iload 4, 2) := by decide +kernel
theorem dX7_lasts_44 : decode cX7_lasts 44 = .ok (.aload_n 0, 1) := by decide +kernel
theorem dX7_lasts_45 : decode cX7_lasts 45 = .ok (.iload 7, 2) := by decide +kernel
theorem dX7_lasts_47 : decode cX7_lasts 47 = .ok (.invokevirtual 130, 3) := by decide +kernel
theorem dX7_lasts_50 : decode cX7_lasts 50 = .ok (.if_icmp .lt 26, 3) := by decide +kernel
theorem dX7_lasts_53 : decode cX7_lasts 53 = .ok (.iload 5, 2) := by decide +kernel
theorem dX7_lasts_55 : decode cX7_lasts 55 = .ok (.iconst (-1), 1) := by decide +kernel
theorem dX7_lasts_56 : decode cX7_lasts 56 = .ok (.if_icmp .eq 26, 3) := by decide +kernel
theorem dX7_lasts_59 : decode cX7_lasts 59 = .ok (.iload 5, 2) := by decide +kernel
theorem dX7_lasts_61 : decode cX7_lasts 61 = .ok (.aload_n 0, 1) := by decide +kernel
theorem dX7_lasts_62 : decode cX7_lasts 62 = .ok (.getfield 23, 3) := by decide +kernel
theorem dX7_lasts_65 : decode cX7_lasts 65 = .ok (.aload_n 0, 1) := by decide +kernel
theorem dX7_lasts_66 : decode cX7_lasts 66 = .ok (.getfield 38, 3) := by decide +kernel
theorem dX7_lasts_69 : decode cX7_lasts 69 = .ok (.iload 7, 2) := by decide +kernel
theorem dX7_lasts_71 : decode cX7_lasts 71 = .ok (.iaload, 1) := by decide +kernel
theorem dX7_lasts_72 : decode cX7_lasts 72 = .ok (.iaload, 1) := by decide +kernel
theorem dX7_lasts_73 : decode cX7_lasts 73 = .ok (.if_icmp .eq 9, 3) := by decide +kernel
theorem dX7_lasts_76 : decode cX7_lasts 76 = .ok (.iinc 3 3, 3) := by decide +kernel
theorem dX7_lasts_79 : decode cX7_lasts 79 = .ok (.iconst (-1), 1) := by decide +kernel
theorem dX7_lasts_80 : decode cX7_lasts 80 = .ok (.istore 5, 2) := by decide +kernel
theorem dX7_lasts_82 : decode cX7_lasts 82 = .ok (.aload_n 0, 1) := by decide +kernel
theorem dX7_lasts_83 : decode cX7_lasts 83 = .ok (.iload 7, 2) := by decide +kernel
theorem dX7_lasts_85 : decode cX7_lasts 85 = .ok (.invokevirtual 130, 3) := by decide +kernel
theorem dX7_lasts_88 : decode cX7_lasts 88 = .ok (.istore 4, 2) := by decide +kernel
theorem dX7_lasts_90 : decode cX7_lasts 90 = .ok (.iload_n 3, 1) := by decide +kernel
theorem dX7_lasts_91 : decode cX7_lasts 91 = .ok (.aload_n 0, 1) := by decide +kernel
theorem dX7_lasts_92 : decode cX7_lasts 92 = .ok (.iload 7, 2) := by decide +kernel
theorem dX7_lasts_94 : decode cX7_lasts 94 = .ok (.invokevirtual 127, 3) := by decide +kernel
theorem dX7_lasts_97 : decode cX7_lasts 97 = .ok (.iadd, 1) := by decide +kernel
theorem dX7_lasts_98 : decode cX7_lasts 98 = .ok (.istore_n 3, 1) := by decide +kernel
theorem dX7_lasts_99 : decode cX7_lasts 99 = .ok (.iinc 6 1, 3) := by decide +kernel
theorem dX7_lasts_102 : decode cX7_lasts 102 = .ok (.goto (-81), 3) := by decide +kernel
theorem dX7_lasts_105 : decode cX7_lasts 105 = .ok (.iload_n 3, 1) := by decide +kernel
theorem dX7_lasts_106 : decode cX7_lasts 106 = .ok (.ireturn, 1) := by decide +kernel
set_option maxRecDepth 20000 in
theorem ggX7_isNext_X7_swap : GoodIn wsX7_isNext wsX7_swap := goodIn_ca (goodIn_r _ [6, 1, 7, 8, 9, 10, 11, 12, 13, 14, 15, 16, 17, 18, 19, 20, 21, 22, 23, 24, 25, 26, 27, 28, 29, 30, 31, 32, 33, 34, 35] (by decide +kernel) (by decide +kernel)) (goodIn_sub (fun _ h => List.mem_cons_of_mem _ (List.mem_append_right _ h)) (by decide +kernel))
set_option maxRecDepth 20000 in
theorem gX7_isNext_X7_swap : GoodIn wsX7_isNext (wsV RX7 167 RX7 yX7_swap wsX7_swap) := goodIn_app (goodIn_of _ (by decide +kernel)) ggX7_isNext_X7_swap
theorem dX7_isNext_0 : decode cX7_isNext 0 = .ok (.iload_n 1, 1) := by decide +kernel
theorem dX7_isNext_1 : decode cX7_isNext 1 = .ok (.iconst 2, 1) := by decide +kernel
theorem dX7_isNext_2 : decode cX7_isNext 2 = .ok (.isub, 1) := by decide +kernel
theorem dX7_isNext_3 : decode cX7_isNext 3 = .ok (.istore_n 2, 1) := by decide +kernel
theorem dX7_isNext_4 : decode cX7_isNext 4 = .ok (.iload_n 2, 1) := by decide +kernel
theorem dX7_isNext_5 : decode cX7_isNext 5 = .ok (.ifCond .lt 26, 3) := by decide +kernel
theorem dX7_isNext_8 : decode cX7_isNext 8 = .ok (.aload_n 0, 1) := by decide +kernel
theorem dX7_isNext_9 : decode cX7_isNext 9 = .ok (.getfield 78, 3) := by decide +kernel
theorem dX7_isNext_12 : decode cX7_isNext 12 = .ok (.iload_n 2, 1) := by decide +kernel
theorem dX7_isNext_13 : decode cX7_isNext 13 = .ok (.iaload, 1) := by decide +kernel
theorem dX7_isNext_14 : decode cX7_isNext 14 = .ok (.aload_n 0, 1) := by decide +kernel
theorem dX7_isNext_15 : decode cX7_isNext 15 = .ok (.getfield 78, 3) := by decide +kernel
theorem dX7_isNext_18 : decode cX7_isNext 18 = .ok (.iload_n 2, 1) := by decide +kernel
theorem dX7_isNext_19 : decode cX7_isNext 19 = .ok (.iconst 1, 1) := by decide +kernel
theorem dX7_isNext_20 : decode cX7_isNext 20 = .ok (.iadd, 1) := by decide +kernel
theorem dX7_isNext_21 : decode cX7_isNext 21 = .ok (.iaload, 1) := by decide +kernel
theorem dX7_isNext_22 : decode cX7_isNext 22 = .ok (.if_icmp .le 9, 3) := by decide +kernel
theorem dX7_isNext_25 : decode cX7_isNext 25 = .ok (.iinc 2 (-1), 3) := by decide +kernel
theorem dX7_isNext_28 : decode cX7_isNext 28 = .ok (.goto (-24), 3) := by decide +kernel
theorem dX7_isNext_31 : decode cX7_isNext 31 = .ok (.iload_n 2, 1) := by decide +kernel
theorem dX7_isNext_32 : decode cX7_isNext 32 = .ok (.ifCond .ge 5, 3) := by decide +kernel
theorem dX7_isNext_35 : decode cX7_isNext 35 = .ok (.iconst 0, 1) := by decide +kernel
theorem dX7_isNext_36 : decode cX7_isNext 36 = .ok (.ireturn, 1) := by decide +kernel
theorem dX7_isNext_37 : decode cX7_isNext 37 = .ok (.iload_n 1, 1) := by decide +kernel
theorem dX7_isNext_38 : decode cX7_isNext 38 = .ok (.iconst 1, 1) := by decide +kernel
theorem dX7_isNext_39 : decode cX7_isNext 39 = .ok (.isub, 1) := by decide +kernel
theorem dX7_isNext_40 : decode cX7_isNext 40 = .ok (.istore_n 3, 1) := by decide +kernel
theorem dX7_isNext_41 : decode cX7_isNext 41 = .ok (.aload_n 0, 1) := by decide +kernel
theorem dX7_isNext_42 : decode cX7_isNext 42 = .ok (.getfield 78, 3) := by decide +kernel
theorem dX7_isNext_45 : decode cX7_isNext 45 = .ok (.iload_n 3, 1) := by decide +kernel
theorem dX7_isNext_46 : decode cX7_isNext 46 = .ok (.iaload, 1) := by decide +kernel
theorem dX7_isNext_47 : decode cX7_isNext 47 = .ok (.aload_n 0, 1) := by decide +kernel
theorem dX7_isNext_48 : decode cX7_isNext 48 = .ok (.getfield 78, 3) := by decide +kernel
theorem dX7_isNext_51 : decode cX7_isNext 51 = .ok (.iload_n 2, 1) := by decide +kernel
theorem dX7_isNext_52 : decode cX7_isNext 52 = .ok (.iaload, 1) := by decide +kernel
theorem dX7_isNext_53 : decode cX7_isNext 53 = .ok (.if_icmp .ge 9, 3) := by decide +kernel
theorem dX7_isNext_56 : decode cX7_isNext 56 = .ok (.iinc 3 (-1), 3) := by decide +kernel
theorem dX7_isNext_59 : decode cX7_isNext 59 = .ok (.goto (-18), 3) := by decide +kernel
theorem dX7_isNext_62 : decode cX7_isNext 62 = .ok (.aload_n 0, 1) := by decide +kernel
theorem dX7_isNext_63 : decode cX7_isNext 63 = .ok (.iload_n 2, 1) := by decide +kernel
theorem dX7_isNext_64 : decode cX7_isNext 64 = .ok (.iload_n 3, 1) := by decide +kernel
theorem dX7_isNext_65 : decode cX7_isNext 65 = .ok (.invokevirtual 167, 3) := by decide +kernel
theorem dX7_isNext_68 : decode cX7_isNext 68 = .ok (.iload_n 2, 1) := by decide +kernel
theorem dX7_isNext_69 : decode cX7_isNext 69 = .ok (.iconst 1, 1) := by decide +kernel
theorem dX7_isNext_70 : decode cX7_isNext 70 = .ok (.iadd, 1) := by decide +kernel
theorem dX7_isNext_71 : decode cX7_isNext 71 = .ok (.istore 4, 2) := by decide +kernel
theorem dX7_isNext_73 : decode cX7_isNext 73 = .ok (.iload_n 1, 1) := by decide +kernel
theorem dX7_isNext_74 : decode cX7_isNext 74 = .ok (.iconst 1, 1) := by decide +kernel
theorem dX7_isNext_75 : decode cX7_isNext 75 = .ok (.isub, 1) := by decide +kernel
theorem dX7_isNext_76 : decode cX7_isNext 76 = .ok (.istore 5, 2) := by decide +kernel
theorem dX7_isNext_78 : decode cX7_isNext 78 = .ok (.iload 4, 2) := by decide +kernel
theorem dX7_isNext_80 : decode cX7_isNext 80 = .ok (.iload 5, 2) := by decide +kernel
theorem dX7_isNext_82 : decode cX7_isNext 82 = .ok (.if_icmp .ge 20, 3) := by decide +kernel
theorem dX7_isNext_85 : decode cX7_isNext 85 = .ok (.aload_n 0, 1) := by decide +kernel
theorem dX7_isNext_86 : decode cX7_isNext 86 = .ok (.iload 4, 2) := by decide +kernel
theorem dX7_isNext_88 : decode cX7_isNext 88 = .ok (.iload 5, 2) := by decide +kernel
theorem dX7_isNext_90 : decode cX7_isNext 90 = .ok (.invokevirtual 167, 3) := by decide +kernel
theorem dX7_isNext_93 : decode cX7_isNext 93 = .ok (.iinc 4 1, 3) := by decide +kernel
theorem dX7_isNext_96 : decode cX7_isNext 96 = .ok (.iinc 5 (-1), 3) := by decide +kernel
theorem dX7_isNext_99 : decode cX7_isNext 99 = .ok (.goto (-21), 3) := by decide +kernel
theorem dX7_isNext_102 : decode cX7_isNext 102 = .ok (.iconst 1, 1) := by decide +kernel
theorem dX7_isNext_103 : decode cX7_isNext 103 = .ok (.ireturn, 1) := by decide +kernel
theorem dX7_swap_0 : decode cX7_swap 0 = .ok (.aload_n 0, 1) := by decide +kernel
theorem dX7_swap_1 : decode cX7_swap 1 = .ok (.getfield 78, 3) := by decide +kernel
theorem dX7_swap_4 : decode cX7_swap 4 = .ok (.iload_n 1, 1) := by decide +kernel
theorem dX7_swap_5 : decode cX7_swap 5 = .ok (.iaload, 1) := by decide +kernel
theorem dX7_swap_6 : decode cX7_swap 6 = .ok (.istore_n 3, 1) := by decide +kernel
theorem dX7_swap_7 : decode cX7_swap 7 = .ok (.aload_n 0, 1) := by decide +kernel
theorem dX7_swap_8 : decode cX7_swap 8 = .ok (.getfield 78, 3) := by decide +kernel
theorem dX7_swap_11 : decode cX7_swap 11 = .ok (.iload_n 1, 1) := by decide +kernel
theorem dX7_swap_12 : decode cX7_swap 12 = .ok (.aload_n 0, 1) := by decide +kernel
theorem dX7_swap_13 : decode cX7_swap 13 = .ok (.getfield 78, 3) := by decide +kernel
theorem dX7_swap_16 : decode cX7_swap 16 = .ok (.iload_n 2, 1) := by decide +kernel
theorem dX7_swap_17 : decode cX7_swap 17 = .ok (.iaload, 1) := by decide +kernel
theorem dX7_swap_18 : decode cX7_swap 18 = .ok (.iastore, 1) := by decide +kernel
theorem dX7_swap_19 : decode cX7_swap 19 = .ok (.aload_n 0, 1) := by decide +kernel
theorem dX7_swap_20 : decode cX7_swap 20 = .ok (.getfield 78, 3) := by decide +kernel
theorem dX7_swap_23 : decode cX7_swap 23 = .ok (.iload_n 2, 1) := by decide +kernel
theorem dX7_swap_24 : decode cX7_swap 24 = .ok (.iload_n 3, 1) := by decide +kernel
theorem dX7_swap_25 : decode cX7_swap 25 = .ok (.iastore, 1) := by decide +kernel
theorem dX7_swap_26 : decode cX7_swap 26 = .ok (.return_, 1) := by decide +kernel
set_option maxRecDepth 20000 in
theorem ggX7_least_X7_inPlan : GoodIn wsX7_least wsX7_inPlan := goodIn_ca (goodIn_r _ [7, 8, 9, 41, 42, 43, 44, 45, 46, 47, 48, 49, 50, 51, 52, 53, 54, 55, 56, 57, 58, 59, 60, 61, 62, 63, 64, 65, 66, 67, 68, 69] (by decide +kernel) (by decide +kernel)) (goodIn_sub (fun _ h => List.mem_cons_of_mem _ (List.mem_append_right _ h)) (by decide +kernel))
set_option maxRecDepth 20000 in
theorem gX7_least_X7_inPlan : GoodIn wsX7_least (wsV RX7 161 RX7 yX7_inPlan wsX7_inPlan) := goodIn_app (goodIn_of _ (by decide +kernel)) ggX7_least_X7_inPlan
set_option maxRecDepth 20000 in
theorem ggX7_least_X7_lotAt : GoodIn wsX7_least wsX7_lotAt := goodIn_ca (goodIn_r _ [13, 8, 9, 41, 42, 43, 44, 45, 46, 47, 48, 49, 50, 51, 52, 53, 54, 55, 56, 57, 58, 59, 60, 61, 62, 63, 64, 65, 66, 67, 68, 69] (by decide +kernel) (by decide +kernel)) (goodIn_sub (fun _ h => List.mem_cons_of_mem _ (List.mem_append_right _ h)) (by decide +kernel))
set_option maxRecDepth 20000 in
theorem gX7_least_X7_lotAt : GoodIn wsX7_least (wsV RX7 164 RX7 yX7_lotAt wsX7_lotAt) := goodIn_app (goodIn_of _ (by decide +kernel)) ggX7_least_X7_lotAt
set_option maxRecDepth 20000 in
theorem ggX7_least_X7_lasts : GoodIn wsX7_least wsX7_lasts := goodIn_ca (goodIn_r _ [17, 18, 19, 1, 20, 21, 22, 23, 24, 6, 25, 26, 27, 28, 29, 30, 31, 32, 41, 42, 43, 44, 45, 46, 47, 48, 49, 50, 51, 52, 53, 54, 55, 56, 57, 58, 59, 60, 61, 62, 63, 64, 65, 66, 67, 68, 69] (by decide +kernel) (by decide +kernel)) (goodIn_sub (fun _ h => List.mem_cons_of_mem _ (List.mem_append_right _ h)) (by decide +kernel))
set_option maxRecDepth 20000 in
theorem gX7_least_X7_lasts : GoodIn wsX7_least (wsV RX7 171 RX7 yX7_lasts wsX7_lasts) := goodIn_app (goodIn_of _ (by decide +kernel)) ggX7_least_X7_lasts
set_option maxRecDepth 20000 in
theorem ggX7_least_X7_isNext : GoodIn wsX7_least wsX7_isNext := goodIn_ca (goodIn_r _ [36, 1, 37, 38, 39, 6, 40, 41, 42, 43, 44, 45, 46, 47, 48, 49, 50, 51, 52, 53, 54, 55, 56, 57, 58, 59, 60, 61, 62, 63, 64, 65, 66, 67, 68, 69] (by decide +kernel) (by decide +kernel)) (goodIn_sub (fun _ h => List.mem_cons_of_mem _ (List.mem_append_right _ h)) (by decide +kernel))
set_option maxRecDepth 20000 in
theorem gX7_least_X7_isNext : GoodIn wsX7_least (wsV RX7 174 RX7 yX7_isNext wsX7_isNext) := goodIn_app (goodIn_of _ (by decide +kernel)) ggX7_least_X7_isNext
theorem dX7_least_0 : decode cX7_least 0 = .ok (.aload_n 0, 1) := by decide +kernel
theorem dX7_least_1 : decode cX7_least 1 = .ok (.iload_n 1, 1) := by decide +kernel
theorem dX7_least_2 : decode cX7_least 2 = .ok (.invokevirtual 161, 3) := by decide +kernel
theorem dX7_least_5 : decode cX7_least 5 = .ok (.istore_n 2, 1) := by decide +kernel
theorem dX7_least_6 : decode cX7_least 6 = .ok (.iconst 0, 1) := by decide +kernel
theorem dX7_least_7 : decode cX7_least 7 = .ok (.istore_n 3, 1) := by decide +kernel
theorem dX7_least_8 : decode cX7_least 8 = .ok (.iload_n 3, 1) := by decide +kernel
theorem dX7_least_9 : decode cX7_least 9 = .ok (.iload_n 2, 1) := by decide +kernel
theorem dX7_least_10 : decode cX7_least 10 = .ok (.if_icmp .ge 21, 3) := by decide +kernel
theorem dX7_least_13 : decode cX7_least 13 = .ok (.aload_n 0, 1) := by decide +kernel
theorem dX7_least_14 : decode cX7_least 14 = .ok (.getfield 78, 3) := by decide +kernel
theorem dX7_least_17 : decode cX7_least 17 = .ok (.iload_n 3, 1) := by decide +kernel
theorem dX7_least_18 : decode cX7_least 18 = .ok (.aload_n 0, 1) := by decide +kernel
theorem dX7_least_19 : decode cX7_least 19 = .ok (.iload_n 1, 1) := by decide +kernel
theorem dX7_least_20 : decode cX7_least 20 = .ok (.iload_n 3, 1) := by decide +kernel
theorem dX7_least_21 : decode cX7_least 21 = .ok (.invokevirtual 164, 3) := by decide +kernel
theorem dX7_least_24 : decode cX7_least 24 = .ok (.iastore, 1) := by decide +kernel
theorem dX7_least_25 : decode cX7_least 25 = .ok (.iinc 3 1, 3) := by decide +kernel
theorem dX7_least_28 : decode cX7_least 28 = .ok (.goto (-20), 3) := by decide +kernel
theorem dX7_least_31 : decode cX7_least 31 = .ok (.aload_n 0, 1) := by decide +kernel
theorem dX7_least_32 : decode cX7_least 32 = .ok (.iload_n 1, 1) := by decide +kernel
theorem dX7_least_33 : decode cX7_least 33 = .ok (.iload_n 2, 1) := by decide +kernel
theorem dX7_least_34 : decode cX7_least 34 = .ok (.invokevirtual 171, 3) := by decide +kernel
theorem dX7_least_37 : decode cX7_least 37 = .ok (.istore_n 3, 1) := by decide +kernel
theorem dX7_least_38 : decode cX7_least 38 = .ok (.aload_n 0, 1) := by decide +kernel
theorem dX7_least_39 : decode cX7_least 39 = .ok (.getfield 81, 3) := by decide +kernel
theorem dX7_least_42 : decode cX7_least 42 = .ok (.iconst 0, 1) := by decide +kernel
theorem dX7_least_43 : decode cX7_least 43 = .ok (.iload_n 2, 1) := by decide +kernel
theorem dX7_least_44 : decode cX7_least 44 = .ok (.ifCond .le 12, 3) := by decide +kernel
theorem dX7_least_47 : decode cX7_least 47 = .ok (.aload_n 0, 1) := by decide +kernel
theorem dX7_least_48 : decode cX7_least 48 = .ok (.getfield 78, 3) := by decide +kernel
theorem dX7_least_51 : decode cX7_least 51 = .ok (.iconst 0, 1) := by decide +kernel
theorem dX7_least_52 : decode cX7_least 52 = .ok (.iaload, 1) := by decide +kernel
theorem dX7_least_53 : decode cX7_least 53 = .ok (.goto 4, 3) := by decide +kernel
theorem dX7_least_56 : decode cX7_least 56 = .ok (.iconst (-1), 1) := by decide +kernel
theorem dX7_least_57 : decode cX7_least 57 = .ok (.iastore, 1) := by decide +kernel
theorem dX7_least_58 : decode cX7_least 58 = .ok (.aload_n 0, 1) := by decide +kernel
theorem dX7_least_59 : decode cX7_least 59 = .ok (.iload_n 2, 1) := by decide +kernel
theorem dX7_least_60 : decode cX7_least 60 = .ok (.invokevirtual 174, 3) := by decide +kernel
theorem dX7_least_63 : decode cX7_least 63 = .ok (.ifCond .eq 38, 3) := by decide +kernel
theorem dX7_least_66 : decode cX7_least 66 = .ok (.aload_n 0, 1) := by decide +kernel
theorem dX7_least_67 : decode cX7_least 67 = .ok (.iload_n 1, 1) := by decide +kernel
theorem dX7_least_68 : decode cX7_least 68 = .ok (.iload_n 2, 1) := by decide +kernel
theorem dX7_least_69 : decode cX7_least 69 = .ok (.invokevirtual 171, 3) := by decide +kernel
theorem dX7_least_72 : decode cX7_least 72 = .ok (.istore 4, 2) := by decide +kernel
theorem dX7_least_74 : decode cX7_least 74 = .ok (.iload 4, 2) := by decide +kernel
theorem dX7_least_76 : decode cX7_least 76 = .ok (.iload_n 3, 1) := by decide +kernel
theorem dX7_least_77 : decode cX7_least 77 = .ok (.if_icmp .lt 6, 3) := by decide +kernel
theorem dX7_least_80 : decode cX7_least 80 = .ok (.goto (-22), 3) := by decide +kernel
theorem dX7_least_83 : decode cX7_least 83 = .ok (.iload 4, 2) := by decide +kernel
theorem dX7_least_85 : decode cX7_least 85 = .ok (.istore_n 3, 1) := by decide +kernel
theorem dX7_least_86 : decode cX7_least 86 = .ok (.aload_n 0, 1) := by decide +kernel
theorem dX7_least_87 : decode cX7_least 87 = .ok (.getfield 81, 3) := by decide +kernel
theorem dX7_least_90 : decode cX7_least 90 = .ok (.iconst 0, 1) := by decide +kernel
theorem dX7_least_91 : decode cX7_least 91 = .ok (.aload_n 0, 1) := by decide +kernel
theorem dX7_least_92 : decode cX7_least 92 = .ok (.getfield 78, 3) := by decide +kernel
theorem dX7_least_95 : decode cX7_least 95 = .ok (.iconst 0, 1) := by decide +kernel
theorem dX7_least_96 : decode cX7_least 96 = .ok (.iaload, 1) := by decide +kernel
theorem dX7_least_97 : decode cX7_least 97 = .ok (.iastore, 1) := by decide +kernel
theorem dX7_least_98 : decode cX7_least 98 = .ok (.goto (-40), 3) := by decide +kernel
theorem dX7_least_101 : decode cX7_least 101 = .ok (.iload_n 3, 1) := by decide +kernel
theorem dX7_least_102 : decode cX7_least 102 = .ok (.ireturn, 1) := by decide +kernel
set_option maxRecDepth 20000 in
theorem ggX7_leastHours_X7_noVat : GoodIn wsX7_leastHours wsX7_noVat := goodIn_r _ [5, 6, 7, 8, 9, 4, 10, 54, 55, 56, 57, 58, 59, 60, 61, 62, 63, 64, 65, 66, 67, 68, 69, 70, 71, 72, 73, 74, 75, 76, 77, 78, 79, 80, 81, 82] (by decide +kernel) (by decide +kernel)
set_option maxRecDepth 20000 in
theorem gX7_leastHours_X7_noVat : GoodIn wsX7_leastHours (wsV RX7 133 RX7 yX7_noVat wsX7_noVat) := goodIn_app (goodIn_of _ (by decide +kernel)) ggX7_leastHours_X7_noVat
set_option maxRecDepth 20000 in
theorem ggX7_leastHours_X7_least : GoodIn wsX7_leastHours wsX7_least := goodIn_ca (goodIn_r _ [14, 15, 16, 17, 18, 19, 4, 20, 21, 22, 23, 24, 25, 26, 27, 28, 29, 30, 31, 32, 33, 34, 35, 36, 37, 38, 39, 40, 41, 42, 43, 44, 45, 46, 47, 48, 49, 50, 51, 52, 53, 54, 55, 56, 57, 58, 59, 60, 61, 62, 63, 64, 65, 66, 67, 68, 69, 70, 71, 72, 73, 74, 75, 76, 77, 78, 79, 80, 81, 82] (by decide +kernel) (by decide +kernel)) (goodIn_sub (fun _ h => List.mem_cons_of_mem _ (List.mem_append_right _ h)) (by decide +kernel))
set_option maxRecDepth 20000 in
theorem gX7_leastHours_X7_least : GoodIn wsX7_leastHours (wsV RX7 177 RX7 yX7_least wsX7_least) := goodIn_app (goodIn_of _ (by decide +kernel)) ggX7_leastHours_X7_least
theorem dX7_leastHours_0 : decode cX7_leastHours 0 = .ok (.aload_n 0, 1) := by decide +kernel
theorem dX7_leastHours_1 : decode cX7_leastHours 1 = .ok (.iload_n 1, 1) := by decide +kernel
theorem dX7_leastHours_2 : decode cX7_leastHours 2 = .ok (.invokevirtual 133, 3) := by decide +kernel
theorem dX7_leastHours_5 : decode cX7_leastHours 5 = .ok (.ifCond .eq 7, 3) := by decide +kernel
theorem dX7_leastHours_8 : decode cX7_leastHours 8 = .ok (.iconst 0, 1) := by decide +kernel
theorem dX7_leastHours_9 : decode cX7_leastHours 9 = .ok (.goto 8, 3) := by decide +kernel
theorem dX7_leastHours_12 : decode cX7_leastHours 12 = .ok (.aload_n 0, 1) := by decide +kernel
theorem dX7_leastHours_13 : decode cX7_leastHours 13 = .ok (.iload_n 1, 1) := by decide +kernel
theorem dX7_leastHours_14 : decode cX7_leastHours 14 = .ok (.invokevirtual 177, 3) := by decide +kernel
theorem dX7_leastHours_17 : decode cX7_leastHours 17 = .ok (.ireturn, 1) := by decide +kernel
set_option maxRecDepth 20000 in
theorem ggX7_leastByAll_X7_leastHours : GoodIn wsX7_leastByAll wsX7_leastHours := goodIn_ca (goodIn_r _ [5, 6, 7, 8, 4, 9, 10, 11, 12, 13, 14, 15, 16, 17, 18, 19, 20, 21, 22, 23, 24, 25, 26, 27, 28, 29, 30, 31, 32, 33, 34, 35, 36, 37, 38, 39, 40, 41, 42, 43, 44, 45, 46, 47, 48, 49, 50, 51, 52, 53, 54, 55, 56, 57, 58, 59, 60, 61, 62, 63, 64, 65, 66, 67, 68, 69, 70, 71, 72, 73, 74, 75, 76, 77, 78, 79, 80, 81, 82, 83, 84, 85, 86] (by decide +kernel) (by decide +kernel)) (goodIn_sub (fun _ h => List.mem_cons_of_mem _ (List.mem_append_right _ h)) (by decide +kernel))
set_option maxRecDepth 20000 in
theorem gX7_leastByAll_X7_leastHours : GoodIn wsX7_leastByAll (wsV RX7 180 RX7 yX7_leastHours wsX7_leastHours) := goodIn_app (goodIn_of _ (by decide +kernel)) ggX7_leastByAll_X7_leastHours
theorem dX7_leastByAll_0 : decode cX7_leastByAll 0 = .ok (.aload_n 0, 1) := by decide +kernel
theorem dX7_leastByAll_1 : decode cX7_leastByAll 1 = .ok (.iload_n 1, 1) := by decide +kernel
theorem dX7_leastByAll_2 : decode cX7_leastByAll 2 = .ok (.invokevirtual 180, 3) := by decide +kernel
theorem dX7_leastByAll_5 : decode cX7_leastByAll 5 = .ok (.ireturn, 1) := by decide +kernel
set_option maxRecDepth 20000 in
theorem ggX7_firstOf_X7_noVat : GoodIn wsX7_firstOf wsX7_noVat := goodIn_r _ [6, 7, 8, 9, 10, 5, 11, 58, 59, 60, 61, 62, 63, 64, 65, 66, 67, 68, 69, 70, 71, 72, 73, 74, 75, 76, 77, 78, 79, 80, 81, 82, 83, 84, 85, 86] (by decide +kernel) (by decide +kernel)
set_option maxRecDepth 20000 in
theorem gX7_firstOf_X7_noVat : GoodIn wsX7_firstOf (wsV RX7 133 RX7 yX7_noVat wsX7_noVat) := goodIn_app (goodIn_of _ (by decide +kernel)) ggX7_firstOf_X7_noVat
set_option maxRecDepth 20000 in
theorem ggX7_firstOf_X7_inPlan : GoodIn wsX7_firstOf wsX7_inPlan := goodIn_ca (goodIn_r _ [15, 16, 17, 58, 59, 60, 61, 62, 63, 64, 65, 66, 67, 68, 69, 70, 71, 72, 73, 74, 75, 76, 77, 78, 79, 80, 81, 82, 83, 84, 85, 86] (by decide +kernel) (by decide +kernel)) (goodIn_sub (fun _ h => List.mem_cons_of_mem _ (List.mem_append_right _ h)) (by decide +kernel))
set_option maxRecDepth 20000 in
theorem gX7_firstOf_X7_inPlan : GoodIn wsX7_firstOf (wsV RX7 161 RX7 yX7_inPlan wsX7_inPlan) := goodIn_app (goodIn_of _ (by decide +kernel)) ggX7_firstOf_X7_inPlan
set_option maxRecDepth 20000 in
theorem ggX7_firstOf_X7_refuse : GoodIn wsX7_firstOf wsX7_refuse := goodIn_r _ [21, 8, 58, 59, 60, 61, 62, 63, 64, 65, 66, 67, 68, 69, 70, 71, 72, 73, 74, 75, 76, 77, 78, 79, 80, 81, 82, 83, 84, 85, 86] (by decide +kernel) (by decide +kernel)
set_option maxRecDepth 20000 in
theorem gX7_firstOf_X7_refuse : GoodIn wsX7_firstOf (wsV RX7 104 RX7 yX7_refuse wsX7_refuse) := goodIn_app (goodIn_of _ (by decide +kernel)) ggX7_firstOf_X7_refuse
set_option maxRecDepth 20000 in
theorem ggX7_firstOf_X7_least : GoodIn wsX7_firstOf wsX7_least := goodIn_ca (goodIn_r _ [25, 26, 1, 12, 13, 14, 5, 15, 16, 17, 27, 28, 29, 30, 31, 32, 33, 34, 35, 36, 37, 38, 39, 40, 41, 42, 43, 44, 45, 46, 47, 48, 49, 50, 51, 52, 53, 54, 55, 56, 57, 58, 59, 60, 61, 62, 63, 64, 65, 66, 67, 68, 69, 70, 71, 72, 73, 74, 75, 76, 77, 78, 79, 80, 81, 82, 83, 84, 85, 86] (by decide +kernel) (by decide +kernel)) (goodIn_sub (fun _ h => List.mem_cons_of_mem _ (List.mem_append_right _ h)) (by decide +kernel))
set_option maxRecDepth 20000 in
theorem gX7_firstOf_X7_least : GoodIn wsX7_firstOf (wsV RX7 177 RX7 yX7_least wsX7_least) := goodIn_app (goodIn_of _ (by decide +kernel)) ggX7_firstOf_X7_least
theorem dX7_firstOf_0 : decode cX7_firstOf 0 = .ok (.aload_n 0, 1) := by decide +kernel
theorem dX7_firstOf_1 : decode cX7_firstOf 1 = .ok (.iload_n 1, 1) := by decide +kernel
theorem dX7_firstOf_2 : decode cX7_firstOf 2 = .ok (.invokevirtual 133, 3) := by decide +kernel
theorem dX7_firstOf_5 : decode cX7_firstOf 5 = .ok (.ifCond .eq 5, 3) := by decide +kernel
theorem dX7_firstOf_8 : decode cX7_firstOf 8 = .ok (.iconst 0, 1) := by decide +kernel
theorem dX7_firstOf_9 : decode cX7_firstOf 9 = .ok (.ireturn, 1) := by decide +kernel
theorem dX7_firstOf_10 : decode cX7_firstOf 10 = .ok (.aload_n 0, 1) := by decide +kernel
theorem dX7_firstOf_11 : decode cX7_firstOf 11 = .ok (.iload_n 1, 1) := by decide +kernel
theorem dX7_firstOf_12 : decode cX7_firstOf 12 = .ok (.invokevirtual 161, 3) := by decide +kernel
theorem dX7_firstOf_15 : decode cX7_firstOf 15 = .ok (.ifCond .ne 9, 3) := by decide +kernel
theorem dX7_firstOf_18 : decode cX7_firstOf 18 = .ok (.aload_n 0, 1) := by decide +kernel
theorem dX7_firstOf_19 : decode cX7_firstOf 19 = .ok (.iconst 2, 1) := by decide +kernel
theorem dX7_firstOf_20 : decode cX7_firstOf 20 = .ok (.invokevirtual 104, 3) := by decide +kernel
theorem dX7_firstOf_23 : decode cX7_firstOf 23 = .ok (.ireturn, 1) := by decide +kernel
theorem dX7_firstOf_24 : decode cX7_firstOf 24 = .ok (.aload_n 0, 1) := by decide +kernel
theorem dX7_firstOf_25 : decode cX7_firstOf 25 = .ok (.iload_n 1, 1) := by decide +kernel
theorem dX7_firstOf_26 : decode cX7_firstOf 26 = .ok (.invokevirtual 177, 3) := by decide +kernel
theorem dX7_firstOf_29 : decode cX7_firstOf 29 = .ok (.istore_n 2, 1) := by decide +kernel
theorem dX7_firstOf_30 : decode cX7_firstOf 30 = .ok (.aload_n 0, 1) := by decide +kernel
theorem dX7_firstOf_31 : decode cX7_firstOf 31 = .ok (.getfield 81, 3) := by decide +kernel
theorem dX7_firstOf_34 : decode cX7_firstOf 34 = .ok (.iconst 0, 1) := by decide +kernel
theorem dX7_firstOf_35 : decode cX7_firstOf 35 = .ok (.iaload, 1) := by decide +kernel
theorem dX7_firstOf_36 : decode cX7_firstOf 36 = .ok (.ireturn, 1) := by decide +kernel
theorem dX7_recipes_0 : decode cX7_recipes 0 = .ok (.aload_n 0, 1) := by decide +kernel
theorem dX7_recipes_1 : decode cX7_recipes 1 = .ok (.getfield 108, 3) := by decide +kernel
theorem dX7_recipes_4 : decode cX7_recipes 4 = .ok (.ireturn, 1) := by decide +kernel
theorem dX7_lots_0 : decode cX7_lots 0 = .ok (.aload_n 0, 1) := by decide +kernel
theorem dX7_lots_1 : decode cX7_lots 1 = .ok (.getfield 92, 3) := by decide +kernel
theorem dX7_lots_4 : decode cX7_lots 4 = .ok (.ireturn, 1) := by decide +kernel
set_option maxRecDepth 20000 in
theorem ggX7_stateOf_X7_noLot : GoodIn wsX7_stateOf wsX7_noLot := goodIn_r _ [6, 7, 8, 9, 10, 5, 11, 12, 13, 14, 15, 16, 17, 18, 19, 20, 21, 22, 23, 24, 25, 26, 27, 28, 29, 30, 31, 32, 33, 34, 35, 36, 37, 38, 39, 40] (by decide +kernel) (by decide +kernel)
set_option maxRecDepth 20000 in
theorem gX7_stateOf_X7_noLot : GoodIn wsX7_stateOf (wsV RX7 120 RX7 yX7_noLot wsX7_noLot) := goodIn_app (goodIn_of _ (by decide +kernel)) ggX7_stateOf_X7_noLot
theorem dX7_stateOf_0 : decode cX7_stateOf 0 = .ok (.aload_n 0, 1) := by decide +kernel
theorem dX7_stateOf_1 : decode cX7_stateOf 1 = .ok (.iload_n 1, 1) := by decide +kernel
theorem dX7_stateOf_2 : decode cX7_stateOf 2 = .ok (.invokevirtual 120, 3) := by decide +kernel
theorem dX7_stateOf_5 : decode cX7_stateOf 5 = .ok (.ifCond .eq 8, 3) := by decide +kernel
theorem dX7_stateOf_8 : decode cX7_stateOf 8 = .ok (.bipush 119, 2) := by decide +kernel
theorem dX7_stateOf_10 : decode cX7_stateOf 10 = .ok (.goto 9, 3) := by decide +kernel
theorem dX7_stateOf_13 : decode cX7_stateOf 13 = .ok (.aload_n 0, 1) := by decide +kernel
theorem dX7_stateOf_14 : decode cX7_stateOf 14 = .ok (.getfield 59, 3) := by decide +kernel
theorem dX7_stateOf_17 : decode cX7_stateOf 17 = .ok (.iload_n 1, 1) := by decide +kernel
theorem dX7_stateOf_18 : decode cX7_stateOf 18 = .ok (.caload, 1) := by decide +kernel
theorem dX7_stateOf_19 : decode cX7_stateOf 19 = .ok (.ireturn, 1) := by decide +kernel
set_option maxRecDepth 20000 in
theorem ggX7_isWaiting_X7_noLot : GoodIn wsX7_isWaiting wsX7_noLot := goodIn_r _ [7, 8, 2, 9, 10, 6, 11, 12, 13, 14, 15, 16, 17, 18, 19, 20, 21, 22, 23, 24, 25, 26, 27, 28, 29, 30, 31, 32, 33, 34, 35, 36, 37, 38, 39, 40] (by decide +kernel) (by decide +kernel)
set_option maxRecDepth 20000 in
theorem gX7_isWaiting_X7_noLot : GoodIn wsX7_isWaiting (wsV RX7 120 RX7 yX7_noLot wsX7_noLot) := goodIn_app (goodIn_of _ (by decide +kernel)) ggX7_isWaiting_X7_noLot
theorem dX7_isWaiting_0 : decode cX7_isWaiting 0 = .ok (.aload_n 0, 1) := by decide +kernel
theorem dX7_isWaiting_1 : decode cX7_isWaiting 1 = .ok (.iload_n 1, 1) := by decide +kernel
theorem dX7_isWaiting_2 : decode cX7_isWaiting 2 = .ok (.invokevirtual 120, 3) := by decide +kernel
theorem dX7_isWaiting_5 : decode cX7_isWaiting 5 = .ok (.ifCond .eq 5, 3) := by decide +kernel
theorem dX7_isWaiting_8 : decode cX7_isWaiting 8 = .ok (.iconst 1, 1) := by decide +kernel
theorem dX7_isWaiting_9 : decode cX7_isWaiting 9 = .ok (.ireturn, 1) := by decide +kernel
theorem dX7_isWaiting_10 : decode cX7_isWaiting 10 = .ok (.aload_n 0, 1) := by decide +kernel
theorem dX7_isWaiting_11 : decode cX7_isWaiting 11 = .ok (.aload_n 0, 1) := by decide +kernel
theorem dX7_isWaiting_12 : decode cX7_isWaiting 12 = .ok (.getfield 59, 3) := by decide +kernel
theorem dX7_isWaiting_15 : decode cX7_isWaiting 15 = .ok (.iload_n 1, 1) := by decide +kernel
theorem dX7_isWaiting_16 : decode cX7_isWaiting 16 = .ok (.caload, 1) := by decide +kernel
theorem dX7_isWaiting_17 : decode cX7_isWaiting 17 = .ok (.bipush 119, 2) := by decide +kernel
theorem dX7_isWaiting_19 : decode cX7_isWaiting 19 = .ok (.if_icmp .ne 7, 3) := by decide +kernel
theorem dX7_isWaiting_22 : decode cX7_isWaiting 22 = .ok (.iconst 2, 1) := by decide +kernel
theorem dX7_isWaiting_23 : decode cX7_isWaiting 23 = .ok (.goto 4, 3) := by decide +kernel
theorem dX7_isWaiting_26 : decode cX7_isWaiting 26 = .ok (.iconst 0, 1) := by decide +kernel
theorem dX7_isWaiting_27 : decode cX7_isWaiting 27 = .ok (.putfield 84, 3) := by decide +kernel
theorem dX7_isWaiting_30 : decode cX7_isWaiting 30 = .ok (.aload_n 0, 1) := by decide +kernel
theorem dX7_isWaiting_31 : decode cX7_isWaiting 31 = .ok (.getfield 84, 3) := by decide +kernel
theorem dX7_isWaiting_34 : decode cX7_isWaiting 34 = .ok (.ifCond .eq 7, 3) := by decide +kernel
theorem dX7_isWaiting_37 : decode cX7_isWaiting 37 = .ok (.iconst 1, 1) := by decide +kernel
theorem dX7_isWaiting_38 : decode cX7_isWaiting 38 = .ok (.goto 4, 3) := by decide +kernel
theorem dX7_isWaiting_41 : decode cX7_isWaiting 41 = .ok (.iconst 0, 1) := by decide +kernel
theorem dX7_isWaiting_42 : decode cX7_isWaiting 42 = .ok (.ireturn, 1) := by decide +kernel
set_option maxRecDepth 20000 in
theorem ggX7_shadeOf_X7_isWaiting : GoodIn wsX7_shadeOf wsX7_isWaiting := goodIn_ca (goodIn_r _ [6, 7, 8, 9, 10, 11, 5, 12, 13, 14, 15, 16, 21, 22, 23, 24, 25, 26, 27, 28, 29, 30, 31, 32, 33, 34, 35, 36, 37, 38, 39, 40, 41, 42, 43, 44, 45, 46, 47, 48, 49] (by decide +kernel) (by decide +kernel)) (goodIn_sub (fun _ h => List.mem_cons_of_mem _ (List.mem_append_right _ h)) (by decide +kernel))
set_option maxRecDepth 20000 in
theorem gX7_shadeOf_X7_isWaiting : GoodIn wsX7_shadeOf (wsV RX7 183 RX7 yX7_isWaiting wsX7_isWaiting) := goodIn_app (goodIn_of _ (by decide +kernel)) ggX7_shadeOf_X7_isWaiting
set_option maxRecDepth 20000 in
theorem ggX7_shadeOf_X7_isIn : GoodIn wsX7_shadeOf wsX7_isIn := goodIn_r _ [16] (by decide +kernel) (by decide +kernel)
set_option maxRecDepth 20000 in
theorem gX7_shadeOf_X7_isIn : GoodIn wsX7_shadeOf (va_wsS RX7 88 yX7_isIn wsX7_isIn) := goodIn_app (goodIn_of _ (by decide +kernel)) ggX7_shadeOf_X7_isIn
set_option maxRecDepth 20000 in
theorem ggX7_shadeOf_X7_refuse : GoodIn wsX7_shadeOf wsX7_refuse := goodIn_r _ [20, 8, 21, 22, 23, 24, 25, 26, 27, 28, 29, 30, 31, 32, 33, 34, 35, 36, 37, 38, 39, 40, 41, 42, 43, 44, 45, 46, 47, 48, 49] (by decide +kernel) (by decide +kernel)
set_option maxRecDepth 20000 in
theorem gX7_shadeOf_X7_refuse : GoodIn wsX7_shadeOf (wsV RX7 104 RX7 yX7_refuse wsX7_refuse) := goodIn_app (goodIn_of _ (by decide +kernel)) ggX7_shadeOf_X7_refuse
theorem dX7_shadeOf_0 : decode cX7_shadeOf 0 = .ok (.aload_n 0, 1) := by decide +kernel
theorem dX7_shadeOf_1 : decode cX7_shadeOf 1 = .ok (.iload_n 1, 1) := by decide +kernel
theorem dX7_shadeOf_2 : decode cX7_shadeOf 2 = .ok (.invokevirtual 183, 3) := by decide +kernel
theorem dX7_shadeOf_5 : decode cX7_shadeOf 5 = .ok (.ifCond .eq 5, 3) := by decide +kernel
theorem dX7_shadeOf_8 : decode cX7_shadeOf 8 = .ok (.iconst 0, 1) := by decide +kernel
theorem dX7_shadeOf_9 : decode cX7_shadeOf 9 = .ok (.ireturn, 1) := by decide +kernel
theorem dX7_shadeOf_10 : decode cX7_shadeOf 10 = .ok (.iload_n 2, 1) := by decide +kernel
theorem dX7_shadeOf_11 : decode cX7_shadeOf 11 = .ok (.iconst 0, 1) := by decide +kernel
theorem dX7_shadeOf_12 : decode cX7_shadeOf 12 = .ok (.iconst 2, 1) := by decide +kernel
theorem dX7_shadeOf_13 : decode cX7_shadeOf 13 = .ok (.invokestatic 88, 3) := by decide +kernel
theorem dX7_shadeOf_16 : decode cX7_shadeOf 16 = .ok (.ifCond .ne 9, 3) := by decide +kernel
theorem dX7_shadeOf_19 : decode cX7_shadeOf 19 = .ok (.aload_n 0, 1) := by decide +kernel
theorem dX7_shadeOf_20 : decode cX7_shadeOf 20 = .ok (.iconst 3, 1) := by decide +kernel
theorem dX7_shadeOf_21 : decode cX7_shadeOf 21 = .ok (.invokevirtual 104, 3) := by decide +kernel
theorem dX7_shadeOf_24 : decode cX7_shadeOf 24 = .ok (.ireturn, 1) := by decide +kernel
theorem dX7_shadeOf_25 : decode cX7_shadeOf 25 = .ok (.aload_n 0, 1) := by decide +kernel
theorem dX7_shadeOf_26 : decode cX7_shadeOf 26 = .ok (.getfield 44, 3) := by decide +kernel
theorem dX7_shadeOf_29 : decode cX7_shadeOf 29 = .ok (.iconst 3, 1) := by decide +kernel
theorem dX7_shadeOf_30 : decode cX7_shadeOf 30 = .ok (.iload_n 1, 1) := by decide +kernel
theorem dX7_shadeOf_31 : decode cX7_shadeOf 31 = .ok (.imul, 1) := by decide +kernel
theorem dX7_shadeOf_32 : decode cX7_shadeOf 32 = .ok (.iload_n 2, 1) := by decide +kernel
theorem dX7_shadeOf_33 : decode cX7_shadeOf 33 = .ok (.iadd, 1) := by decide +kernel
theorem dX7_shadeOf_34 : decode cX7_shadeOf 34 = .ok (.iaload, 1) := by decide +kernel
theorem dX7_shadeOf_35 : decode cX7_shadeOf 35 = .ok (.ireturn, 1) := by decide +kernel
set_option maxRecDepth 20000 in
theorem ggX7_vatOf_X7_isWaiting : GoodIn wsX7_vatOf wsX7_isWaiting := goodIn_ca (goodIn_r _ [6, 7, 8, 9, 10, 11, 5, 12, 13, 14, 15, 16, 17, 18, 19, 20, 21, 22, 23, 24, 25, 26, 27, 28, 29, 30, 31, 32, 33, 34, 35, 36, 37, 38, 39, 40, 41, 42, 43, 44, 45] (by decide +kernel) (by decide +kernel)) (goodIn_sub (fun _ h => List.mem_cons_of_mem _ (List.mem_append_right _ h)) (by decide +kernel))
set_option maxRecDepth 20000 in
theorem gX7_vatOf_X7_isWaiting : GoodIn wsX7_vatOf (wsV RX7 183 RX7 yX7_isWaiting wsX7_isWaiting) := goodIn_app (goodIn_of _ (by decide +kernel)) ggX7_vatOf_X7_isWaiting
theorem dX7_vatOf_0 : decode cX7_vatOf 0 = .ok (.aload_n 0, 1) := by decide +kernel
theorem dX7_vatOf_1 : decode cX7_vatOf 1 = .ok (.iload_n 1, 1) := by decide +kernel
theorem dX7_vatOf_2 : decode cX7_vatOf 2 = .ok (.invokevirtual 183, 3) := by decide +kernel
theorem dX7_vatOf_5 : decode cX7_vatOf 5 = .ok (.ifCond .eq 7, 3) := by decide +kernel
theorem dX7_vatOf_8 : decode cX7_vatOf 8 = .ok (.iconst 0, 1) := by decide +kernel
theorem dX7_vatOf_9 : decode cX7_vatOf 9 = .ok (.goto 9, 3) := by decide +kernel
theorem dX7_vatOf_12 : decode cX7_vatOf 12 = .ok (.aload_n 0, 1) := by decide +kernel
theorem dX7_vatOf_13 : decode cX7_vatOf 13 = .ok (.getfield 47, 3) := by decide +kernel
theorem dX7_vatOf_16 : decode cX7_vatOf 16 = .ok (.iload_n 1, 1) := by decide +kernel
theorem dX7_vatOf_17 : decode cX7_vatOf 17 = .ok (.iaload, 1) := by decide +kernel
theorem dX7_vatOf_18 : decode cX7_vatOf 18 = .ok (.ireturn, 1) := by decide +kernel
set_option maxRecDepth 20000 in
theorem ggX7_offBy_X7_isWaiting : GoodIn wsX7_offBy wsX7_isWaiting := goodIn_ca (goodIn_r _ [5, 6, 7, 8, 9, 10, 4, 11, 12, 13, 14, 15, 27, 28, 29, 30, 31, 32, 33, 34, 35, 36, 37, 38, 39, 40, 41, 42, 43, 44, 45, 46, 47, 48, 49, 50, 51, 52, 53, 54, 55] (by decide +kernel) (by decide +kernel)) (goodIn_sub (fun _ h => List.mem_cons_of_mem _ (List.mem_append_right _ h)) (by decide +kernel))
set_option maxRecDepth 20000 in
theorem gX7_offBy_X7_isWaiting : GoodIn wsX7_offBy (wsV RX7 183 RX7 yX7_isWaiting wsX7_isWaiting) := goodIn_app (goodIn_of _ (by decide +kernel)) ggX7_offBy_X7_isWaiting
set_option maxRecDepth 20000 in
theorem ggX7_offBy_X7_off : GoodIn wsX7_offBy wsX7_off := goodIn_ca (goodIn_r _ [19, 20, 21, 22, 23, 24, 25, 4, 26, 27, 28, 29, 30, 31, 32, 33, 34, 35, 36, 37, 38, 39, 40, 41, 42, 43, 44, 45, 46, 47, 48, 49, 50, 51, 52, 53, 54, 55] (by decide +kernel) (by decide +kernel)) (goodIn_sub (fun _ h => List.mem_cons_of_mem _ (List.mem_append_right _ h)) (by decide +kernel))
set_option maxRecDepth 20000 in
theorem gX7_offBy_X7_off : GoodIn wsX7_offBy (wsV RX7 143 RX7 yX7_off wsX7_off) := goodIn_app (goodIn_of _ (by decide +kernel)) ggX7_offBy_X7_off
theorem dX7_offBy_0 : decode cX7_offBy 0 = .ok (.aload_n 0, 1) := by decide +kernel
theorem dX7_offBy_1 : decode cX7_offBy 1 = .ok (.iload_n 1, 1) := by decide +kernel
theorem dX7_offBy_2 : decode cX7_offBy 2 = .ok (.invokevirtual 183, 3) := by decide +kernel
theorem dX7_offBy_5 : decode cX7_offBy 5 = .ok (.ifCond .eq 7, 3) := by decide +kernel
theorem dX7_offBy_8 : decode cX7_offBy 8 = .ok (.iconst 0, 1) := by decide +kernel
theorem dX7_offBy_9 : decode cX7_offBy 9 = .ok (.goto 8, 3) := by decide +kernel
theorem dX7_offBy_12 : decode cX7_offBy 12 = .ok (.aload_n 0, 1) := by decide +kernel
theorem dX7_offBy_13 : decode cX7_offBy 13 = .ok (.iload_n 1, 1) := by decide +kernel
theorem dX7_offBy_14 : decode cX7_offBy 14 = .ok (.invokevirtual 143, 3) := by decide +kernel
theorem dX7_offBy_17 : decode cX7_offBy 17 = .ok (.ireturn, 1) := by decide +kernel
set_option maxRecDepth 20000 in
theorem ggX7_distance_X7_noLot : GoodIn wsX7_distance wsX7_noLot := goodIn_r _ [5, 6, 7, 8, 9, 4, 10, 24, 25, 26, 27, 28, 29, 30, 31, 32, 33, 34, 35, 36, 37, 38, 39, 40, 41, 42, 43, 44, 45, 46, 47, 48, 49, 50, 51, 52] (by decide +kernel) (by decide +kernel)
set_option maxRecDepth 20000 in
theorem gX7_distance_X7_noLot : GoodIn wsX7_distance (wsV RX7 120 RX7 yX7_noLot wsX7_noLot) := goodIn_app (goodIn_of _ (by decide +kernel)) ggX7_distance_X7_noLot
set_option maxRecDepth 20000 in
theorem ggX7_distance_X7_isWaiting : GoodIn wsX7_distance wsX7_isWaiting := goodIn_ca (goodIn_r _ [14, 15, 7, 1, 2, 3, 4, 5, 6, 8, 9, 10, 24, 25, 26, 27, 28, 29, 30, 31, 32, 33, 34, 35, 36, 37, 38, 39, 40, 41, 42, 43, 44, 45, 46, 47, 48, 49, 50, 51, 52] (by decide +kernel) (by decide +kernel)) (goodIn_sub (fun _ h => List.mem_cons_of_mem _ (List.mem_append_right _ h)) (by decide +kernel))
set_option maxRecDepth 20000 in
theorem gX7_distance_X7_isWaiting : GoodIn wsX7_distance (wsV RX7 183 RX7 yX7_isWaiting wsX7_isWaiting) := goodIn_app (goodIn_of _ (by decide +kernel)) ggX7_distance_X7_isWaiting
set_option maxRecDepth 20000 in
theorem ggX7_distance_X7_apart : GoodIn wsX7_distance wsX7_apart := goodIn_ca (goodIn_r _ [19, 20, 21, 22, 4, 23, 24, 25, 26, 27, 28, 29, 30, 31, 32, 33, 34, 35, 36, 37, 38, 39, 40, 41, 42, 43, 44, 45, 46, 47, 48, 49, 50, 51, 52] (by decide +kernel) (by decide +kernel)) (goodIn_sub (fun _ h => List.mem_cons_of_mem _ (List.mem_append_right _ h)) (by decide +kernel))
set_option maxRecDepth 20000 in
theorem gX7_distance_X7_apart : GoodIn wsX7_distance (wsV RX7 146 RX7 yX7_apart wsX7_apart) := goodIn_app (goodIn_of _ (by decide +kernel)) ggX7_distance_X7_apart
theorem dX7_distance_0 : decode cX7_distance 0 = .ok (.aload_n 0, 1) := by decide +kernel
theorem dX7_distance_1 : decode cX7_distance 1 = .ok (.iload_n 1, 1) := by decide +kernel
theorem dX7_distance_2 : decode cX7_distance 2 = .ok (.invokevirtual 120, 3) := by decide +kernel
theorem dX7_distance_5 : decode cX7_distance 5 = .ok (.ifCond .ne 11, 3) := by decide +kernel
theorem dX7_distance_8 : decode cX7_distance 8 = .ok (.aload_n 0, 1) := by decide +kernel
theorem dX7_distance_9 : decode cX7_distance 9 = .ok (.iload_n 2, 1) := by decide +kernel
theorem dX7_distance_10 : decode cX7_distance 10 = .ok (.invokevirtual 120, 3) := by decide +kernel
theorem dX7_distance_13 : decode cX7_distance 13 = .ok (.ifCond .eq 5, 3) := by decide +kernel
theorem dX7_distance_16 : decode cX7_distance 16 = .ok (.iconst 0, 1) := by decide +kernel
theorem dX7_distance_17 : decode cX7_distance 17 = .ok (.ireturn, 1) := by decide +kernel
theorem dX7_distance_18 : decode cX7_distance 18 = .ok (.aload_n 0, 1) := by decide +kernel
theorem dX7_distance_19 : decode cX7_distance 19 = .ok (.iload_n 1, 1) := by decide +kernel
theorem dX7_distance_20 : decode cX7_distance 20 = .ok (.invokevirtual 183, 3) := by decide +kernel
theorem dX7_distance_23 : decode cX7_distance 23 = .ok (.ifCond .ne 11, 3) := by decide +kernel
theorem dX7_distance_26 : decode cX7_distance 26 = .ok (.aload_n 0, 1) := by decide +kernel
theorem dX7_distance_27 : decode cX7_distance 27 = .ok (.iload_n 2, 1) := by decide +kernel
theorem dX7_distance_28 : decode cX7_distance 28 = .ok (.invokevirtual 183, 3) := by decide +kernel
theorem dX7_distance_31 : decode cX7_distance 31 = .ok (.ifCond .eq 7, 3) := by decide +kernel
theorem dX7_distance_34 : decode cX7_distance 34 = .ok (.iconst 0, 1) := by decide +kernel
theorem dX7_distance_35 : decode cX7_distance 35 = .ok (.goto 9, 3) := by decide +kernel
theorem dX7_distance_38 : decode cX7_distance 38 = .ok (.aload_n 0, 1) := by decide +kernel
theorem dX7_distance_39 : decode cX7_distance 39 = .ok (.iload_n 1, 1) := by decide +kernel
theorem dX7_distance_40 : decode cX7_distance 40 = .ok (.iload_n 2, 1) := by decide +kernel
theorem dX7_distance_41 : decode cX7_distance 41 = .ok (.invokevirtual 146, 3) := by decide +kernel
theorem dX7_distance_44 : decode cX7_distance 44 = .ok (.ireturn, 1) := by decide +kernel
set_option maxRecDepth 20000 in
theorem ggX7_nearest_X7_isWaiting : GoodIn wsX7_nearest wsX7_isWaiting := goodIn_ca (goodIn_r _ [7, 2, 8, 9, 10, 11, 6, 12, 1, 13, 14, 15, 28, 29, 30, 31, 32, 33, 34, 35, 36, 37, 38, 39, 40, 41, 42, 43, 44, 45, 46, 47, 48, 49, 50, 51, 52, 53, 54, 55, 56] (by decide +kernel) (by decide +kernel)) (goodIn_sub (fun _ h => List.mem_cons_of_mem _ (List.mem_append_right _ h)) (by decide +kernel))
set_option maxRecDepth 20000 in
theorem gX7_nearest_X7_isWaiting : GoodIn wsX7_nearest (wsV RX7 183 RX7 yX7_isWaiting wsX7_isWaiting) := goodIn_app (goodIn_of _ (by decide +kernel)) ggX7_nearest_X7_isWaiting
set_option maxRecDepth 20000 in
theorem ggX7_nearest_X7_apart : GoodIn wsX7_nearest wsX7_apart := goodIn_ca (goodIn_r _ [19, 20, 21, 22, 6, 23, 28, 29, 30, 31, 32, 33, 34, 35, 36, 37, 38, 39, 40, 41, 42, 43, 44, 45, 46, 47, 48, 49, 50, 51, 52, 53, 54, 55, 56] (by decide +kernel) (by decide +kernel)) (goodIn_sub (fun _ h => List.mem_cons_of_mem _ (List.mem_append_right _ h)) (by decide +kernel))
set_option maxRecDepth 20000 in
theorem gX7_nearest_X7_apart : GoodIn wsX7_nearest (wsV RX7 146 RX7 yX7_apart wsX7_apart) := goodIn_app (goodIn_of _ (by decide +kernel)) ggX7_nearest_X7_apart
set_option maxRecDepth 20000 in
theorem ggX7_nearest_X7_refuse : GoodIn wsX7_nearest wsX7_refuse := goodIn_r _ [27, 8, 28, 29, 30, 31, 32, 33, 34, 35, 36, 37, 38, 39, 40, 41, 42, 43, 44, 45, 46, 47, 48, 49, 50, 51, 52, 53, 54, 55, 56] (by decide +kernel) (by decide +kernel)
set_option maxRecDepth 20000 in
theorem gX7_nearest_X7_refuse : GoodIn wsX7_nearest (wsV RX7 104 RX7 yX7_refuse wsX7_refuse) := goodIn_app (goodIn_of _ (by decide +kernel)) ggX7_nearest_X7_refuse
theorem dX7_nearest_0 : decode cX7_nearest 0 = .ok (.aload_n 0, 1) := by decide +kernel
theorem dX7_nearest_1 : decode cX7_nearest 1 = .ok (.iload_n 1, 1) := by decide +kernel
theorem dX7_nearest_2 : decode cX7_nearest 2 = .ok (.invokevirtual 183, 3) := by decide +kernel
theorem dX7_nearest_5 : decode cX7_nearest 5 = .ok (.ifCond .eq 5, 3) := by decide +kernel
theorem dX7_nearest_8 : decode cX7_nearest 8 = .ok (.iconst 0, 1) := by decide +kernel
theorem dX7_nearest_9 : decode cX7_nearest 9 = .ok (.ireturn, 1) := by decide +kernel
theorem dX7_nearest_10 : decode cX7_nearest 10 = .ok (.iconst (-1), 1) := by decide +kernel
theorem dX7_nearest_11 : decode cX7_nearest 11 = .ok (.istore_n 2, 1) := by decide +kernel
theorem dX7_nearest_12 : decode cX7_nearest 12 = .ok (.iconst 0, 1) := by decide +kernel
theorem dX7_nearest_13 : decode cX7_nearest 13 = .ok (.istore_n 3, 1) := by decide +kernel
theorem dX7_nearest_14 : decode cX7_nearest 14 = .ok (.iload_n 3, 1) := by decide +kernel
theorem dX7_nearest_15 : decode cX7_nearest 15 = .ok (.aload_n 0, 1) := by decide +kernel
theorem dX7_nearest_16 : decode cX7_nearest 16 = .ok (.getfield 92, 3) := by decide +kernel
theorem dX7_nearest_19 : decode cX7_nearest 19 = .ok (.if_icmp .ge 47, 3) := by decide +kernel
theorem dX7_nearest_22 : decode cX7_nearest 22 = .ok (.iload_n 3, 1) := by decide +kernel
theorem dX7_nearest_23 : decode cX7_nearest 23 = .ok (.iload_n 1, 1) := by decide +kernel
theorem dX7_nearest_24 : decode cX7_nearest 24 = .ok (.if_icmp .eq 36, 3) := by decide +kernel
theorem dX7_nearest_27 : decode cX7_nearest 27 = .ok (.aload_n 0, 1) := by decide +kernel
theorem dX7_nearest_28 : decode cX7_nearest 28 = .ok (.getfield 59, 3) := by decide +kernel
theorem dX7_nearest_31 : decode cX7_nearest 31 = .ok (.iload_n 3, 1) := by decide +kernel
theorem dX7_nearest_32 : decode cX7_nearest 32 = .ok (.caload, 1) := by decide +kernel
theorem dX7_nearest_33 : decode cX7_nearest 33 = .ok (.bipush 112, 2) := by decide +kernel
theorem dX7_nearest_35 : decode cX7_nearest 35 = .ok (.if_icmp .ne 25, 3) := by decide +kernel
theorem dX7_nearest_38 : decode cX7_nearest 38 = .ok (.iload_n 2, 1) := by decide +kernel
theorem dX7_nearest_39 : decode cX7_nearest 39 = .ok (.iconst (-1), 1) := by decide +kernel
theorem dX7_nearest_40 : decode cX7_nearest 40 = .ok (.if_icmp .eq 18, 3) := by decide +kernel
theorem dX7_nearest_43 : decode cX7_nearest 43 = .ok (.aload_n 0, 1) := by decide +kernel
theorem dX7_nearest_44 : decode cX7_nearest 44 = .ok (.iload_n 1, 1) := by decide +kernel
theorem dX7_nearest_45 : decode cX7_nearest 45 = .ok (.iload_n 3, 1) := by decide +kernel
theorem dX7_nearest_46 : decode cX7_nearest 46 = .ok (.invokevirtual 146, 3) := by decide +kernel
theorem dX7_nearest_49 : decode cX7_nearest 49 = .ok (.aload_n 0, 1) := by decide +kernel
theorem dX7_nearest_50 : decode cX7_nearest 50 = .ok (.iload_n 1, 1) := by decide +kernel
theorem dX7_nearest_51 : decode cX7_nearest 51 = .ok (.iload_n 2, 1) := by decide +kernel
theorem dX7_nearest_52 : decode cX7_nearest 52 = .ok (.invokevirtual 146, 3) := by decide +kernel
theorem dX7_nearest_55 : decode cX7_nearest 55 = .ok (.if_icmp .ge 5, 3) := by decide +kernel
theorem dX7_nearest_58 : decode cX7_nearest 58 = .ok (.iload_n 3, 1) := by decide +kernel
theorem dX7_nearest_59 : decode cX7_nearest 59 = .ok (.istore_n 2, 1) := by decide +kernel
theorem dX7_nearest_60 : decode cX7_nearest 60 = .ok (.iinc 3 1, 3) := by decide +kernel
theorem dX7_nearest_63 : decode cX7_nearest 63 = .ok (.goto (-49), 3) := by decide +kernel
theorem dX7_nearest_66 : decode cX7_nearest 66 = .ok (.iload_n 2, 1) := by decide +kernel
theorem dX7_nearest_67 : decode cX7_nearest 67 = .ok (.iconst (-1), 1) := by decide +kernel
theorem dX7_nearest_68 : decode cX7_nearest 68 = .ok (.if_icmp .ne 9, 3) := by decide +kernel
theorem dX7_nearest_71 : decode cX7_nearest 71 = .ok (.aload_n 0, 1) := by decide +kernel
theorem dX7_nearest_72 : decode cX7_nearest 72 = .ok (.iconst 3, 1) := by decide +kernel
theorem dX7_nearest_73 : decode cX7_nearest 73 = .ok (.invokevirtual 104, 3) := by decide +kernel
theorem dX7_nearest_76 : decode cX7_nearest 76 = .ok (.ireturn, 1) := by decide +kernel
theorem dX7_nearest_77 : decode cX7_nearest 77 = .ok (.iload_n 2, 1) := by decide +kernel
theorem dX7_nearest_78 : decode cX7_nearest 78 = .ok (.ireturn, 1) := by decide +kernel
theorem dX7_isAhead_0 : decode cX7_isAhead 0 = .ok (.iconst 0, 1) := by decide +kernel
theorem dX7_isAhead_1 : decode cX7_isAhead 1 = .ok (.istore_n 3, 1) := by decide +kernel
theorem dX7_isAhead_2 : decode cX7_isAhead 2 = .ok (.iload_n 3, 1) := by decide +kernel
theorem dX7_isAhead_3 : decode cX7_isAhead 3 = .ok (.iconst 3, 1) := by decide +kernel
theorem dX7_isAhead_4 : decode cX7_isAhead 4 = .ok (.if_icmp .ge 72, 3) := by decide +kernel
theorem dX7_isAhead_7 : decode cX7_isAhead 7 = .ok (.aload_n 0, 1) := by decide +kernel
theorem dX7_isAhead_8 : decode cX7_isAhead 8 = .ok (.getfield 44, 3) := by decide +kernel
theorem dX7_isAhead_11 : decode cX7_isAhead 11 = .ok (.iconst 3, 1) := by decide +kernel
theorem dX7_isAhead_12 : decode cX7_isAhead 12 = .ok (.iload_n 1, 1) := by decide +kernel
theorem dX7_isAhead_13 : decode cX7_isAhead 13 = .ok (.imul, 1) := by decide +kernel
theorem dX7_isAhead_14 : decode cX7_isAhead 14 = .ok (.iload_n 3, 1) := by decide +kernel
theorem dX7_isAhead_15 : decode cX7_isAhead 15 = .ok (.iadd, 1) := by decide +kernel
theorem dX7_isAhead_16 : decode cX7_isAhead 16 = .ok (.iaload, 1) := by decide +kernel
theorem dX7_isAhead_17 : decode cX7_isAhead 17 = .ok (.istore 4, 2) := by decide +kernel
theorem dX7_isAhead_19 : decode cX7_isAhead 19 = .ok (.aload_n 0, 1) := by decide +kernel
theorem dX7_isAhead_20 : decode cX7_isAhead 20 = .ok (.getfield 44, 3) := by decide +kernel
theorem dX7_isAhead_23 : decode cX7_isAhead 23 = .ok (.iconst 3, 1) := by decide +kernel
theorem dX7_isAhead_24 : decode cX7_isAhead 24 = .ok (.iload_n 2, 1) := by decide +kernel
theorem dX7_isAhead_25 : decode cX7_isAhead 25 = .ok (.imul, 1) := by decide +kernel
theorem dX7_isAhead_26 : decode cX7_isAhead 26 = .ok (.iload_n 3, 1) := by decide +kernel
theorem dX7_isAhead_27 : decode cX7_isAhead 27 = .ok (.iadd, 1) := by decide +kernel
theorem dX7_isAhead_28 : decode cX7_isAhead 28 = .ok (.iaload, 1) := by decide +kernel
theorem dX7_isAhead_29 : decode cX7_isAhead 29 = .ok (.istore 5, 2) := by decide +kernel
theorem dX7_isAhead_31 : decode cX7_isAhead 31 = .ok (.iload 4, 2) := by decide +kernel
theorem dX7_isAhead_33 : decode cX7_isAhead 33 = .ok (.iload 5, 2) := by decide +kernel
theorem dX7_isAhead_35 : decode cX7_isAhead 35 = .ok (.if_icmp .eq 35, 3) := by decide +kernel
theorem dX7_isAhead_38 : decode cX7_isAhead 38 = .ok (.iload_n 3, 1) := by decide +kernel
theorem dX7_isAhead_39 : decode cX7_isAhead 39 = .ok (.ifCond .ne 18, 3) := by decide +kernel
theorem dX7_isAhead_42 : decode cX7_isAhead 42 = .ok (.iload 4, 2) := by decide +kernel
theorem dX7_isAhead_44 : decode cX7_isAhead 44 = .ok (.iload 5, 2) := by decide +kernel
theorem dX7_isAhead_46 : decode cX7_isAhead 46 = .ok (.if_icmp .le 7, 3) := by decide +kernel
theorem dX7_isAhead_49 : decode cX7_isAhead 49 = .ok (.iconst 1, 1) := by decide +kernel
theorem dX7_isAhead_50 : decode cX7_isAhead 50 = .ok (.goto 19, 3) := by decide +kernel
theorem dX7_isAhead_53 : decode cX7_isAhead 53 = .ok (.iconst 0, 1) := by decide +kernel
theorem dX7_isAhead_54 : decode cX7_isAhead 54 = .ok (.goto 15, 3) := by decide +kernel
theorem dX7_isAhead_57 : decode cX7_isAhead 57 = .ok (.iload 4, 2) := by decide +kernel
theorem dX7_isAhead_59 : decode cX7_isAhead 59 = .ok (.iload 5, 2) := by decide +kernel
theorem dX7_isAhead_61 : decode cX7_isAhead 61 = .ok (.if_icmp .ge 7, 3) := by decide +kernel
theorem dX7_isAhead_64 : decode cX7_isAhead 64 = .ok (.iconst 1, 1) := by decide +kernel
theorem dX7_isAhead_65 : decode cX7_isAhead 65 = .ok (.goto 4, 3) := by decide +kernel
theorem dX7_isAhead_68 : decode cX7_isAhead 68 = .ok (.iconst 0, 1) := by decide +kernel
theorem dX7_isAhead_69 : decode cX7_isAhead 69 = .ok (.ireturn, 1) := by decide +kernel
theorem dX7_isAhead_70 : decode cX7_isAhead 70 = .ok (.iinc 3 1, 3) := by decide +kernel
theorem dX7_isAhead_73 : decode cX7_isAhead 73 = .ok (.goto (-71), 3) := by decide +kernel
theorem dX7_isAhead_76 : decode cX7_isAhead 76 = .ok (.iload_n 1, 1) := by decide +kernel
theorem dX7_isAhead_77 : decode cX7_isAhead 77 = .ok (.iload_n 2, 1) := by decide +kernel
theorem dX7_isAhead_78 : decode cX7_isAhead 78 = .ok (.if_icmp .ge 7, 3) := by decide +kernel
theorem dX7_isAhead_81 : decode cX7_isAhead 81 = .ok (.iconst 1, 1) := by decide +kernel
theorem dX7_isAhead_82 : decode cX7_isAhead 82 = .ok (.goto 4, 3) := by decide +kernel
theorem dX7_isAhead_85 : decode cX7_isAhead 85 = .ok (.iconst 0, 1) := by decide +kernel
theorem dX7_isAhead_86 : decode cX7_isAhead 86 = .ok (.ireturn, 1) := by decide +kernel
set_option maxRecDepth 20000 in
theorem ggX7_byLight_X7_isAhead : GoodIn wsX7_byLight wsX7_isAhead := goodIn_ca (goodIn_r _ [8, 9, 14, 15, 16, 17, 18, 19, 20, 21, 22, 23, 24, 25, 26, 27, 28, 29, 30, 31, 32, 33, 34, 35, 36, 37, 38, 39, 40, 41, 42] (by decide +kernel) (by decide +kernel)) (goodIn_sub (fun _ h => List.mem_cons_of_mem _ (List.mem_append_right _ h)) (by decide +kernel))
set_option maxRecDepth 20000 in
theorem gX7_byLight_X7_isAhead : GoodIn wsX7_byLight (wsV RX7 186 RX7 yX7_isAhead wsX7_isAhead) := goodIn_app (goodIn_of _ (by decide +kernel)) ggX7_byLight_X7_isAhead
set_option maxRecDepth 20000 in
theorem ggX7_byLight_X7_refuse : GoodIn wsX7_byLight wsX7_refuse := goodIn_r _ [13, 3, 14, 15, 16, 17, 18, 19, 20, 21, 22, 23, 24, 25, 26, 27, 28, 29, 30, 31, 32, 33, 34, 35, 36, 37, 38, 39, 40, 41, 42] (by decide +kernel) (by decide +kernel)
set_option maxRecDepth 20000 in
theorem gX7_byLight_X7_refuse : GoodIn wsX7_byLight (wsV RX7 104 RX7 yX7_refuse wsX7_refuse) := goodIn_app (goodIn_of _ (by decide +kernel)) ggX7_byLight_X7_refuse
theorem dX7_byLight_0 : decode cX7_byLight 0 = .ok (.iconst 0, 1) := by decide +kernel
theorem dX7_byLight_1 : decode cX7_byLight 1 = .ok (.istore_n 2, 1) := by decide +kernel
theorem dX7_byLight_2 : decode cX7_byLight 2 = .ok (.iload_n 2, 1) := by decide +kernel
theorem dX7_byLight_3 : decode cX7_byLight 3 = .ok (.aload_n 0, 1) := by decide +kernel
theorem dX7_byLight_4 : decode cX7_byLight 4 = .ok (.getfield 92, 3) := by decide +kernel
theorem dX7_byLight_7 : decode cX7_byLight 7 = .ok (.if_icmp .ge 94, 3) := by decide +kernel
theorem dX7_byLight_10 : decode cX7_byLight 10 = .ok (.aload_n 0, 1) := by decide +kernel
theorem dX7_byLight_11 : decode cX7_byLight 11 = .ok (.getfield 59, 3) := by decide +kernel
theorem dX7_byLight_14 : decode cX7_byLight 14 = .ok (.iload_n 2, 1) := by decide +kernel
theorem dX7_byLight_15 : decode cX7_byLight 15 = .ok (.caload, 1) := by decide +kernel
theorem dX7_byLight_16 : decode cX7_byLight 16 = .ok (.bipush 119, 2) := by decide +kernel
theorem dX7_byLight_18 : decode cX7_byLight 18 = .ok (.if_icmp .ne 6, 3) := by decide +kernel
theorem dX7_byLight_21 : decode cX7_byLight 21 = .ok (.goto 74, 3) := by decide +kernel
theorem dX7_byLight_24 : decode cX7_byLight 24 = .ok (.iconst 0, 1) := by decide +kernel
theorem dX7_byLight_25 : decode cX7_byLight 25 = .ok (.istore_n 3, 1) := by decide +kernel
theorem dX7_byLight_26 : decode cX7_byLight 26 = .ok (.iconst 0, 1) := by decide +kernel
theorem dX7_byLight_27 : decode cX7_byLight 27 = .ok (.istore 4, 2) := by decide +kernel
theorem dX7_byLight_29 : decode cX7_byLight 29 = .ok (.iload 4, 2) := by decide +kernel
theorem dX7_byLight_31 : decode cX7_byLight 31 = .ok (.aload_n 0, 1) := by decide +kernel
theorem dX7_byLight_32 : decode cX7_byLight 32 = .ok (.getfield 92, 3) := by decide +kernel
theorem dX7_byLight_35 : decode cX7_byLight 35 = .ok (.if_icmp .ge 45, 3) := by decide +kernel
theorem dX7_byLight_38 : decode cX7_byLight 38 = .ok (.iload_n 3, 1) := by decide +kernel
theorem dX7_byLight_39 : decode cX7_byLight 39 = .ok (.aload_n 0, 1) := by decide +kernel
theorem dX7_byLight_40 : decode cX7_byLight 40 = .ok (.getfield 59, 3) := by decide +kernel
theorem dX7_byLight_43 : decode cX7_byLight 43 = .ok (.iload 4, 2) := by decide +kernel
theorem dX7_byLight_45 : decode cX7_byLight 45 = .ok (.caload, 1) := by decide +kernel
theorem dX7_byLight_46 : decode cX7_byLight 46 = .ok (.bipush 119, 2) := by decide +kernel
theorem dX7_byLight_48 : decode cX7_byLight 48 = .ok (.if_icmp .eq 23, 3) := by decide +kernel
theorem dX7_byLight_51 : decode cX7_byLight 51 = .ok (.iload 4, 2) := by decide +kernel
theorem dX7_byLight_53 : decode cX7_byLight 53 = .ok (.iload_n 2, 1) := by decide +kernel
theorem dX7_byLight_54 : decode cX7_byLight 54 = .ok (.if_icmp .eq 17, 3) := by decide +kernel
theorem dX7_byLight_57 : decode cX7_byLight 57 = .ok (.aload_n 0, 1) := by decide +kernel
theorem dX7_byLight_58 : decode cX7_byLight 58 = .ok (.iload 4, 2) := by decide +kernel
theorem dX7_byLight_60 : decode cX7_byLight 60 = .ok (.iload_n 2, 1) := by decide +kernel
theorem dX7_byLight_61 : decode cX7_byLight 61 = .ok (.invokevirtual 186, 3) := by decide +kernel
theorem dX7_byLight_64 : decode cX7_byLight 64 = .ok (.ifCond .eq 7, 3) := by decide +kernel
theorem dX7_byLight_67 : decode cX7_byLight 67 = .ok (.iconst 1, 1) := by decide +kernel
theorem dX7_byLight_68 : decode cX7_byLight 68 = .ok (.goto 4, 3) := by decide +kernel
theorem dX7_byLight_71 : decode cX7_byLight 71 = .ok (.iconst 0, 1) := by decide +kernel
theorem dX7_byLight_72 : decode cX7_byLight 72 = .ok (.iadd, 1) := by decide +kernel
theorem dX7_byLight_73 : decode cX7_byLight 73 = .ok (.istore_n 3, 1) := by decide +kernel
theorem dX7_byLight_74 : decode cX7_byLight 74 = .ok (.iinc 4 1, 3) := by decide +kernel
theorem dX7_byLight_77 : decode cX7_byLight 77 = .ok (.goto (-48), 3) := by decide +kernel
theorem dX7_byLight_80 : decode cX7_byLight 80 = .ok (.iload_n 3, 1) := by decide +kernel
theorem dX7_byLight_81 : decode cX7_byLight 81 = .ok (.iload_n 1, 1) := by decide +kernel
theorem dX7_byLight_82 : decode cX7_byLight 82 = .ok (.if_icmp .eq 6, 3) := by decide +kernel
theorem dX7_byLight_85 : decode cX7_byLight 85 = .ok (.goto 10, 3) := by decide +kernel
theorem dX7_byLight_88 : decode cX7_byLight 88 = .ok (.aload_n 0, 1) := by decide +kernel
theorem dX7_byLight_89 : decode cX7_byLight 89 = .ok (.iconst 0, 1) := by decide +kernel
theorem dX7_byLight_90 : decode cX7_byLight 90 = .ok (.putfield 84, 3) := by decide +kernel
theorem dX7_byLight_93 : decode cX7_byLight 93 = .ok (.iload_n 2, 1) := by decide +kernel
theorem dX7_byLight_94 : decode cX7_byLight 94 = .ok (.ireturn, 1) := by decide +kernel
theorem dX7_byLight_95 : decode cX7_byLight 95 = .ok (.iinc 2 1, 3) := by decide +kernel
theorem dX7_byLight_98 : decode cX7_byLight 98 = .ok (.goto (-96), 3) := by decide +kernel
theorem dX7_byLight_101 : decode cX7_byLight 101 = .ok (.aload_n 0, 1) := by decide +kernel
theorem dX7_byLight_102 : decode cX7_byLight 102 = .ok (.iconst 1, 1) := by decide +kernel
theorem dX7_byLight_103 : decode cX7_byLight 103 = .ok (.invokevirtual 104, 3) := by decide +kernel
theorem dX7_byLight_106 : decode cX7_byLight 106 = .ok (.ireturn, 1) := by decide +kernel
set_option maxRecDepth 20000 in
theorem ggX7_clock_X7_noVat : GoodIn wsX7_clock wsX7_noVat := goodIn_r _ [6, 7, 8, 9, 10, 5, 11, 12, 13, 14, 15, 16, 17, 18, 19, 20, 21, 22, 23, 24, 25, 26, 27, 28, 29, 30, 31, 32, 33, 34, 35, 36, 37, 38, 39, 40] (by decide +kernel) (by decide +kernel)
set_option maxRecDepth 20000 in
theorem gX7_clock_X7_noVat : GoodIn wsX7_clock (wsV RX7 133 RX7 yX7_noVat wsX7_noVat) := goodIn_app (goodIn_of _ (by decide +kernel)) ggX7_clock_X7_noVat
theorem dX7_clock_0 : decode cX7_clock 0 = .ok (.aload_n 0, 1) := by decide +kernel
theorem dX7_clock_1 : decode cX7_clock 1 = .ok (.iload_n 1, 1) := by decide +kernel
theorem dX7_clock_2 : decode cX7_clock 2 = .ok (.invokevirtual 133, 3) := by decide +kernel
theorem dX7_clock_5 : decode cX7_clock 5 = .ok (.ifCond .eq 7, 3) := by decide +kernel
theorem dX7_clock_8 : decode cX7_clock 8 = .ok (.iconst 0, 1) := by decide +kernel
theorem dX7_clock_9 : decode cX7_clock 9 = .ok (.goto 9, 3) := by decide +kernel
theorem dX7_clock_12 : decode cX7_clock 12 = .ok (.aload_n 0, 1) := by decide +kernel
theorem dX7_clock_13 : decode cX7_clock 13 = .ok (.getfield 72, 3) := by decide +kernel
theorem dX7_clock_16 : decode cX7_clock 16 = .ok (.iload_n 1, 1) := by decide +kernel
theorem dX7_clock_17 : decode cX7_clock 17 = .ok (.iaload, 1) := by decide +kernel
theorem dX7_clock_18 : decode cX7_clock 18 = .ok (.ireturn, 1) := by decide +kernel
set_option maxRecDepth 20000 in
theorem ggX7_cleanings_X7_noVat : GoodIn wsX7_cleanings wsX7_noVat := goodIn_r _ [6, 7, 8, 9, 10, 5, 11, 12, 13, 14, 15, 16, 17, 18, 19, 20, 21, 22, 23, 24, 25, 26, 27, 28, 29, 30, 31, 32, 33, 34, 35, 36, 37, 38, 39, 40] (by decide +kernel) (by decide +kernel)
set_option maxRecDepth 20000 in
theorem gX7_cleanings_X7_noVat : GoodIn wsX7_cleanings (wsV RX7 133 RX7 yX7_noVat wsX7_noVat) := goodIn_app (goodIn_of _ (by decide +kernel)) ggX7_cleanings_X7_noVat
theorem dX7_cleanings_0 : decode cX7_cleanings 0 = .ok (.aload_n 0, 1) := by decide +kernel
theorem dX7_cleanings_1 : decode cX7_cleanings 1 = .ok (.iload_n 1, 1) := by decide +kernel
theorem dX7_cleanings_2 : decode cX7_cleanings 2 = .ok (.invokevirtual 133, 3) := by decide +kernel
theorem dX7_cleanings_5 : decode cX7_cleanings 5 = .ok (.ifCond .eq 7, 3) := by decide +kernel
theorem dX7_cleanings_8 : decode cX7_cleanings 8 = .ok (.iconst 0, 1) := by decide +kernel
theorem dX7_cleanings_9 : decode cX7_cleanings 9 = .ok (.goto 9, 3) := by decide +kernel
theorem dX7_cleanings_12 : decode cX7_cleanings 12 = .ok (.aload_n 0, 1) := by decide +kernel
theorem dX7_cleanings_13 : decode cX7_cleanings 13 = .ok (.getfield 75, 3) := by decide +kernel
theorem dX7_cleanings_16 : decode cX7_cleanings 16 = .ok (.iload_n 1, 1) := by decide +kernel
theorem dX7_cleanings_17 : decode cX7_cleanings 17 = .ok (.iaload, 1) := by decide +kernel
theorem dX7_cleanings_18 : decode cX7_cleanings 18 = .ok (.ireturn, 1) := by decide +kernel
set_option maxRecDepth 20000 in
theorem ggX7_lightIn_X7_noVat : GoodIn wsX7_lightIn wsX7_noVat := goodIn_r _ [6, 7, 8, 9, 10, 5, 11, 16, 17, 18, 19, 20, 21, 22, 23, 24, 25, 26, 27, 28, 29, 30, 31, 32, 33, 34, 35, 36, 37, 38, 39, 40, 41, 42, 43, 44] (by decide +kernel) (by decide +kernel)
set_option maxRecDepth 20000 in
theorem gX7_lightIn_X7_noVat : GoodIn wsX7_lightIn (wsV RX7 133 RX7 yX7_noVat wsX7_noVat) := goodIn_app (goodIn_of _ (by decide +kernel)) ggX7_lightIn_X7_noVat
set_option maxRecDepth 20000 in
theorem ggX7_lightIn_X7_refuse : GoodIn wsX7_lightIn wsX7_refuse := goodIn_r _ [15, 8, 16, 17, 18, 19, 20, 21, 22, 23, 24, 25, 26, 27, 28, 29, 30, 31, 32, 33, 34, 35, 36, 37, 38, 39, 40, 41, 42, 43, 44] (by decide +kernel) (by decide +kernel)
set_option maxRecDepth 20000 in
theorem gX7_lightIn_X7_refuse : GoodIn wsX7_lightIn (wsV RX7 104 RX7 yX7_refuse wsX7_refuse) := goodIn_app (goodIn_of _ (by decide +kernel)) ggX7_lightIn_X7_refuse
theorem dX7_lightIn_0 : decode cX7_lightIn 0 = .ok (.aload_n 0, 1) := by decide +kernel
theorem dX7_lightIn_1 : decode cX7_lightIn 1 = .ok (.iload_n 1, 1) := by decide +kernel
theorem dX7_lightIn_2 : decode cX7_lightIn 2 = .ok (.invokevirtual 133, 3) := by decide +kernel
theorem dX7_lightIn_5 : decode cX7_lightIn 5 = .ok (.ifCond .eq 5, 3) := by decide +kernel
theorem dX7_lightIn_8 : decode cX7_lightIn 8 = .ok (.iconst 0, 1) := by decide +kernel
theorem dX7_lightIn_9 : decode cX7_lightIn 9 = .ok (.ireturn, 1) := by decide +kernel
theorem dX7_lightIn_10 : decode cX7_lightIn 10 = .ok (.aload_n 0, 1) := by decide +kernel
theorem dX7_lightIn_11 : decode cX7_lightIn 11 = .ok (.getfield 66, 3) := by decide +kernel
theorem dX7_lightIn_14 : decode cX7_lightIn 14 = .ok (.iload_n 1, 1) := by decide +kernel
theorem dX7_lightIn_15 : decode cX7_lightIn 15 = .ok (.iaload, 1) := by decide +kernel
theorem dX7_lightIn_16 : decode cX7_lightIn 16 = .ok (.iconst (-1), 1) := by decide +kernel
theorem dX7_lightIn_17 : decode cX7_lightIn 17 = .ok (.if_icmp .ne 9, 3) := by decide +kernel
theorem dX7_lightIn_20 : decode cX7_lightIn 20 = .ok (.aload_n 0, 1) := by decide +kernel
theorem dX7_lightIn_21 : decode cX7_lightIn 21 = .ok (.iconst 2, 1) := by decide +kernel
theorem dX7_lightIn_22 : decode cX7_lightIn 22 = .ok (.invokevirtual 104, 3) := by decide +kernel
theorem dX7_lightIn_25 : decode cX7_lightIn 25 = .ok (.ireturn, 1) := by decide +kernel
theorem dX7_lightIn_26 : decode cX7_lightIn 26 = .ok (.aload_n 0, 1) := by decide +kernel
theorem dX7_lightIn_27 : decode cX7_lightIn 27 = .ok (.getfield 66, 3) := by decide +kernel
theorem dX7_lightIn_30 : decode cX7_lightIn 30 = .ok (.iload_n 1, 1) := by decide +kernel
theorem dX7_lightIn_31 : decode cX7_lightIn 31 = .ok (.iaload, 1) := by decide +kernel
theorem dX7_lightIn_32 : decode cX7_lightIn 32 = .ok (.ireturn, 1) := by decide +kernel
set_option maxRecDepth 20000 in
theorem ggX7_customerOf_X7_noVat : GoodIn wsX7_customerOf wsX7_noVat := goodIn_r _ [6, 7, 8, 9, 10, 5, 11, 16, 17, 18, 19, 20, 21, 22, 23, 24, 25, 26, 27, 28, 29, 30, 31, 32, 33, 34, 35, 36, 37, 38, 39, 40, 41, 42, 43, 44] (by decide +kernel) (by decide +kernel)
set_option maxRecDepth 20000 in
theorem gX7_customerOf_X7_noVat : GoodIn wsX7_customerOf (wsV RX7 133 RX7 yX7_noVat wsX7_noVat) := goodIn_app (goodIn_of _ (by decide +kernel)) ggX7_customerOf_X7_noVat
set_option maxRecDepth 20000 in
theorem ggX7_customerOf_X7_refuse : GoodIn wsX7_customerOf wsX7_refuse := goodIn_r _ [15, 8, 16, 17, 18, 19, 20, 21, 22, 23, 24, 25, 26, 27, 28, 29, 30, 31, 32, 33, 34, 35, 36, 37, 38, 39, 40, 41, 42, 43, 44] (by decide +kernel) (by decide +kernel)
set_option maxRecDepth 20000 in
theorem gX7_customerOf_X7_refuse : GoodIn wsX7_customerOf (wsV RX7 104 RX7 yX7_refuse wsX7_refuse) := goodIn_app (goodIn_of _ (by decide +kernel)) ggX7_customerOf_X7_refuse
theorem dX7_customerOf_0 : decode cX7_customerOf 0 = .ok (.aload_n 0, 1) := by decide +kernel
theorem dX7_customerOf_1 : decode cX7_customerOf 1 = .ok (.iload_n 1, 1) := by decide +kernel
theorem dX7_customerOf_2 : decode cX7_customerOf 2 = .ok (.invokevirtual 133, 3) := by decide +kernel
theorem dX7_customerOf_5 : decode cX7_customerOf 5 = .ok (.ifCond .eq 5, 3) := by decide +kernel
theorem dX7_customerOf_8 : decode cX7_customerOf 8 = .ok (.iconst 0, 1) := by decide +kernel
theorem dX7_customerOf_9 : decode cX7_customerOf 9 = .ok (.ireturn, 1) := by decide +kernel
theorem dX7_customerOf_10 : decode cX7_customerOf 10 = .ok (.aload_n 0, 1) := by decide +kernel
theorem dX7_customerOf_11 : decode cX7_customerOf 11 = .ok (.getfield 69, 3) := by decide +kernel
theorem dX7_customerOf_14 : decode cX7_customerOf 14 = .ok (.iload_n 1, 1) := by decide +kernel
theorem dX7_customerOf_15 : decode cX7_customerOf 15 = .ok (.iaload, 1) := by decide +kernel
theorem dX7_customerOf_16 : decode cX7_customerOf 16 = .ok (.iconst (-1), 1) := by decide +kernel
theorem dX7_customerOf_17 : decode cX7_customerOf 17 = .ok (.if_icmp .ne 9, 3) := by decide +kernel
theorem dX7_customerOf_20 : decode cX7_customerOf 20 = .ok (.aload_n 0, 1) := by decide +kernel
theorem dX7_customerOf_21 : decode cX7_customerOf 21 = .ok (.iconst 2, 1) := by decide +kernel
theorem dX7_customerOf_22 : decode cX7_customerOf 22 = .ok (.invokevirtual 104, 3) := by decide +kernel
theorem dX7_customerOf_25 : decode cX7_customerOf 25 = .ok (.ireturn, 1) := by decide +kernel
theorem dX7_customerOf_26 : decode cX7_customerOf 26 = .ok (.aload_n 0, 1) := by decide +kernel
theorem dX7_customerOf_27 : decode cX7_customerOf 27 = .ok (.getfield 69, 3) := by decide +kernel
theorem dX7_customerOf_30 : decode cX7_customerOf 30 = .ok (.iload_n 1, 1) := by decide +kernel
theorem dX7_customerOf_31 : decode cX7_customerOf 31 = .ok (.iaload, 1) := by decide +kernel
theorem dX7_customerOf_32 : decode cX7_customerOf 32 = .ok (.ireturn, 1) := by decide +kernel
set_option maxRecDepth 20000 in
theorem ggX7_lotsOf_X7_noOrder : GoodIn wsX7_lotsOf wsX7_noOrder := goodIn_r _ [7, 8, 9, 10, 11, 6, 12, 13, 14, 15, 16, 17, 18, 19, 20, 21, 22, 23, 24, 25, 26, 27, 28, 29, 30, 31, 32, 33, 34, 35, 36, 37, 38, 39, 40, 41] (by decide +kernel) (by decide +kernel)
set_option maxRecDepth 20000 in
theorem gX7_lotsOf_X7_noOrder : GoodIn wsX7_lotsOf (wsV RX7 117 RX7 yX7_noOrder wsX7_noOrder) := goodIn_app (goodIn_of _ (by decide +kernel)) ggX7_lotsOf_X7_noOrder
theorem dX7_lotsOf_0 : decode cX7_lotsOf 0 = .ok (.aload_n 0, 1) := by decide +kernel
theorem dX7_lotsOf_1 : decode cX7_lotsOf 1 = .ok (.iload_n 1, 1) := by decide +kernel
theorem dX7_lotsOf_2 : decode cX7_lotsOf 2 = .ok (.invokevirtual 117, 3) := by decide +kernel
theorem dX7_lotsOf_5 : decode cX7_lotsOf 5 = .ok (.ifCond .eq 5, 3) := by decide +kernel
theorem dX7_lotsOf_8 : decode cX7_lotsOf 8 = .ok (.iconst 0, 1) := by decide +kernel
theorem dX7_lotsOf_9 : decode cX7_lotsOf 9 = .ok (.ireturn, 1) := by decide +kernel
theorem dX7_lotsOf_10 : decode cX7_lotsOf 10 = .ok (.iconst 0, 1) := by decide +kernel
theorem dX7_lotsOf_11 : decode cX7_lotsOf 11 = .ok (.istore_n 2, 1) := by decide +kernel
theorem dX7_lotsOf_12 : decode cX7_lotsOf 12 = .ok (.iconst 0, 1) := by decide +kernel
theorem dX7_lotsOf_13 : decode cX7_lotsOf 13 = .ok (.istore_n 3, 1) := by decide +kernel
theorem dX7_lotsOf_14 : decode cX7_lotsOf 14 = .ok (.iload_n 3, 1) := by decide +kernel
theorem dX7_lotsOf_15 : decode cX7_lotsOf 15 = .ok (.aload_n 0, 1) := by decide +kernel
theorem dX7_lotsOf_16 : decode cX7_lotsOf 16 = .ok (.getfield 92, 3) := by decide +kernel
theorem dX7_lotsOf_19 : decode cX7_lotsOf 19 = .ok (.if_icmp .ge 27, 3) := by decide +kernel
theorem dX7_lotsOf_22 : decode cX7_lotsOf 22 = .ok (.iload_n 2, 1) := by decide +kernel
theorem dX7_lotsOf_23 : decode cX7_lotsOf 23 = .ok (.aload_n 0, 1) := by decide +kernel
theorem dX7_lotsOf_24 : decode cX7_lotsOf 24 = .ok (.getfield 38, 3) := by decide +kernel
theorem dX7_lotsOf_27 : decode cX7_lotsOf 27 = .ok (.iload_n 3, 1) := by decide +kernel
theorem dX7_lotsOf_28 : decode cX7_lotsOf 28 = .ok (.iaload, 1) := by decide +kernel
theorem dX7_lotsOf_29 : decode cX7_lotsOf 29 = .ok (.iload_n 1, 1) := by decide +kernel
theorem dX7_lotsOf_30 : decode cX7_lotsOf 30 = .ok (.if_icmp .ne 7, 3) := by decide +kernel
theorem dX7_lotsOf_33 : decode cX7_lotsOf 33 = .ok (.iconst 1, 1) := by decide +kernel
theorem dX7_lotsOf_34 : decode cX7_lotsOf 34 = .ok (.goto 4, 3) := by decide +kernel
theorem dX7_lotsOf_37 : decode cX7_lotsOf 37 = .ok (.iconst 0, 1) := by decide +kernel
theorem dX7_lotsOf_38 : decode cX7_lotsOf 38 = .ok (.iadd, 1) := by decide +kernel
theorem dX7_lotsOf_39 : decode cX7_lotsOf 39 = .ok (.istore_n 2, 1) := by decide +kernel
theorem dX7_lotsOf_40 : decode cX7_lotsOf 40 = .ok (.iinc 3 1, 3) := by decide +kernel
theorem dX7_lotsOf_43 : decode cX7_lotsOf 43 = .ok (.goto (-29), 3) := by decide +kernel
theorem dX7_lotsOf_46 : decode cX7_lotsOf 46 = .ok (.iload_n 2, 1) := by decide +kernel
theorem dX7_lotsOf_47 : decode cX7_lotsOf 47 = .ok (.ireturn, 1) := by decide +kernel
set_option maxRecDepth 20000 in
theorem ggX7_passedOf_X7_noOrder : GoodIn wsX7_passedOf wsX7_noOrder := goodIn_r _ [8, 9, 10, 11, 12, 7, 13, 14, 15, 16, 17, 18, 19, 20, 21, 22, 23, 24, 25, 26, 27, 28, 29, 30, 31, 32, 33, 34, 35, 36, 37, 38, 39, 40, 41, 42] (by decide +kernel) (by decide +kernel)
set_option maxRecDepth 20000 in
theorem gX7_passedOf_X7_noOrder : GoodIn wsX7_passedOf (wsV RX7 117 RX7 yX7_noOrder wsX7_noOrder) := goodIn_app (goodIn_of _ (by decide +kernel)) ggX7_passedOf_X7_noOrder
theorem dX7_passedOf_0 : decode cX7_passedOf 0 = .ok (.aload_n 0, 1) := by decide +kernel
theorem dX7_passedOf_1 : decode cX7_passedOf 1 = .ok (.iload_n 1, 1) := by decide +kernel
theorem dX7_passedOf_2 : decode cX7_passedOf 2 = .ok (.invokevirtual 117, 3) := by decide +kernel
theorem dX7_passedOf_5 : decode cX7_passedOf 5 = .ok (.ifCond .eq 5, 3) := by decide +kernel
theorem dX7_passedOf_8 : decode cX7_passedOf 8 = .ok (.iconst 0, 1) := by decide +kernel
theorem dX7_passedOf_9 : decode cX7_passedOf 9 = .ok (.ireturn, 1) := by decide +kernel
theorem dX7_passedOf_10 : decode cX7_passedOf 10 = .ok (.iconst 0, 1) := by decide +kernel
theorem dX7_passedOf_11 : decode cX7_passedOf 11 = .ok (.istore_n 2, 1) := by decide +kernel
theorem dX7_passedOf_12 : decode cX7_passedOf 12 = .ok (.iconst 0, 1) := by decide +kernel
theorem dX7_passedOf_13 : decode cX7_passedOf 13 = .ok (.istore_n 3, 1) := by decide +kernel
theorem dX7_passedOf_14 : decode cX7_passedOf 14 = .ok (.iload_n 3, 1) := by decide +kernel
theorem dX7_passedOf_15 : decode cX7_passedOf 15 = .ok (.aload_n 0, 1) := by decide +kernel
theorem dX7_passedOf_16 : decode cX7_passedOf 16 = .ok (.getfield 92, 3) := by decide +kernel
theorem dX7_passedOf_19 : decode cX7_passedOf 19 = .ok (.if_icmp .ge 38, 3) := by decide +kernel
theorem dX7_passedOf_22 : decode cX7_passedOf 22 = .ok (.iload_n 2, 1) := by decide +kernel
theorem dX7_passedOf_23 : decode cX7_passedOf 23 = .ok (.aload_n 0, 1) := by decide +kernel
theorem dX7_passedOf_24 : decode cX7_passedOf 24 = .ok (.getfield 38, 3) := by decide +kernel
theorem dX7_passedOf_27 : decode cX7_passedOf 27 = .ok (.iload_n 3, 1) := by decide +kernel
theorem dX7_passedOf_28 : decode cX7_passedOf 28 = .ok (.iaload, 1) := by decide +kernel
theorem dX7_passedOf_29 : decode cX7_passedOf 29 = .ok (.iload_n 1, 1) := by decide +kernel
theorem dX7_passedOf_30 : decode cX7_passedOf 30 = .ok (.if_icmp .ne 18, 3) := by decide +kernel
theorem dX7_passedOf_33 : decode cX7_passedOf 33 = .ok (.aload_n 0, 1) := by decide +kernel
theorem dX7_passedOf_34 : decode cX7_passedOf 34 = .ok (.getfield 59, 3) := by decide +kernel
theorem dX7_passedOf_37 : decode cX7_passedOf 37 = .ok (.iload_n 3, 1) := by decide +kernel
theorem dX7_passedOf_38 : decode cX7_passedOf 38 = .ok (.caload, 1) := by decide +kernel
theorem dX7_passedOf_39 : decode cX7_passedOf 39 = .ok (.bipush 112, 2) := by decide +kernel
theorem dX7_passedOf_41 : decode cX7_passedOf 41 = .ok (.if_icmp .ne 7, 3) := by decide +kernel
theorem dX7_passedOf_44 : decode cX7_passedOf 44 = .ok (.iconst 1, 1) := by decide +kernel
theorem dX7_passedOf_45 : decode cX7_passedOf 45 = .ok (.goto 4, 3) := by decide +kernel
theorem dX7_passedOf_48 : decode cX7_passedOf 48 = .ok (.iconst 0, 1) := by decide +kernel
theorem dX7_passedOf_49 : decode cX7_passedOf 49 = .ok (.iadd, 1) := by decide +kernel
theorem dX7_passedOf_50 : decode cX7_passedOf 50 = .ok (.istore_n 2, 1) := by decide +kernel
theorem dX7_passedOf_51 : decode cX7_passedOf 51 = .ok (.iinc 3 1, 3) := by decide +kernel
theorem dX7_passedOf_54 : decode cX7_passedOf 54 = .ok (.goto (-40), 3) := by decide +kernel
theorem dX7_passedOf_57 : decode cX7_passedOf 57 = .ok (.iload_n 2, 1) := by decide +kernel
theorem dX7_passedOf_58 : decode cX7_passedOf 58 = .ok (.ireturn, 1) := by decide +kernel
set_option maxRecDepth 20000 in
theorem ggX7_spread_X7_noOrder : GoodIn wsX7_spread wsX7_noOrder := goodIn_r _ [8, 9, 10, 11, 12, 7, 13, 22, 23, 24, 25, 26, 27, 28, 29, 30, 31, 32, 33, 34, 35, 36, 37, 38, 39, 40, 41, 42, 43, 44, 45, 46, 47, 48, 49, 50] (by decide +kernel) (by decide +kernel)
set_option maxRecDepth 20000 in
theorem gX7_spread_X7_noOrder : GoodIn wsX7_spread (wsV RX7 117 RX7 yX7_noOrder wsX7_noOrder) := goodIn_app (goodIn_of _ (by decide +kernel)) ggX7_spread_X7_noOrder
set_option maxRecDepth 20000 in
theorem ggX7_spread_X7_apart : GoodIn wsX7_spread wsX7_apart := goodIn_ca (goodIn_r _ [17, 18, 19, 20, 7, 21, 22, 23, 24, 25, 26, 27, 28, 29, 30, 31, 32, 33, 34, 35, 36, 37, 38, 39, 40, 41, 42, 43, 44, 45, 46, 47, 48, 49, 50] (by decide +kernel) (by decide +kernel)) (goodIn_sub (fun _ h => List.mem_cons_of_mem _ (List.mem_append_right _ h)) (by decide +kernel))
set_option maxRecDepth 20000 in
theorem gX7_spread_X7_apart : GoodIn wsX7_spread (wsV RX7 146 RX7 yX7_apart wsX7_apart) := goodIn_app (goodIn_of _ (by decide +kernel)) ggX7_spread_X7_apart
theorem dX7_spread_0 : decode cX7_spread 0 = .ok (.aload_n 0, 1) := by decide +kernel
theorem dX7_spread_1 : decode cX7_spread 1 = .ok (.iload_n 1, 1) := by decide +kernel
theorem dX7_spread_2 : decode cX7_spread 2 = .ok (.invokevirtual 117, 3) := by decide +kernel
theorem dX7_spread_5 : decode cX7_spread 5 = .ok (.ifCond .eq 5, 3) := by decide +kernel
theorem dX7_spread_8 : decode cX7_spread 8 = .ok (.iconst 0, 1) := by decide +kernel
theorem dX7_spread_9 : decode cX7_spread 9 = .ok (.ireturn, 1) := by decide +kernel
theorem dX7_spread_10 : decode cX7_spread 10 = .ok (.iconst 0, 1) := by decide +kernel
theorem dX7_spread_11 : decode cX7_spread 11 = .ok (.istore_n 2, 1) := by decide +kernel
theorem dX7_spread_12 : decode cX7_spread 12 = .ok (.iconst 0, 1) := by decide +kernel
theorem dX7_spread_13 : decode cX7_spread 13 = .ok (.istore_n 3, 1) := by decide +kernel
theorem dX7_spread_14 : decode cX7_spread 14 = .ok (.iload_n 3, 1) := by decide +kernel
theorem dX7_spread_15 : decode cX7_spread 15 = .ok (.aload_n 0, 1) := by decide +kernel
theorem dX7_spread_16 : decode cX7_spread 16 = .ok (.getfield 92, 3) := by decide +kernel
theorem dX7_spread_19 : decode cX7_spread 19 = .ok (.if_icmp .ge 90, 3) := by decide +kernel
theorem dX7_spread_22 : decode cX7_spread 22 = .ok (.iconst 0, 1) := by decide +kernel
theorem dX7_spread_23 : decode cX7_spread 23 = .ok (.istore 4, 2) := by decide +kernel
theorem dX7_spread_25 : decode cX7_spread 25 = .ok (.iload 4, 2) := by decide +kernel
theorem dX7_spread_27 : decode cX7_spread 27 = .ok (.iload_n 3, 1) := by decide +kernel
theorem dX7_spread_28 : decode cX7_spread 28 = .ok (.if_icmp .ge 75, 3) := by decide +kernel
theorem dX7_spread_31 : decode cX7_spread 31 = .ok (.aload_n 0, 1) := by decide +kernel
theorem dX7_spread_32 : decode cX7_spread 32 = .ok (.getfield 38, 3) := by decide +kernel
theorem dX7_spread_35 : decode cX7_spread 35 = .ok (.iload_n 3, 1) := by decide +kernel
theorem dX7_spread_36 : decode cX7_spread 36 = .ok (.iaload, 1) := by decide +kernel
theorem dX7_spread_37 : decode cX7_spread 37 = .ok (.iload_n 1, 1) := by decide +kernel
theorem dX7_spread_38 : decode cX7_spread 38 = .ok (.if_icmp .ne 59, 3) := by decide +kernel
theorem dX7_spread_41 : decode cX7_spread 41 = .ok (.aload_n 0, 1) := by decide +kernel
theorem dX7_spread_42 : decode cX7_spread 42 = .ok (.getfield 38, 3) := by decide +kernel
theorem dX7_spread_45 : decode cX7_spread 45 = .ok (.iload 4, 2) := by decide +kernel
theorem dX7_spread_47 : decode cX7_spread 47 = .ok (.iaload, 1) := by decide +kernel
theorem dX7_spread_48 : decode cX7_spread 48 = .ok (.iload_n 1, 1) := by decide +kernel
theorem dX7_spread_49 : decode cX7_spread 49 = .ok (.if_icmp .ne 48, 3) := by decide +kernel
theorem dX7_spread_52 : decode cX7_spread 52 = .ok (.aload_n 0, 1) := by decide +kernel
theorem dX7_spread_53 : decode cX7_spread 53 = .ok (.getfield 59, 3) := by decide +kernel
theorem dX7_spread_56 : decode cX7_spread 56 = .ok (.iload_n 3, 1) := by decide +kernel
theorem dX7_spread_57 : decode cX7_spread 57 = .ok (.caload, 1) := by decide +kernel
theorem dX7_spread_58 : decode cX7_spread 58 = .ok (.bipush 112, 2) := by decide +kernel
theorem dX7_spread_60 : decode cX7_spread 60 = .ok (.if_icmp .ne 37, 3) := by decide +kernel
theorem dX7_spread_63 : decode cX7_spread 63 = .ok (.aload_n 0, 1) := by decide +kernel
theorem dX7_spread_64 : decode cX7_spread 64 = .ok (.getfield 59, 3) := by decide +kernel
theorem dX7_spread_67 : decode cX7_spread 67 = .ok (.iload 4, 2) := by decide +kernel
theorem dX7_spread_69 : decode cX7_spread 69 = .ok (.caload, 1) := by decide +kernel
theorem dX7_spread_70 : decode cX7_spread 70 = .ok (.bipush 112, 2) := by decide +kernel
theorem dX7_spread_72 : decode cX7_spread 72 = .ok (.if_icmp .eq 6, 3) := by decide +kernel
theorem dX7_spread_75 : decode cX7_spread 75 = .ok (.goto 22, 3) := by decide +kernel
theorem dX7_spread_78 : decode cX7_spread 78 = .ok (.aload_n 0, 1) := by decide +kernel
theorem dX7_spread_79 : decode cX7_spread 79 = .ok (.iload_n 3, 1) := by decide +kernel
theorem dX7_spread_80 : decode cX7_spread 80 = .ok (.iload 4, 2) := by decide +kernel
theorem dX7_spread_82 : decode cX7_spread 82 = .ok (.invokevirtual 146, 3) := by decide +kernel
theorem dX7_spread_85 : decode cX7_spread 85 = .ok (.iload_n 2, 1) := by decide +kernel
theorem dX7_spread_86 : decode cX7_spread 86 = .ok (.if_icmp .le 11, 3) := by decide +kernel
theorem dX7_spread_89 : decode cX7_spread 89 = .ok (.aload_n 0, 1) := by decide +kernel
theorem dX7_spread_90 : decode cX7_spread 90 = .ok (.iload_n 3, 1) := by decide +kernel
theorem dX7_spread_91 : decode cX7_spread 91 = .ok (.iload 4, 2) := by decide +kernel
theorem dX7_spread_93 : decode cX7_spread 93 = .ok (.invokevirtual 146, 3) := by decide +kernel
theorem dX7_spread_96 : decode cX7_spread 96 = .ok (.istore_n 2, 1) := by decide +kernel
theorem dX7_spread_97 : decode cX7_spread 97 = .ok (.iinc 4 1, 3) := by decide +kernel
theorem dX7_spread_100 : decode cX7_spread 100 = .ok (.goto (-75), 3) := by decide +kernel
theorem dX7_spread_103 : decode cX7_spread 103 = .ok (.iinc 3 1, 3) := by decide +kernel
theorem dX7_spread_106 : decode cX7_spread 106 = .ok (.goto (-92), 3) := by decide +kernel
theorem dX7_spread_109 : decode cX7_spread 109 = .ok (.iload_n 2, 1) := by decide +kernel
theorem dX7_spread_110 : decode cX7_spread 110 = .ok (.ireturn, 1) := by decide +kernel
theorem dX7_late_0 : decode cX7_late 0 = .ok (.iconst 0, 1) := by decide +kernel
theorem dX7_late_1 : decode cX7_late 1 = .ok (.istore_n 2, 1) := by decide +kernel
theorem dX7_late_2 : decode cX7_late 2 = .ok (.iconst 0, 1) := by decide +kernel
theorem dX7_late_3 : decode cX7_late 3 = .ok (.istore_n 3, 1) := by decide +kernel
theorem dX7_late_4 : decode cX7_late 4 = .ok (.iload_n 3, 1) := by decide +kernel
theorem dX7_late_5 : decode cX7_late 5 = .ok (.aload_n 0, 1) := by decide +kernel
theorem dX7_late_6 : decode cX7_late 6 = .ok (.getfield 92, 3) := by decide +kernel
theorem dX7_late_9 : decode cX7_late 9 = .ok (.if_icmp .ge 47, 3) := by decide +kernel
theorem dX7_late_12 : decode cX7_late 12 = .ok (.aload_n 0, 1) := by decide +kernel
theorem dX7_late_13 : decode cX7_late 13 = .ok (.getfield 38, 3) := by decide +kernel
theorem dX7_late_16 : decode cX7_late 16 = .ok (.iload_n 3, 1) := by decide +kernel
theorem dX7_late_17 : decode cX7_late 17 = .ok (.iaload, 1) := by decide +kernel
theorem dX7_late_18 : decode cX7_late 18 = .ok (.iload_n 1, 1) := by decide +kernel
theorem dX7_late_19 : decode cX7_late 19 = .ok (.if_icmp .ne 31, 3) := by decide +kernel
theorem dX7_late_22 : decode cX7_late 22 = .ok (.aload_n 0, 1) := by decide +kernel
theorem dX7_late_23 : decode cX7_late 23 = .ok (.getfield 59, 3) := by decide +kernel
theorem dX7_late_26 : decode cX7_late 26 = .ok (.iload_n 3, 1) := by decide +kernel
theorem dX7_late_27 : decode cX7_late 27 = .ok (.caload, 1) := by decide +kernel
theorem dX7_late_28 : decode cX7_late 28 = .ok (.bipush 119, 2) := by decide +kernel
theorem dX7_late_30 : decode cX7_late 30 = .ok (.if_icmp .eq 20, 3) := by decide +kernel
theorem dX7_late_33 : decode cX7_late 33 = .ok (.aload_n 0, 1) := by decide +kernel
theorem dX7_late_34 : decode cX7_late 34 = .ok (.getfield 50, 3) := by decide +kernel
theorem dX7_late_37 : decode cX7_late 37 = .ok (.iload_n 3, 1) := by decide +kernel
theorem dX7_late_38 : decode cX7_late 38 = .ok (.iaload, 1) := by decide +kernel
theorem dX7_late_39 : decode cX7_late 39 = .ok (.iload_n 2, 1) := by decide +kernel
theorem dX7_late_40 : decode cX7_late 40 = .ok (.if_icmp .le 10, 3) := by decide +kernel
theorem dX7_late_43 : decode cX7_late 43 = .ok (.aload_n 0, 1) := by decide +kernel
theorem dX7_late_44 : decode cX7_late 44 = .ok (.getfield 50, 3) := by decide +kernel
theorem dX7_late_47 : decode cX7_late 47 = .ok (.iload_n 3, 1) := by decide +kernel
theorem dX7_late_48 : decode cX7_late 48 = .ok (.iaload, 1) := by decide +kernel
theorem dX7_late_49 : decode cX7_late 49 = .ok (.istore_n 2, 1) := by decide +kernel
theorem dX7_late_50 : decode cX7_late 50 = .ok (.iinc 3 1, 3) := by decide +kernel
theorem dX7_late_53 : decode cX7_late 53 = .ok (.goto (-49), 3) := by decide +kernel
theorem dX7_late_56 : decode cX7_late 56 = .ok (.iload_n 2, 1) := by decide +kernel
theorem dX7_late_57 : decode cX7_late 57 = .ok (.bipush 24, 2) := by decide +kernel
theorem dX7_late_59 : decode cX7_late 59 = .ok (.idiv, 1) := by decide +kernel
theorem dX7_late_60 : decode cX7_late 60 = .ok (.aload_n 0, 1) := by decide +kernel
theorem dX7_late_61 : decode cX7_late 61 = .ok (.getfield 32, 3) := by decide +kernel
theorem dX7_late_64 : decode cX7_late 64 = .ok (.iload_n 1, 1) := by decide +kernel
theorem dX7_late_65 : decode cX7_late 65 = .ok (.iaload, 1) := by decide +kernel
theorem dX7_late_66 : decode cX7_late 66 = .ok (.if_icmp .le 17, 3) := by decide +kernel
theorem dX7_late_69 : decode cX7_late 69 = .ok (.iload_n 2, 1) := by decide +kernel
theorem dX7_late_70 : decode cX7_late 70 = .ok (.bipush 24, 2) := by decide +kernel
theorem dX7_late_72 : decode cX7_late 72 = .ok (.idiv, 1) := by decide +kernel
theorem dX7_late_73 : decode cX7_late 73 = .ok (.aload_n 0, 1) := by decide +kernel
theorem dX7_late_74 : decode cX7_late 74 = .ok (.getfield 32, 3) := by decide +kernel
theorem dX7_late_77 : decode cX7_late 77 = .ok (.iload_n 1, 1) := by decide +kernel
theorem dX7_late_78 : decode cX7_late 78 = .ok (.iaload, 1) := by decide +kernel
theorem dX7_late_79 : decode cX7_late 79 = .ok (.isub, 1) := by decide +kernel
theorem dX7_late_80 : decode cX7_late 80 = .ok (.goto 4, 3) := by decide +kernel
theorem dX7_late_83 : decode cX7_late 83 = .ok (.iconst 0, 1) := by decide +kernel
theorem dX7_late_84 : decode cX7_late 84 = .ok (.ireturn, 1) := by decide +kernel
set_option maxRecDepth 20000 in
theorem ggX7_lateBy_X7_noOrder : GoodIn wsX7_lateBy wsX7_noOrder := goodIn_r _ [5, 6, 7, 8, 9, 4, 10, 20, 21, 22, 23, 24, 25, 26, 27, 28, 29, 30, 31, 32, 33, 34, 35, 36, 37, 38, 39, 40, 41, 42, 43, 44, 45, 46, 47, 48] (by decide +kernel) (by decide +kernel)
set_option maxRecDepth 20000 in
theorem gX7_lateBy_X7_noOrder : GoodIn wsX7_lateBy (wsV RX7 117 RX7 yX7_noOrder wsX7_noOrder) := goodIn_app (goodIn_of _ (by decide +kernel)) ggX7_lateBy_X7_noOrder
set_option maxRecDepth 20000 in
theorem ggX7_lateBy_X7_late : GoodIn wsX7_lateBy wsX7_late := goodIn_ca (goodIn_r _ [14, 15, 16, 17, 18, 19, 20, 21, 22, 23, 24, 25, 26, 27, 28, 29, 30, 31, 32, 33, 34, 35, 36, 37, 38, 39, 40, 41, 42, 43, 44, 45, 46, 47, 48] (by decide +kernel) (by decide +kernel)) (goodIn_sub (fun _ h => List.mem_cons_of_mem _ (List.mem_append_right _ h)) (by decide +kernel))
set_option maxRecDepth 20000 in
theorem gX7_lateBy_X7_late : GoodIn wsX7_lateBy (wsV RX7 190 RX7 yX7_late wsX7_late) := goodIn_app (goodIn_of _ (by decide +kernel)) ggX7_lateBy_X7_late
theorem dX7_lateBy_0 : decode cX7_lateBy 0 = .ok (.aload_n 0, 1) := by decide +kernel
theorem dX7_lateBy_1 : decode cX7_lateBy 1 = .ok (.iload_n 1, 1) := by decide +kernel
theorem dX7_lateBy_2 : decode cX7_lateBy 2 = .ok (.invokevirtual 117, 3) := by decide +kernel
theorem dX7_lateBy_5 : decode cX7_lateBy 5 = .ok (.ifCond .eq 7, 3) := by decide +kernel
theorem dX7_lateBy_8 : decode cX7_lateBy 8 = .ok (.iconst 0, 1) := by decide +kernel
theorem dX7_lateBy_9 : decode cX7_lateBy 9 = .ok (.goto 8, 3) := by decide +kernel
theorem dX7_lateBy_12 : decode cX7_lateBy 12 = .ok (.aload_n 0, 1) := by decide +kernel
theorem dX7_lateBy_13 : decode cX7_lateBy 13 = .ok (.iload_n 1, 1) := by decide +kernel
theorem dX7_lateBy_14 : decode cX7_lateBy 14 = .ok (.invokevirtual 190, 3) := by decide +kernel
theorem dX7_lateBy_17 : decode cX7_lateBy 17 = .ok (.ireturn, 1) := by decide +kernel
set_option maxRecDepth 20000 in
theorem ggX7_worth_X7_late : GoodIn wsX7_worth wsX7_late := goodIn_ca (goodIn_r _ [10, 1, 2, 3, 11, 12, 13, 14, 15, 16, 17, 18, 19, 20, 21, 22, 23, 24, 25, 26, 27, 28, 29, 30, 31, 32, 33, 34, 35, 36, 37, 38, 39, 40, 41] (by decide +kernel) (by decide +kernel)) (goodIn_sub (fun _ h => List.mem_cons_of_mem _ (List.mem_append_right _ h)) (by decide +kernel))
set_option maxRecDepth 20000 in
theorem gX7_worth_X7_late : GoodIn wsX7_worth (wsV RX7 190 RX7 yX7_late wsX7_late) := goodIn_app (goodIn_of _ (by decide +kernel)) ggX7_worth_X7_late
theorem dX7_worth_0 : decode cX7_worth 0 = .ok (.iconst 0, 1) := by decide +kernel
theorem dX7_worth_1 : decode cX7_worth 1 = .ok (.istore_n 2, 1) := by decide +kernel
theorem dX7_worth_2 : decode cX7_worth 2 = .ok (.iconst 0, 1) := by decide +kernel
theorem dX7_worth_3 : decode cX7_worth 3 = .ok (.istore_n 3, 1) := by decide +kernel
theorem dX7_worth_4 : decode cX7_worth 4 = .ok (.iload_n 3, 1) := by decide +kernel
theorem dX7_worth_5 : decode cX7_worth 5 = .ok (.aload_n 0, 1) := by decide +kernel
theorem dX7_worth_6 : decode cX7_worth 6 = .ok (.getfield 92, 3) := by decide +kernel
theorem dX7_worth_9 : decode cX7_worth 9 = .ok (.if_icmp .ge 50, 3) := by decide +kernel
theorem dX7_worth_12 : decode cX7_worth 12 = .ok (.iload_n 2, 1) := by decide +kernel
theorem dX7_worth_13 : decode cX7_worth 13 = .ok (.aload_n 0, 1) := by decide +kernel
theorem dX7_worth_14 : decode cX7_worth 14 = .ok (.getfield 38, 3) := by decide +kernel
theorem dX7_worth_17 : decode cX7_worth 17 = .ok (.iload_n 3, 1) := by decide +kernel
theorem dX7_worth_18 : decode cX7_worth 18 = .ok (.iaload, 1) := by decide +kernel
theorem dX7_worth_19 : decode cX7_worth 19 = .ok (.iload_n 1, 1) := by decide +kernel
theorem dX7_worth_20 : decode cX7_worth 20 = .ok (.if_icmp .ne 30, 3) := by decide +kernel
theorem dX7_worth_23 : decode cX7_worth 23 = .ok (.aload_n 0, 1) := by decide +kernel
theorem dX7_worth_24 : decode cX7_worth 24 = .ok (.getfield 59, 3) := by decide +kernel
theorem dX7_worth_27 : decode cX7_worth 27 = .ok (.iload_n 3, 1) := by decide +kernel
theorem dX7_worth_28 : decode cX7_worth 28 = .ok (.caload, 1) := by decide +kernel
theorem dX7_worth_29 : decode cX7_worth 29 = .ok (.bipush 112, 2) := by decide +kernel
theorem dX7_worth_31 : decode cX7_worth 31 = .ok (.if_icmp .ne 19, 3) := by decide +kernel
theorem dX7_worth_34 : decode cX7_worth 34 = .ok (.aload_n 0, 1) := by decide +kernel
theorem dX7_worth_35 : decode cX7_worth 35 = .ok (.getfield 41, 3) := by decide +kernel
theorem dX7_worth_38 : decode cX7_worth 38 = .ok (.iload_n 3, 1) := by decide +kernel
theorem dX7_worth_39 : decode cX7_worth 39 = .ok (.iaload, 1) := by decide +kernel
theorem dX7_worth_40 : decode cX7_worth 40 = .ok (.aload_n 0, 1) := by decide +kernel
theorem dX7_worth_41 : decode cX7_worth 41 = .ok (.getfield 35, 3) := by decide +kernel
theorem dX7_worth_44 : decode cX7_worth 44 = .ok (.iload_n 1, 1) := by decide +kernel
theorem dX7_worth_45 : decode cX7_worth 45 = .ok (.iaload, 1) := by decide +kernel
theorem dX7_worth_46 : decode cX7_worth 46 = .ok (.imul, 1) := by decide +kernel
theorem dX7_worth_47 : decode cX7_worth 47 = .ok (.goto 4, 3) := by decide +kernel
theorem dX7_worth_50 : decode cX7_worth 50 = .ok (.iconst 0, 1) := by decide +kernel
theorem dX7_worth_51 : decode cX7_worth 51 = .ok (.iadd, 1) := by decide +kernel
theorem dX7_worth_52 : decode cX7_worth 52 = .ok (.istore_n 2, 1) := by decide +kernel
theorem dX7_worth_53 : decode cX7_worth 53 = .ok (.iinc 3 1, 3) := by decide +kernel
theorem dX7_worth_56 : decode cX7_worth 56 = .ok (.goto (-52), 3) := by decide +kernel
theorem dX7_worth_59 : decode cX7_worth 59 = .ok (.iload_n 2, 1) := by decide +kernel
theorem dX7_worth_60 : decode cX7_worth 60 = .ok (.bipush 100, 2) := by decide +kernel
theorem dX7_worth_62 : decode cX7_worth 62 = .ok (.aload_n 0, 1) := by decide +kernel
theorem dX7_worth_63 : decode cX7_worth 63 = .ok (.iload_n 1, 1) := by decide +kernel
theorem dX7_worth_64 : decode cX7_worth 64 = .ok (.invokevirtual 190, 3) := by decide +kernel
theorem dX7_worth_67 : decode cX7_worth 67 = .ok (.imul, 1) := by decide +kernel
theorem dX7_worth_68 : decode cX7_worth 68 = .ok (.isub, 1) := by decide +kernel
theorem dX7_worth_69 : decode cX7_worth 69 = .ok (.istore_n 2, 1) := by decide +kernel
theorem dX7_worth_70 : decode cX7_worth 70 = .ok (.iload_n 2, 1) := by decide +kernel
theorem dX7_worth_71 : decode cX7_worth 71 = .ok (.ifCond .ge 7, 3) := by decide +kernel
theorem dX7_worth_74 : decode cX7_worth 74 = .ok (.iconst 0, 1) := by decide +kernel
theorem dX7_worth_75 : decode cX7_worth 75 = .ok (.goto 4, 3) := by decide +kernel
theorem dX7_worth_78 : decode cX7_worth 78 = .ok (.iload_n 2, 1) := by decide +kernel
theorem dX7_worth_79 : decode cX7_worth 79 = .ok (.ireturn, 1) := by decide +kernel
set_option maxRecDepth 20000 in
theorem ggX7_due_X7_noOrder : GoodIn wsX7_due wsX7_noOrder := goodIn_r _ [5, 6, 7, 8, 9, 4, 10, 26, 27, 28, 29, 30, 31, 32, 33, 34, 35, 36, 37, 38, 39, 40, 41, 42, 43, 44, 45, 46, 47, 48, 49, 50, 51, 52, 53, 54] (by decide +kernel) (by decide +kernel)
set_option maxRecDepth 20000 in
theorem gX7_due_X7_noOrder : GoodIn wsX7_due (wsV RX7 117 RX7 yX7_noOrder wsX7_noOrder) := goodIn_app (goodIn_of _ (by decide +kernel)) ggX7_due_X7_noOrder
set_option maxRecDepth 20000 in
theorem ggX7_due_X7_worth : GoodIn wsX7_due wsX7_worth := goodIn_ca (goodIn_r _ [14, 15, 16, 17, 18, 19, 20, 21, 22, 4, 23, 24, 25, 26, 27, 28, 29, 30, 31, 32, 33, 34, 35, 36, 37, 38, 39, 40, 41, 42, 43, 44, 45, 46, 47, 48, 49, 50, 51, 52, 53, 54] (by decide +kernel) (by decide +kernel)) (goodIn_sub (fun _ h => List.mem_cons_of_mem _ (List.mem_append_right _ h)) (by decide +kernel))
set_option maxRecDepth 20000 in
theorem gX7_due_X7_worth : GoodIn wsX7_due (wsV RX7 193 RX7 yX7_worth wsX7_worth) := goodIn_app (goodIn_of _ (by decide +kernel)) ggX7_due_X7_worth
theorem dX7_due_0 : decode cX7_due 0 = .ok (.aload_n 0, 1) := by decide +kernel
theorem dX7_due_1 : decode cX7_due 1 = .ok (.iload_n 1, 1) := by decide +kernel
theorem dX7_due_2 : decode cX7_due 2 = .ok (.invokevirtual 117, 3) := by decide +kernel
theorem dX7_due_5 : decode cX7_due 5 = .ok (.ifCond .eq 7, 3) := by decide +kernel
theorem dX7_due_8 : decode cX7_due 8 = .ok (.iconst 0, 1) := by decide +kernel
theorem dX7_due_9 : decode cX7_due 9 = .ok (.goto 8, 3) := by decide +kernel
theorem dX7_due_12 : decode cX7_due 12 = .ok (.aload_n 0, 1) := by decide +kernel
theorem dX7_due_13 : decode cX7_due 13 = .ok (.iload_n 1, 1) := by decide +kernel
theorem dX7_due_14 : decode cX7_due 14 = .ok (.invokevirtual 193, 3) := by decide +kernel
theorem dX7_due_17 : decode cX7_due 17 = .ok (.ireturn, 1) := by decide +kernel
set_option maxRecDepth 20000 in
theorem ggX7_dues_X7_isIn : GoodIn wsX7_dues wsX7_isIn := goodIn_r _ [7] (by decide +kernel) (by decide +kernel)
set_option maxRecDepth 20000 in
theorem gX7_dues_X7_isIn : GoodIn wsX7_dues (va_wsS RX7 88 yX7_isIn wsX7_isIn) := goodIn_app (goodIn_of _ (by decide +kernel)) ggX7_dues_X7_isIn
set_option maxRecDepth 20000 in
theorem ggX7_dues_X7_worth : GoodIn wsX7_dues wsX7_worth := goodIn_ca (goodIn_r _ [11, 12, 13, 14, 15, 16, 17, 18, 19, 6, 20, 21, 22, 23, 24, 25, 26, 27, 28, 29, 30, 31, 32, 33, 34, 35, 36, 37, 38, 39, 40, 41, 42, 43, 44, 45, 46, 47, 48, 49, 50, 51] (by decide +kernel) (by decide +kernel)) (goodIn_sub (fun _ h => List.mem_cons_of_mem _ (List.mem_append_right _ h)) (by decide +kernel))
set_option maxRecDepth 20000 in
theorem gX7_dues_X7_worth : GoodIn wsX7_dues (wsV RX7 193 RX7 yX7_worth wsX7_worth) := goodIn_app (goodIn_of _ (by decide +kernel)) ggX7_dues_X7_worth
theorem dX7_dues_0 : decode cX7_dues 0 = .ok (.aload_n 0, 1) := by decide +kernel
theorem dX7_dues_1 : decode cX7_dues 1 = .ok (.iload_n 1, 1) := by decide +kernel
theorem dX7_dues_2 : decode cX7_dues 2 = .ok (.iconst 0, 1) := by decide +kernel
theorem dX7_dues_3 : decode cX7_dues 3 = .ok (.iconst 3, 1) := by decide +kernel
theorem dX7_dues_4 : decode cX7_dues 4 = .ok (.invokestatic 88, 3) := by decide +kernel
theorem dX7_dues_7 : decode cX7_dues 7 = .ok (.ifCond .eq 7, 3) := by decide +kernel
theorem dX7_dues_10 : decode cX7_dues 10 = .ok (.iconst 0, 1) := by decide +kernel
theorem dX7_dues_11 : decode cX7_dues 11 = .ok (.goto 4, 3) := by decide +kernel
theorem dX7_dues_14 : decode cX7_dues 14 = .ok (.iconst 1, 1) := by decide +kernel
theorem dX7_dues_15 : decode cX7_dues 15 = .ok (.putfield 84, 3) := by decide +kernel
theorem dX7_dues_18 : decode cX7_dues 18 = .ok (.aload_n 0, 1) := by decide +kernel
theorem dX7_dues_19 : decode cX7_dues 19 = .ok (.getfield 84, 3) := by decide +kernel
theorem dX7_dues_22 : decode cX7_dues 22 = .ok (.ifCond .eq 5, 3) := by decide +kernel
theorem dX7_dues_25 : decode cX7_dues 25 = .ok (.lconst 0, 1) := by decide +kernel
theorem dX7_dues_26 : decode cX7_dues 26 = .ok (.lreturn, 1) := by decide +kernel
theorem dX7_dues_27 : decode cX7_dues 27 = .ok (.lconst 0, 1) := by decide +kernel
theorem dX7_dues_28 : decode cX7_dues 28 = .ok (.lstore_n 2, 1) := by decide +kernel
theorem dX7_dues_29 : decode cX7_dues 29 = .ok (.iconst 0, 1) := by decide +kernel
theorem dX7_dues_30 : decode cX7_dues 30 = .ok (.istore 4, 2) := by decide +kernel
theorem dX7_dues_32 : decode cX7_dues 32 = .ok (.iload 4, 2) := by decide +kernel
theorem dX7_dues_34 : decode cX7_dues 34 = .ok (.aload_n 0, 1) := by decide +kernel
theorem dX7_dues_35 : decode cX7_dues 35 = .ok (.getfield 98, 3) := by decide +kernel
theorem dX7_dues_38 : decode cX7_dues 38 = .ok (.if_icmp .ge 34, 3) := by decide +kernel
theorem dX7_dues_41 : decode cX7_dues 41 = .ok (.lload_n 2, 1) := by decide +kernel
theorem dX7_dues_42 : decode cX7_dues 42 = .ok (.aload_n 0, 1) := by decide +kernel
theorem dX7_dues_43 : decode cX7_dues 43 = .ok (.getfield 23, 3) := by decide +kernel
theorem dX7_dues_46 : decode cX7_dues 46 = .ok (.iload 4, 2) := by decide +kernel
theorem dX7_dues_48 : decode cX7_dues 48 = .ok (.iaload, 1) := by decide +kernel
theorem dX7_dues_49 : decode cX7_dues 49 = .ok (.iload_n 1, 1) := by decide +kernel
theorem dX7_dues_50 : decode cX7_dues 50 = .ok (.if_icmp .ne 13, 3) := by decide +kernel
theorem dX7_dues_53 : decode cX7_dues 53 = .ok (.aload_n 0, 1) := by decide +kernel
theorem dX7_dues_54 : decode cX7_dues 54 = .ok (.iload 4, 2) := by decide +kernel
theorem dX7_dues_56 : decode cX7_dues 56 = .ok (.invokevirtual 193, 3) := by decide +kernel
theorem dX7_dues_59 : decode cX7_dues 59 = .ok (.i2l, 1) := by decide +kernel
theorem dX7_dues_60 : decode cX7_dues 60 = .ok (.goto 4, 3) := by decide +kernel
theorem dX7_dues_63 : decode cX7_dues 63 = .ok (.lconst 0, 1) := by decide +kernel
theorem dX7_dues_64 : decode cX7_dues 64 = .ok (.ladd, 1) := by decide +kernel
theorem dX7_dues_65 : decode cX7_dues 65 = .ok (.lstore_n 2, 1) := by decide +kernel
theorem dX7_dues_66 : decode cX7_dues 66 = .ok (.iinc 4 1, 3) := by decide +kernel
theorem dX7_dues_69 : decode cX7_dues 69 = .ok (.goto (-37), 3) := by decide +kernel
theorem dX7_dues_72 : decode cX7_dues 72 = .ok (.lload_n 2, 1) := by decide +kernel
theorem dX7_dues_73 : decode cX7_dues 73 = .ok (.lreturn, 1) := by decide +kernel
set_option maxRecDepth 20000 in
theorem ggX7_used_X7_noDye : GoodIn wsX7_used wsX7_noDye := goodIn_r _ [6, 7, 8, 9, 5, 10, 11, 12, 13, 14, 15, 16, 17, 18, 19, 20, 21, 22, 23, 24, 25, 26, 27, 28, 29, 30, 31, 32, 33, 34, 35, 36, 37, 38, 39] (by decide +kernel) (by decide +kernel)
set_option maxRecDepth 20000 in
theorem gX7_used_X7_noDye : GoodIn wsX7_used (wsV RX7 113 RX7 yX7_noDye wsX7_noDye) := goodIn_app (goodIn_of _ (by decide +kernel)) ggX7_used_X7_noDye
theorem dX7_used_0 : decode cX7_used 0 = .ok (.aload_n 0, 1) := by decide +kernel
theorem dX7_used_1 : decode cX7_used 1 = .ok (.iload_n 1, 1) := by decide +kernel
theorem dX7_used_2 : decode cX7_used 2 = .ok (.invokevirtual 113, 3) := by decide +kernel
theorem dX7_used_5 : decode cX7_used 5 = .ok (.ifCond .eq 7, 3) := by decide +kernel
theorem dX7_used_8 : decode cX7_used 8 = .ok (.lconst 0, 1) := by decide +kernel
theorem dX7_used_9 : decode cX7_used 9 = .ok (.goto 9, 3) := by decide +kernel
theorem dX7_used_12 : decode cX7_used 12 = .ok (.aload_n 0, 1) := by decide +kernel
theorem dX7_used_13 : decode cX7_used 13 = .ok (.getfield 19, 3) := by decide +kernel
theorem dX7_used_16 : decode cX7_used 16 = .ok (.iload_n 1, 1) := by decide +kernel
theorem dX7_used_17 : decode cX7_used 17 = .ok (.laload, 1) := by decide +kernel
theorem dX7_used_18 : decode cX7_used 18 = .ok (.lreturn, 1) := by decide +kernel
theorem dX7_passedShare_0 : decode cX7_passedShare 0 = .ok (.iconst 0, 1) := by decide +kernel
theorem dX7_passedShare_1 : decode cX7_passedShare 1 = .ok (.istore_n 1, 1) := by decide +kernel
theorem dX7_passedShare_2 : decode cX7_passedShare 2 = .ok (.iconst 0, 1) := by decide +kernel
theorem dX7_passedShare_3 : decode cX7_passedShare 3 = .ok (.istore_n 2, 1) := by decide +kernel
theorem dX7_passedShare_4 : decode cX7_passedShare 4 = .ok (.iconst 0, 1) := by decide +kernel
theorem dX7_passedShare_5 : decode cX7_passedShare 5 = .ok (.istore_n 3, 1) := by decide +kernel
theorem dX7_passedShare_6 : decode cX7_passedShare 6 = .ok (.iload_n 3, 1) := by decide +kernel
theorem dX7_passedShare_7 : decode cX7_passedShare 7 = .ok (.aload_n 0, 1) := by decide +kernel
theorem dX7_passedShare_8 : decode cX7_passedShare 8 = .ok (.getfield 92, 3) := by decide +kernel
theorem dX7_passedShare_11 : decode cX7_passedShare 11 = .ok (.if_icmp .ge 47, 3) := by decide +kernel
theorem dX7_passedShare_14 : decode cX7_passedShare 14 = .ok (.iload_n 1, 1) := by decide +kernel
theorem dX7_passedShare_15 : decode cX7_passedShare 15 = .ok (.aload_n 0, 1) := by decide +kernel
theorem dX7_passedShare_16 : decode cX7_passedShare 16 = .ok (.getfield 59, 3) := by decide +kernel
theorem dX7_passedShare_19 : decode cX7_passedShare 19 = .ok (.iload_n 3, 1) := by decide +kernel
theorem dX7_passedShare_20 : decode cX7_passedShare 20 = .ok (.caload, 1) := by decide +kernel
theorem dX7_passedShare_21 : decode cX7_passedShare 21 = .ok (.bipush 112, 2) := by decide +kernel
theorem dX7_passedShare_23 : decode cX7_passedShare 23 = .ok (.if_icmp .ne 7, 3) := by decide +kernel
theorem dX7_passedShare_26 : decode cX7_passedShare 26 = .ok (.iconst 1, 1) := by decide +kernel
theorem dX7_passedShare_27 : decode cX7_passedShare 27 = .ok (.goto 4, 3) := by decide +kernel
theorem dX7_passedShare_30 : decode cX7_passedShare 30 = .ok (.iconst 0, 1) := by decide +kernel
theorem dX7_passedShare_31 : decode cX7_passedShare 31 = .ok (.iadd, 1) := by decide +kernel
theorem dX7_passedShare_32 : decode cX7_passedShare 32 = .ok (.istore_n 1, 1) := by decide +kernel
theorem dX7_passedShare_33 : decode cX7_passedShare 33 = .ok (.iload_n 2, 1) := by decide +kernel
theorem dX7_passedShare_34 : decode cX7_passedShare 34 = .ok (.aload_n 0, 1) := by decide +kernel
theorem dX7_passedShare_35 : decode cX7_passedShare 35 = .ok (.getfield 59, 3) := by decide +kernel
theorem dX7_passedShare_38 : decode cX7_passedShare 38 = .ok (.iload_n 3, 1) := by decide +kernel
theorem dX7_passedShare_39 : decode cX7_passedShare 39 = .ok (.caload, 1) := by decide +kernel
theorem dX7_passedShare_40 : decode cX7_passedShare 40 = .ok (.bipush 120, 2) := by decide +kernel
theorem dX7_passedShare_42 : decode cX7_passedShare 42 = .ok (.if_icmp .ne 7, 3) := by decide +kernel
theorem dX7_passedShare_45 : decode cX7_passedShare 45 = .ok (.iconst 1, 1) := by decide +kernel
theorem dX7_passedShare_46 : decode cX7_passedShare 46 = .ok (.goto 4, 3) := by decide +kernel
theorem dX7_passedShare_49 : decode cX7_passedShare 49 = .ok (.iconst 0, 1) := by decide +kernel
theorem dX7_passedShare_50 : decode cX7_passedShare 50 = .ok (.iadd, 1) := by decide +kernel
theorem dX7_passedShare_51 : decode cX7_passedShare 51 = .ok (.istore_n 2, 1) := by decide +kernel
theorem dX7_passedShare_52 : decode cX7_passedShare 52 = .ok (.iinc 3 1, 3) := by decide +kernel
theorem dX7_passedShare_55 : decode cX7_passedShare 55 = .ok (.goto (-49), 3) := by decide +kernel
theorem dX7_passedShare_58 : decode cX7_passedShare 58 = .ok (.aload_n 0, 1) := by decide +kernel
theorem dX7_passedShare_59 : decode cX7_passedShare 59 = .ok (.iload_n 1, 1) := by decide +kernel
theorem dX7_passedShare_60 : decode cX7_passedShare 60 = .ok (.iload_n 2, 1) := by decide +kernel
theorem dX7_passedShare_61 : decode cX7_passedShare 61 = .ok (.iadd, 1) := by decide +kernel
theorem dX7_passedShare_62 : decode cX7_passedShare 62 = .ok (.ifCond .ne 7, 3) := by decide +kernel
theorem dX7_passedShare_65 : decode cX7_passedShare 65 = .ok (.iconst 1, 1) := by decide +kernel
theorem dX7_passedShare_66 : decode cX7_passedShare 66 = .ok (.goto 4, 3) := by decide +kernel
theorem dX7_passedShare_69 : decode cX7_passedShare 69 = .ok (.iconst 0, 1) := by decide +kernel
theorem dX7_passedShare_70 : decode cX7_passedShare 70 = .ok (.putfield 84, 3) := by decide +kernel
theorem dX7_passedShare_73 : decode cX7_passedShare 73 = .ok (.aload_n 0, 1) := by decide +kernel
theorem dX7_passedShare_74 : decode cX7_passedShare 74 = .ok (.getfield 84, 3) := by decide +kernel
theorem dX7_passedShare_77 : decode cX7_passedShare 77 = .ok (.ifCond .eq 7, 3) := by decide +kernel
theorem dX7_passedShare_80 : decode cX7_passedShare 80 = .ok (.fconst 0, 1) := by decide +kernel
theorem dX7_passedShare_81 : decode cX7_passedShare 81 = .ok (.goto 10, 3) := by decide +kernel
theorem dX7_passedShare_84 : decode cX7_passedShare 84 = .ok (.iload_n 1, 1) := by decide +kernel
theorem dX7_passedShare_85 : decode cX7_passedShare 85 = .ok (.i2f, 1) := by decide +kernel
theorem dX7_passedShare_86 : decode cX7_passedShare 86 = .ok (.iload_n 1, 1) := by decide +kernel
theorem dX7_passedShare_87 : decode cX7_passedShare 87 = .ok (.iload_n 2, 1) := by decide +kernel
theorem dX7_passedShare_88 : decode cX7_passedShare 88 = .ok (.iadd, 1) := by decide +kernel
theorem dX7_passedShare_89 : decode cX7_passedShare 89 = .ok (.i2f, 1) := by decide +kernel
theorem dX7_passedShare_90 : decode cX7_passedShare 90 = .ok (.fdiv, 1) := by decide +kernel
theorem dX7_passedShare_91 : decode cX7_passedShare 91 = .ok (.freturn, 1) := by decide +kernel
set_option maxRecDepth 20000 in
theorem ggX7_meanOff_X7_off : GoodIn wsX7_meanOff wsX7_off := goodIn_ca (goodIn_r _ [8, 9, 10, 11, 12, 13, 14, 7, 15, 16, 17, 18, 19, 20, 21, 22, 23, 24, 25, 26, 27, 28, 29, 30, 31, 32, 33, 34, 35, 36, 37, 38, 39, 40, 41, 42, 43, 44] (by decide +kernel) (by decide +kernel)) (goodIn_sub (fun _ h => List.mem_cons_of_mem _ (List.mem_append_right _ h)) (by decide +kernel))
set_option maxRecDepth 20000 in
theorem gX7_meanOff_X7_off : GoodIn wsX7_meanOff (wsV RX7 143 RX7 yX7_off wsX7_off) := goodIn_app (goodIn_of _ (by decide +kernel)) ggX7_meanOff_X7_off
theorem dX7_meanOff_0 : decode cX7_meanOff 0 = .ok (.iconst 0, 1) := by decide +kernel
theorem dX7_meanOff_1 : decode cX7_meanOff 1 = .ok (.istore_n 1, 1) := by decide +kernel
theorem dX7_meanOff_2 : decode cX7_meanOff 2 = .ok (.iconst 0, 1) := by decide +kernel
theorem dX7_meanOff_3 : decode cX7_meanOff 3 = .ok (.istore_n 2, 1) := by decide +kernel
theorem dX7_meanOff_4 : decode cX7_meanOff 4 = .ok (.iconst 0, 1) := by decide +kernel
theorem dX7_meanOff_5 : decode cX7_meanOff 5 = .ok (.istore_n 3, 1) := by decide +kernel
theorem dX7_meanOff_6 : decode cX7_meanOff 6 = .ok (.iload_n 3, 1) := by decide +kernel
theorem dX7_meanOff_7 : decode cX7_meanOff 7 = .ok (.aload_n 0, 1) := by decide +kernel
theorem dX7_meanOff_8 : decode cX7_meanOff 8 = .ok (.getfield 92, 3) := by decide +kernel
theorem dX7_meanOff_11 : decode cX7_meanOff 11 = .ok (.if_icmp .ge 34, 3) := by decide +kernel
theorem dX7_meanOff_14 : decode cX7_meanOff 14 = .ok (.aload_n 0, 1) := by decide +kernel
theorem dX7_meanOff_15 : decode cX7_meanOff 15 = .ok (.getfield 59, 3) := by decide +kernel
theorem dX7_meanOff_18 : decode cX7_meanOff 18 = .ok (.iload_n 3, 1) := by decide +kernel
theorem dX7_meanOff_19 : decode cX7_meanOff 19 = .ok (.caload, 1) := by decide +kernel
theorem dX7_meanOff_20 : decode cX7_meanOff 20 = .ok (.bipush 119, 2) := by decide +kernel
theorem dX7_meanOff_22 : decode cX7_meanOff 22 = .ok (.if_icmp .ne 6, 3) := by decide +kernel
theorem dX7_meanOff_25 : decode cX7_meanOff 25 = .ok (.goto 14, 3) := by decide +kernel
theorem dX7_meanOff_28 : decode cX7_meanOff 28 = .ok (.iload_n 1, 1) := by decide +kernel
theorem dX7_meanOff_29 : decode cX7_meanOff 29 = .ok (.aload_n 0, 1) := by decide +kernel
theorem dX7_meanOff_30 : decode cX7_meanOff 30 = .ok (.iload_n 3, 1) := by decide +kernel
theorem dX7_meanOff_31 : decode cX7_meanOff 31 = .ok (.invokevirtual 143, 3) := by decide +kernel
theorem dX7_meanOff_34 : decode cX7_meanOff 34 = .ok (.iadd, 1) := by decide +kernel
theorem dX7_meanOff_35 : decode cX7_meanOff 35 = .ok (.istore_n 1, 1) := by decide +kernel
theorem dX7_meanOff_36 : decode cX7_meanOff 36 = .ok (.iinc 2 1, 3) := by decide +kernel
theorem dX7_meanOff_39 : decode cX7_meanOff 39 = .ok (.iinc 3 1, 3) := by decide +kernel
theorem dX7_meanOff_42 : decode cX7_meanOff 42 = .ok (.goto (-36), 3) := by decide +kernel
theorem dX7_meanOff_45 : decode cX7_meanOff 45 = .ok (.aload_n 0, 1) := by decide +kernel
theorem dX7_meanOff_46 : decode cX7_meanOff 46 = .ok (.iload_n 2, 1) := by decide +kernel
theorem dX7_meanOff_47 : decode cX7_meanOff 47 = .ok (.ifCond .ne 7, 3) := by decide +kernel
theorem dX7_meanOff_50 : decode cX7_meanOff 50 = .ok (.iconst 1, 1) := by decide +kernel
theorem dX7_meanOff_51 : decode cX7_meanOff 51 = .ok (.goto 4, 3) := by decide +kernel
theorem dX7_meanOff_54 : decode cX7_meanOff 54 = .ok (.iconst 0, 1) := by decide +kernel
theorem dX7_meanOff_55 : decode cX7_meanOff 55 = .ok (.putfield 84, 3) := by decide +kernel
theorem dX7_meanOff_58 : decode cX7_meanOff 58 = .ok (.iload_n 2, 1) := by decide +kernel
theorem dX7_meanOff_59 : decode cX7_meanOff 59 = .ok (.ifCond .ne 7, 3) := by decide +kernel
theorem dX7_meanOff_62 : decode cX7_meanOff 62 = .ok (.dconst 0, 1) := by decide +kernel
theorem dX7_meanOff_63 : decode cX7_meanOff 63 = .ok (.goto 8, 3) := by decide +kernel
theorem dX7_meanOff_66 : decode cX7_meanOff 66 = .ok (.iload_n 1, 1) := by decide +kernel
theorem dX7_meanOff_67 : decode cX7_meanOff 67 = .ok (.i2d, 1) := by decide +kernel
theorem dX7_meanOff_68 : decode cX7_meanOff 68 = .ok (.iload_n 2, 1) := by decide +kernel
theorem dX7_meanOff_69 : decode cX7_meanOff 69 = .ok (.i2d, 1) := by decide +kernel
theorem dX7_meanOff_70 : decode cX7_meanOff 70 = .ok (.ddiv, 1) := by decide +kernel
theorem dX7_meanOff_71 : decode cX7_meanOff 71 = .ok (.dreturn, 1) := by decide +kernel
theorem dJx00060_init_a7421_0 : decode cJx00060_init_a7421 0 = .ok (.aload_n 0, 1) := by decide +kernel
theorem dJx00060_init_a7421_1 : decode cJx00060_init_a7421 1 = .ok (.aload_n 1, 1) := by decide +kernel
theorem dJx00060_init_a7421_2 : decode cJx00060_init_a7421 2 = .ok (.invokespecial 7, 3) := by decide +kernel
theorem dJx00060_init_a7421_5 : decode cJx00060_init_a7421 5 = .ok (.return_, 1) := by decide +kernel
theorem dJ9_abs_0f7a4_0 : decode cJ9_abs_0f7a4 0 = .ok (.iload_n 0, 1) := by decide +kernel
theorem dJ9_abs_0f7a4_1 : decode cJ9_abs_0f7a4 1 = .ok (.ifCond .ge 8, 3) := by decide +kernel
theorem dJ9_abs_0f7a4_4 : decode cJ9_abs_0f7a4 4 = .ok (.iload_n 0, 1) := by decide +kernel
theorem dJ9_abs_0f7a4_5 : decode cJ9_abs_0f7a4 5 = .ok (.ineg, 1) := by decide +kernel
theorem dJ9_abs_0f7a4_6 : decode cJ9_abs_0f7a4 6 = .ok (.goto 4, 3) := by decide +kernel
theorem dJ9_abs_0f7a4_9 : decode cJ9_abs_0f7a4 9 = .ok (.iload_n 0, 1) := by decide +kernel
theorem dJ9_abs_0f7a4_10 : decode cJ9_abs_0f7a4 10 = .ok (.ireturn, 1) := by decide +kernel
theorem dJ9_max_7cf53_0 : decode cJ9_max_7cf53 0 = .ok (.iload_n 0, 1) := by decide +kernel
theorem dJ9_max_7cf53_1 : decode cJ9_max_7cf53 1 = .ok (.iload_n 1, 1) := by decide +kernel
theorem dJ9_max_7cf53_2 : decode cJ9_max_7cf53 2 = .ok (.if_icmp .lt 7, 3) := by decide +kernel
theorem dJ9_max_7cf53_5 : decode cJ9_max_7cf53 5 = .ok (.iload_n 0, 1) := by decide +kernel
theorem dJ9_max_7cf53_6 : decode cJ9_max_7cf53 6 = .ok (.goto 4, 3) := by decide +kernel
theorem dJ9_max_7cf53_9 : decode cJ9_max_7cf53 9 = .ok (.iload_n 1, 1) := by decide +kernel
theorem dJ9_max_7cf53_10 : decode cJ9_max_7cf53 10 = .ok (.ireturn, 1) := by decide +kernel
theorem dJ9_min_7cf53_0 : decode cJ9_min_7cf53 0 = .ok (.iload_n 0, 1) := by decide +kernel
theorem dJ9_min_7cf53_1 : decode cJ9_min_7cf53 1 = .ok (.iload_n 1, 1) := by decide +kernel
theorem dJ9_min_7cf53_2 : decode cJ9_min_7cf53 2 = .ok (.if_icmp .gt 7, 3) := by decide +kernel
theorem dJ9_min_7cf53_5 : decode cJ9_min_7cf53 5 = .ok (.iload_n 0, 1) := by decide +kernel
theorem dJ9_min_7cf53_6 : decode cJ9_min_7cf53 6 = .ok (.goto 4, 3) := by decide +kernel
theorem dJ9_min_7cf53_9 : decode cJ9_min_7cf53 9 = .ok (.iload_n 1, 1) := by decide +kernel
theorem dJ9_min_7cf53_10 : decode cJ9_min_7cf53 10 = .ok (.ireturn, 1) := by decide +kernel
end
section
/-! ===== base: single cells, contracts that leave the heap as it was, contracts that write in place ===== -/
section BASE
variable {p : Program} {l : Launch} {e : Env} {R : Room} {s : State} {m : MethodId} {args : Array Value} {below : List Frame} {meth : Method} {c : Code} {H : Heap} {locs : List Loc} {cells slots : Nat} {Q : State → Prop}
variable {cc : ByteArray} {pc : Nat} {ls : Array Slot} {rest st0 : List Value} {D : va_G} {cl : List vw_C} {a : Nat} {tys : List (ClassId × FieldType)}
theorem sp_one {q : Nat × va_E} (h : va_at D cl q H) : va_P D cl [q] H := by
  intro k r hk
  match k, hk with
  | 0, hk => cases hk; exact h
  | k + 1, hk => simp at hk
/-- putfield on one cell: the cell's new content, all others as they were -/
theorem sp_put (hexec : p.tables.exec = Jvm.exec) (hb : c.code = cc) {own ref C : String} {T : u_T} {N ci index : Nat} {Ts : List Cond} (hts : ∀ w ∈ Ts, w.before args s = true) (hin : ∀ w ∈ u_ws C T N, w ∈ Ts) (ty0 : Nat → FieldType) (hty : ∀ k, k < N → parseFieldDescriptor (T k).2.2.1 = some (ty0 k)) (hnm : ∀ a, a < N → ∀ b, b < N → a ≠ b → (T a).2.1 ≠ (T b).2.1) (hown : s.vm.findClass own = some m.cls) (hK : va_K D cl tys s) {fs : List Value} (hat : va_at D cl (a, .inr (ci, fs)) H) (hc : cl[ci]? = some (C, T, N)) (k : Nat) (hk : k < N) (hlink : (Cond.fieldLink own index ref (T k).2.1 (T k).2.2.1).before args s = true) (hsame : ∀ x, s.fieldFound? (T k).1 (T k).2.1 (T k).2.2.1 = some x → s.fieldFound? ref (T k).2.1 (T k).2.2.1 = some x) (hfin : (T k).2.2.2 = false) {ty : FieldType} {v : Value} (hd : parseFieldDescriptor (T k).2.2.1 = some ty) (hn : narrow ty v = v) (hfit : fits ty v = true) (hl : k < fs.length)
    (hdg : decode cc pc = .ok (.putfield index, 3)) (kk : ∀ (H1 : Heap) (j : Nat), va_at D cl (a, .inr (ci, fs.set k v)) H1 → H1.size = H.size → (∀ q, q ≠ a → H1[q]? = H[q]?) → W p l e R s m args below meth c H1 (locs ++ [⟨a, j⟩]) cells slots Q (F0 m (pc + 3) ls rest)) : W p l e R s m args below meth c H locs cells slots Q (F0 m pc ls (v :: .ref a :: rest)) := by
  have hap := va_apart (own := own) hts hin ty0 hty hnm hK hc
  obtain ⟨r, h1, cell, q1, q2, q3, q4⟩ := hat
  have hr : r = (C, T, N) := Option.some.inj (h1.symm.trans hc)
  subst hr
  obtain ⟨hS, hfc, kC, hkC, hkind⟩ := hK.1 ci _ hc
  obtain ⟨cf, kf, fi, f, hi, hsl⟩ := hS k hk
  have hlay := hts _ (hin _ (u_in_lay hk))
  unfold u_lay at hlay
  rw [if_neg (by rw [hfin]; decide)] at hlay
  have hst := (u_facts hfc hkC (u_lays hts hin hk) hi).1
  have h6 := u_store hfc hkC hkind hlay hi hd hn hfit
  refine W.putK hexec hb (f := f) ⟨hown, hlink, ⟨_, _, _, hsame _ hi⟩, hst⟩ (by rw [q2]; exact h6) q1 q3 (by rw [hsl]; exact k2_hasslot (q4 k hk)) rfl rfl hdg fun H' e1 e2 e3 => ?_
  rw [hsl] at e1 ⊢
  exact kk H' _ ⟨_, hc, t_OB.to (V := updV (vp_V fs) k v) ⟨_, e1, q2, q3, t_set q4 hap hk v⟩ (fun j _ => vp_updV_set hl v j)⟩ e2 e3
/-- putfield of a final field, in the constructor -/
theorem sp_putF (hexec : p.tables.exec = Jvm.exec) (hb : c.code = cc) {own ref C : String} {T : u_T} {N ci index : Nat} {Ts : List Cond} (hts : ∀ w ∈ Ts, w.before args s = true) (hin : ∀ w ∈ u_ws C T N, w ∈ Ts) (ty0 : Nat → FieldType) (hty : ∀ k, k < N → parseFieldDescriptor (T k).2.2.1 = some (ty0 k)) (hnm : ∀ a, a < N → ∀ b, b < N → a ≠ b → (T a).2.1 ≠ (T b).2.1) (hown : s.vm.findClass own = some m.cls) (hK : va_K D cl tys s) {fs : List Value} (hat : va_at D cl (a, .inr (ci, fs)) H) (hc : cl[ci]? = some (C, T, N)) (k : Nat) (hk : k < N) (hlink : (Cond.fieldLink own index ref (T k).2.1 (T k).2.2.1).before args s = true) (hsame : ∀ x, s.fieldFound? (T k).1 (T k).2.1 (T k).2.2.1 = some x → s.fieldFound? ref (T k).2.1 (T k).2.2.1 = some x) (hfin : (T k).2.2.2 = true) (hin2 : meth.name = "<init>") (hdecl : (T k).1 = own) {ty : FieldType} {v : Value} (hd : parseFieldDescriptor (T k).2.2.1 = some ty) (hn : narrow ty v = v) (hfit : fits ty v = true) (hl : k < fs.length)
    (hdg : decode cc pc = .ok (.putfield index, 3)) (kk : ∀ (H1 : Heap) (j : Nat), va_at D cl (a, .inr (ci, fs.set k v)) H1 → H1.size = H.size → (∀ q, q ≠ a → H1[q]? = H[q]?) → W p l e R s m args below meth c H1 (locs ++ [⟨a, j⟩]) cells slots Q (F0 m (pc + 3) ls rest)) : W p l e R s m args below meth c H locs cells slots Q (F0 m pc ls (v :: .ref a :: rest)) := by
  have hap := va_apart (own := own) hts hin ty0 hty hnm hK hc
  obtain ⟨r, h1, cell, q1, q2, q3, q4⟩ := hat
  have hr : r = (C, T, N) := Option.some.inj (h1.symm.trans hc)
  subst hr
  obtain ⟨hS, hfc, kC, hkC, hkind⟩ := hK.1 ci _ hc
  obtain ⟨cf, kf, fi, f, hi, hsl⟩ := hS k hk
  have hlay := hts _ (hin _ (u_in_lay hk))
  unfold u_lay at hlay
  rw [if_pos hfin] at hlay
  have hst := (u_facts hfc hkC (u_lays hts hin hk) hi).1
  have hcf : m.cls = cf := by
    obtain ⟨_, _, c', _, _, _, -, -, hf', -, -, -, hown2, -⟩ := Cond.laysFinal_spec hlay
    have e1 : c' = cf := by have := hi.symm.trans hf'; simp at this; exact this.1.symm
    rw [hdecl] at hown2
    rw [← e1]; exact Option.some.inj (hown.symm.trans hown2)
  have h6 := u_fits hfc hkC hkind (Or.inr hlay) hi hd hn hfit
  refine W.putFinK hexec hb hown hlink (hsame _ hi) hst hcf hin2 (by rw [q2]; exact h6) q1 q3 (by rw [hsl]; exact k2_hasslot (q4 k hk)) rfl rfl hdg fun H' e1 e2 e3 => ?_
  rw [hsl] at e1 ⊢
  exact kk H' _ ⟨_, hc, t_OB.to (V := updV (vp_V fs) k v) ⟨_, e1, q2, q3, t_set q4 hap hk v⟩ (fun j _ => vp_updV_set hl v j)⟩ e2 e3

theorem sp_iast (hexec : p.tables.exec = Jvm.exec) (hb : c.code = cc) (hK : va_K D cl tys s) (t0 : Nat) {cA : ClassId} {n : Nat} {f : Nat → Int32} (hat : va_at D cl (a, .inl (cA, n, .inl f)) H) (ht : tys[t0]? = some (cA, .int)) {i : Int32} {x : Int32} (hin : vp_in i n) (hdg : decode cc pc = .ok (.iastore, 1))
    (kk : ∀ (H1 : Heap) (j : Nat), va_at D cl (a, .inl (cA, n, .inl (upd f i.toNatClampNeg x))) H1 → H1.size = H.size → (∀ q, q ≠ a → H1[q]? = H[q]?) → W p l e R s m args below meth c H1 (locs ++ [⟨a, j⟩]) cells slots Q (F0 m (pc + 1) ls rest)) : W p l e R s m args below meth c H locs cells slots Q (F0 m pc ls (.int x :: .int i :: .ref a :: rest)) := by
  refine W.iast hexec hb hat ((hK.2 t0 _ ht).1 n (fun j => .int (f j))) (fun q => by cases q) (by show ¬ (i < 0 ∨ (arrV _ _ _).slots.size ≤ _); rw [arrV_size]; exact hin) rfl rfl hdg fun H1 e z oq => ?_
  refine kk H1 _ ?_ z oq
  show H1[a]? = some (vp_cell _ _)
  rw [e]
  rw [vp_cell_i, vp_cell_i, arrV_store]
  congr 2
  funext q
  by_cases hq : q = i.toNatClampNeg
  · subst hq
    simp [updV, upd]
    try rfl
  · simp [updV, upd, hq]

theorem sp_cast (hexec : p.tables.exec = Jvm.exec) (hb : c.code = cc) (hK : va_K D cl tys s) (t0 : Nat) {cA : ClassId} {n : Nat} {f : Nat → Int32} (hat : va_at D cl (a, .inl (cA, n, .inl f)) H) (ht : tys[t0]? = some (cA, .char)) {i : Int32} {x : Int32} (hin : vp_in i n) (hdg : decode cc pc = .ok (.castore, 1))
    (kk : ∀ (H1 : Heap) (j : Nat), va_at D cl (a, .inl (cA, n, .inl (upd f i.toNatClampNeg (vp_nar .char x)))) H1 → H1.size = H.size → (∀ q, q ≠ a → H1[q]? = H[q]?) → W p l e R s m args below meth c H1 (locs ++ [⟨a, j⟩]) cells slots Q (F0 m (pc + 1) ls rest)) : W p l e R s m args below meth c H locs cells slots Q (F0 m pc ls (.int x :: .int i :: .ref a :: rest)) := by
  refine W.cast hexec hb hat ((hK.2 t0 _ ht).1 n (fun j => .int (f j))) (fun q => by cases q) (by show ¬ (i < 0 ∨ (arrV _ _ _).slots.size ≤ _); rw [arrV_size]; exact hin) rfl rfl hdg fun H1 e z oq => ?_
  refine kk H1 _ ?_ z oq
  show H1[a]? = some (vp_cell _ _)
  rw [e]
  rw [vp_cell_i, vp_cell_i, arrV_store]
  congr 2
  funext q
  by_cases hq : q = i.toNatClampNeg
  · subst hq
    simp [updV, upd, vp_nar]
    try rfl
  · simp [updV, upd, vp_nar, hq]

theorem sp_last (hexec : p.tables.exec = Jvm.exec) (hb : c.code = cc) (hK : va_K D cl tys s) (t0 : Nat) {cA : ClassId} {n : Nat} {f : Nat → Int64} (hat : va_at D cl (a, .inl (cA, n, .inr (.inl f))) H) (ht : tys[t0]? = some (cA, .long)) {i : Int32} {x : Int64} (hin : vp_in i n) (hdg : decode cc pc = .ok (.lastore, 1))
    (kk : ∀ (H1 : Heap) (j : Nat), va_at D cl (a, .inl (cA, n, .inr (.inl (vp_updL f i.toNatClampNeg x)))) H1 → H1.size = H.size → (∀ q, q ≠ a → H1[q]? = H[q]?) → W p l e R s m args below meth c H1 (locs ++ [⟨a, j⟩]) cells slots Q (F0 m (pc + 1) ls rest)) : W p l e R s m args below meth c H locs cells slots Q (F0 m pc ls (.long x :: .int i :: .ref a :: rest)) := by
  refine W.last hexec hb hat ((hK.2 t0 _ ht).1 n (fun j => .long (f j))) (fun q => by cases q) (by show ¬ (i < 0 ∨ (arrV _ _ _).slots.size ≤ _); rw [arrV_size]; exact hin) rfl rfl hdg fun H1 e z oq => ?_
  refine kk H1 _ ?_ z oq
  show H1[a]? = some (vp_cell _ _)
  rw [e]
  rw [vp_cell_l, vp_cell_l, arrV_store]
  congr 2
  funext q
  by_cases hq : q = i.toNatClampNeg
  · subst hq
    simp [updV, vp_updL]
    try rfl
  · simp [updV, vp_updL, hq]

theorem sp_dast (hexec : p.tables.exec = Jvm.exec) (hb : c.code = cc) (hK : va_K D cl tys s) (t0 : Nat) {cA : ClassId} {n : Nat} {f : Nat → UInt64} (hat : va_at D cl (a, .inl (cA, n, .inr (.inr (.inr (.inl f))))) H) (ht : tys[t0]? = some (cA, .double)) {i : Int32} {x : UInt64} (hin : vp_in i n) (hdg : decode cc pc = .ok (.dastore, 1))
    (kk : ∀ (H1 : Heap) (j : Nat), va_at D cl (a, .inl (cA, n, .inr (.inr (.inr (.inl (vf_upd f i.toNatClampNeg x)))))) H1 → H1.size = H.size → (∀ q, q ≠ a → H1[q]? = H[q]?) → W p l e R s m args below meth c H1 (locs ++ [⟨a, j⟩]) cells slots Q (F0 m (pc + 1) ls rest)) : W p l e R s m args below meth c H locs cells slots Q (F0 m pc ls (.double x :: .int i :: .ref a :: rest)) := by
  refine W.dast hexec hb hat ((hK.2 t0 _ ht).1 n (fun j => .double (f j))) (fun q => by cases q) (by show ¬ (i < 0 ∨ (arrV _ _ _).slots.size ≤ _); rw [arrV_size]; exact hin) rfl rfl hdg fun H1 e z oq => ?_
  refine kk H1 _ ?_ z oq
  show H1[a]? = some (vp_cell _ _)
  rw [e]
  rw [vp_cell_d, vp_cell_d, arrV_store]
  congr 2
  funext q
  by_cases hq : q = i.toNatClampNeg
  · subst hq
    simp [updV, vf_upd]
    try rfl
  · simp [updV, vf_upd, hq]

/-- aastore of an object of the array's class -/
theorem sp_aast (hexec : p.tables.exec = Jvm.exec) (hb : c.code = cc) (hK : va_K D cl tys s) (t0 ci : Nat) {cA : ClassId} {r : vw_C} {n v : Nat} {vs : List Value} {f : Nat → Option Nat} (hat : va_at D cl (a, .inl (cA, n, .inr (.inr (.inr (.inr f))))) H) (ht : tys[t0]? = some (cA, .object r.1)) (hv : va_at D cl (v, .inr (ci, vs)) H) (hc : cl[ci]? = some r) {i : Int32} (hin : vp_in i n) (hdg : decode cc pc = .ok (.aastore, 1))
    (kk : ∀ (H1 : Heap) (j : Nat), va_at D cl (a, .inl (cA, n, .inr (.inr (.inr (.inr (va_up f i.toNatClampNeg (some v))))))) H1 → H1.size = H.size → (∀ q, q ≠ a → H1[q]? = H[q]?) → W p l e R s m args below meth c H1 (locs ++ [⟨a, j⟩]) cells slots Q (F0 m (pc + 1) ls rest)) : W p l e R s m args below meth c H locs cells slots Q (F0 m pc ls (.ref v :: .int i :: .ref a :: rest)) := by
  have hlt : i.toNatClampNeg < n := Nat.not_le.mp fun q => hin (Or.inr q)
  have h0 : ¬ i < 0 := fun q => hin (Or.inl q)
  obtain ⟨r', hr', cellV, g1, g2, g3, -⟩ := hv
  have hcls := (hK.1 ci r hc).2
  obtain ⟨kA, comp, k1, k2, k3, -⟩ := (hK.2 t0 _ ht).2
  have hcomp : comp = D.1 ci := Option.some.inj (k3.symm.trans hcls.1)
  subst hcomp
  obtain ⟨kC, hkC, -⟩ := hcls.2
  refine W.aast hexec hb hat (fun q h => by cases h) (fun h => by cases h) k1 k2 rfl hkC ⟨h0, by show _ < (arrV _ _ _).slots.size; rw [arrV_size]; exact hlt⟩ g1 (fun q h => by rw [g3] at h; cases h) (by rw [g2]; exact hkC) (by rw [g2]; exact va_assign hcls) rfl rfl hdg fun H1 e z oq => ?_
  refine kk H1 _ ?_ z oq
  show H1[a]? = some (vp_cell _ _)
  rw [e]
  rw [vp_cell_q, vp_cell_q, arrV_store]
  congr 2
  funext q
  by_cases hq : q = i.toNatClampNeg
  · subst hq
    simp [updV, va_up, va_rf]
  · simp [updV, va_up, hq]
/-- new: the object at the heap's old size -/
theorem sp_new {c0 : Code} (hexec : p.tables.exec = Jvm.exec) (hb : c0.code = cc) {own C : String} {T : u_T} {N ci index : Nat} {Ts : List Cond} (hts : ∀ w ∈ Ts, w.before args s = true) (hin : ∀ w ∈ u_ws C T N, w ∈ Ts) (ty : Nat → FieldType) (hty : ∀ k, k < N → parseFieldDescriptor (T k).2.2.1 = some (ty k)) (hown : s.vm.findClass own = some m.cls) (hcl : (Cond.classLink own index C).before args s = true) (hinst : (Cond.instantiable C N).before args s = true) (hini : (Cond.initialized C).before args s = true)
    (hK : va_K D cl tys s) (hc : cl[ci]? = some (C, T, N)) {fs : List Value} (hfs : ∀ j, j < N → defaultValue (ty j) = vp_V fs j) (hcells : cells + 1 ≤ R.cells) (hslots : slots + N ≤ R.slots) (hdg : decode cc pc = .ok (.new index, 3))
    (kk : ∀ (H1 : Heap), va_at D cl (H.size, .inr (ci, fs)) H1 → H1.size = H.size + 1 → (∀ q, q < H.size → H1[q]? = H[q]?) →
      W p l e R s m args below meth c0 H1 locs (cells + 1) (slots + N) Q (F0 m (pc + 3) ls (.ref H.size :: rest))) : W p l e R s m args below meth c0 H locs cells slots Q (F0 m pc ls rest) := by
  have hKn := hK.1 ci _ hc
  refine W.newcK hexec hb hown hcl hinst hini rfl hdg hcells hslots hKn.2.1 rfl fun H1 kC hkC e1 z1 o1 => ?_
  exact kk H1 ⟨_, hc, (u_born ty hts hin hKn hkC e1 hty).to hfs⟩ z1 o1
/-- a new array of numbers -/
theorem sp_newa (hexec : p.tables.exec = Jvm.exec) (hb : c.code = cc) {atype : ArrayType} (harr : (Cond.arrayClass (newarray.typeOf atype)).before args s = true) {ty : FieldType} (hty : newarray.typeOf atype = ty) (hK : va_K D cl tys s) (t0 : Nat) {cT : ClassId} (ht : tys[t0]? = some (cT, ty)) (hfd : ∀ cA : ClassId, s.vm.findClass ("[" ++ ty.toString) = some cA → cA = cT)
    {n : Int32} {N' : Nat} {a0 : vp_A} (ha : ∀ cA : ClassId, vp_cell cA a0 = arrV cA N' (fun _ => defaultValue ty)) (hn : ¬ n < 0) (hN : n.toNatClampNeg = N') (hbytes : N' * componentBytes ty ≤ 536870912) (hcells : cells + 1 ≤ R.cells) (hslots : slots + N' ≤ R.slots) (hdg : decode cc pc = .ok (.newarray atype, 2))
    (kk : ∀ (H1 : Heap), va_at D cl (H.size, .inl (cT, a0)) H1 → H1.size = H.size + 1 → (∀ q, q < H.size → H1[q]? = H[q]?) →
      W p l e R s m args below meth c H1 locs (cells + 1) (slots + N') Q (F0 m (pc + 2) ls (.ref H.size :: rest))) : W p l e R s m args below meth c H locs cells slots Q (F0 m pc ls (.int n :: rest)) := by
  subst hty
  refine va_newaK hexec hb harr rfl hdg rfl hn hN hbytes hcells hslots rfl fun H1 cA e1 z1 o1 hAr hNm => ?_
  have e9 := hfd cA hNm
  subst e9
  refine kk H1 ?_ z1 o1
  show H1[H.size]? = some (vp_cell _ _)
  rw [ha]
  exact e1
/-! contracts: the heap as it was; or written in place -/
def QR (o : Outcome) : Array Value → State → Outcome → State → Prop := fun _ st oc t => oc = o ∧ t.heap = st.heap
def QM (o : Outcome) (P : Heap → Prop) (own : Nat → Prop) : Array Value → State → Outcome → State → Prop := fun _ st oc t => oc = o ∧ P t.heap ∧ t.heap.size = st.heap.size ∧ ∀ q, ¬ own q → t.heap[q]? = st.heap[q]?
theorem cr_ro {v : List Value} {ov : Option Value} {a0 : Array Value} (hv : ov.toList = v) (hr : va_Run p l e R s m args below meth c H locs cells slots 0 0 (F0 m pc ls st0) rest (QR (.returned ov) a0) (fun _ => False))
    (kk : W p l e R s m args below meth c H locs cells slots Q (F0 m (pc + 3) ls (v ++ rest))) : W p l e R s m args below meth c H locs cells slots Q (F0 m pc ls st0) := by
  intro T hT X
  obtain ⟨v1, st₀, t, T', L, h0, X', hL, e1, e2, ⟨hq, hh⟩, st⟩ := hr T hT X
  cases hq
  have hL0 : L = [] := by
    cases L with
    | nil => rfl
    | cons z r => exact (hL z List.mem_cons_self).elim
  subst hL0
  rw [List.append_nil] at X'
  obtain ⟨t2, a1, b1⟩ := kk T' (by rw [e1, hh, h0]) X'
  subst hv
  exact ⟨t2, st t2 a1, b1⟩
theorem cr_mu {lo : Nat} {v : List Value} {ov : Option Value} {a0 : Array Value} {P : Heap → Prop} {own : Nat → Prop} {mc ms : Nat} (hv : ov.toList = v) (hr : va_Run p l e R s m args below meth c H locs cells slots mc ms (F0 m pc ls st0) rest (QM (.returned ov) P own a0) (fun q => lo ≤ q)) (hl : ∀ z ∈ locs, lo ≤ z.base)
    (kk : ∀ (H1 : Heap) (locs1 : List Loc), P H1 → H1.size = H.size → (∀ q, ¬ own q → H1[q]? = H[q]?) → (∀ z ∈ locs1, lo ≤ z.base) → W p l e R s m args below meth c H1 locs1 (cells + mc) (slots + ms) Q (F0 m (pc + 3) ls (v ++ rest))) : W p l e R s m args below meth c H locs cells slots Q (F0 m pc ls st0) := by
  intro T hT X
  obtain ⟨v1, st₀, t, T', L, h0, X', hL, e1, e2, ⟨hq, hP, hz, hh⟩, st⟩ := hr T hT X
  cases hq
  obtain ⟨t2, a1, b1⟩ := kk T'.heap (locs ++ L) (by rw [e1]; exact hP) (by rw [e1, hz, h0]) (fun q h => by rw [e1, hh q h, h0]) (fun z hz => (List.mem_append.mp hz).elim (hl z) (hL z)) T' rfl X'
  subst hv
  exact ⟨t2, st t2 a1, b1⟩
/-- a branch on a written truth value -/
theorem br_if_eq {c9 : Prop} [Decidable c9] (hexec : p.tables.exec = Jvm.exec) (hb : c.code = cc) {off : Int} {tgt : Nat} (hdg : decode cc pc = .ok (.ifCond .eq off, 3)) (ht : (pc : Int) + off = (tgt : Int))
    (k1 : ¬ c9 → W p l e R s m args below meth c H locs cells slots Q (F0 m tgt ls rest)) (k2 : c9 → W p l e R s m args below meth c H locs cells slots Q (F0 m (pc + 3) ls rest)) : W p l e R s m args below meth c H locs cells slots Q (F0 m pc ls (.int (if c9 then 1 else 0) :: rest)) := by
  refine lv_if_eq hexec hb hdg ht (fun h => ?_) (fun h => ?_)
  · exact k1 (fun hc => by rw [if_pos hc] at h; exact absurd h (by decide))
  · exact k2 (Decidable.byContradiction fun hc => h (by rw [if_neg hc]))
theorem br_if_ne {c9 : Prop} [Decidable c9] (hexec : p.tables.exec = Jvm.exec) (hb : c.code = cc) {off : Int} {tgt : Nat} (hdg : decode cc pc = .ok (.ifCond .ne off, 3)) (ht : (pc : Int) + off = (tgt : Int))
    (k1 : c9 → W p l e R s m args below meth c H locs cells slots Q (F0 m tgt ls rest)) (k2 : ¬ c9 → W p l e R s m args below meth c H locs cells slots Q (F0 m (pc + 3) ls rest)) : W p l e R s m args below meth c H locs cells slots Q (F0 m pc ls (.int (if c9 then 1 else 0) :: rest)) := by
  refine lv_if_ne hexec hb hdg ht (fun h => ?_) (fun h => ?_)
  · exact k1 (Decidable.byContradiction fun hc => h (by rw [if_neg hc]))
  · exact k2 (fun hc => by rw [if_pos hc] at h; exact absurd h (by decide))
end BASE

/-! the environment: classes and array classes, by place -/
abbrev EG : Type := va_G × (Nat → ClassId)
abbrev tyL (cy : Nat → ClassId) : List (ClassId × FieldType) := [(cy 0, .char), (cy 1, .int), (cy 2, .long), (cy 3, .object RX0), (cy 4, .object RX1), (cy 5, .object RX3), (cy 6, .object RX5), (cy 7, .double)]
abbrev KK (g : EG) (U : State) : Prop := va_K g.1 vwCl (tyL g.2) U
/-! the abstract state: rows of ints by the reference's field number (0 thrown, 1 recipes, 2 orders, 3 lots, 4 vats: at 0), and the grams used -/
abbrev Sg : Type := Nat → Nat → Int32
abbrev ti (x : Int32) : Nat := x.toNatClampNeg
def up (σ : Sg) (k i : Nat) (x : Int32) : Sg := fun k' => if k' = k then upd (σ k) i x else σ k'
theorem up_same (σ : Sg) (k i : Nat) (x : Int32) : up σ k i x k = upd (σ k) i x := by simp [up]
theorem up_ne (σ : Sg) {k k' : Nat} (i : Nat) (x : Int32) (h : k' ≠ k) : up σ k i x k' = σ k' := by simp [up, h]
theorem up_up (σ : Sg) (k i : Nat) (x y : Int32) : up (up σ k i x) k i y = up σ k i y := by
  funext k' j
  by_cases h : k' = k
  · subst h
    by_cases hj : j = i <;> simp [up, upd, hj]
  · simp [up, h]
theorem up_id (σ : Sg) (k i : Nat) {x : Int32} (h : σ k i = x) : up σ k i x = σ := by
  funext k' j
  by_cases hk : k' = k
  · subst hk
    by_cases hj : j = i
    · subst hj; simp [up, upd, h]
    · simp [up, upd, hj]
  · simp [up, hk]
theorem up_swap (σ : Sg) {k k2 : Nat} (i i2 : Nat) (x y : Int32) (h : k ≠ k2) : up (up σ k i x) k2 i2 y = up (up σ k2 i2 y) k i x := by
  funext k' j
  by_cases h1 : k' = k <;> by_cases h2 : k' = k2
  · exact absurd (h1.symm.trans h2) h
  · subst h1; simp [up, h2]
  · subst h2; simp [up, h1]
  · simp [up, h1, h2]

/-! the reference's object and rows: cell 0 the object, cell k the row of field k -/
abbrev mobj (ma : Nat → Nat) (σ : Sg) : List Value := [.int (σ 0 0), .int (σ 1 0), .int (σ 2 0), .int (σ 3 0), .int (σ 4 0), .ref (ma 5), .ref (ma 6), .ref (ma 7), .ref (ma 8), .ref (ma 9), .ref (ma 10), .ref (ma 11), .ref (ma 12), .ref (ma 13), .ref (ma 14), .ref (ma 15), .ref (ma 16), .ref (ma 17), .ref (ma 18), .ref (ma 19), .ref (ma 20), .ref (ma 21), .ref (ma 22), .ref (ma 23), .ref (ma 24), .ref (ma 25), .ref (ma 26), .ref (ma 27), .ref (ma 28)]
def mlen : Nat → Nat := fun k => match k with
  | 5 => 24 | 6 => 24 | 7 => 3 | 9 => 6 | 10 => 6 | 11 => 6 | 12 => 6 | 13 => 6 | 14 => 24 | 15 => 24 | 16 => 72 | 17 => 24 | 18 => 24 | 19 => 24 | 20 => 24 | 22 => 4 | 23 => 4 | 24 => 4 | 25 => 4 | 26 => 4 | 27 => 6 | 28 => 1
  | _ => 0
def mki (k : Nat) : Prop := (k < 29 ∧ 5 ≤ k) ∧ (k ≠ 8 ∧ k ≠ 21)
def mk9 (k : Nat) : Prop := k = 0 ∨ (5 ≤ k ∧ k < 29)
def MA (lo : Nat) (ma : Nat → Nat) : Prop := (∀ i j, mk9 i → mk9 j → ma i = ma j → i = j) ∧ ∀ k, mk9 k → lo ≤ ma k
def mown (ma : Nat → Nat) (q : Nat) : Prop := ∃ k, mk9 k ∧ q = ma k
def MR (g : EG) (ma : Nat → Nat) (σ : Sg) (u : Nat → Int64) (H : Heap) : Prop :=
  va_at g.1 vwCl (ma 0, .inr (9, mobj ma σ)) H ∧ (∀ k, mki k → va_at g.1 vwCl (ma k, .inl (g.2 1, mlen k, .inl (σ k))) H) ∧
  va_at g.1 vwCl (ma 21, .inl (g.2 0, 24, .inl (σ 21))) H ∧ va_at g.1 vwCl (ma 8, .inl (g.2 2, 3, .inr (.inl u))) H
/-- the reference now, and what has changed since the heap H0 -/
def MS (g : EG) (lo : Nat) (ma : Nat → Nat) (σ : Sg) (u : Nat → Int64) (H0 H : Heap) (locs : List Loc) : Prop :=
  MR g ma σ u H ∧ H.size = H0.size ∧ (∀ q, ¬ mown ma q → H[q]? = H0[q]?) ∧ ∀ z ∈ locs, lo ≤ z.base
theorem MS.start {g : EG} {lo : Nat} {ma : Nat → Nat} {σ : Sg} {u : Nat → Int64} {H : Heap} (h : MR g ma σ u H) : MS g lo ma σ u H H [] := ⟨h, rfl, fun _ _ => rfl, fun _ h => nomatch h⟩
theorem MS.cg {g : EG} {lo : Nat} {ma : Nat → Nat} {σ σ' : Sg} {u : Nat → Int64} {H0 H : Heap} {locs : List Loc} (h : MS g lo ma σ u H0 H locs) (e : σ = σ') : MS g lo ma σ' u H0 H locs := e ▸ h
theorem mk9_of {k : Nat} (h : mki k) : mk9 k := Or.inr ⟨h.1.2, h.1.1⟩
theorem MS.obj {g : EG} {lo : Nat} {ma : Nat → Nat} {σ : Sg} {u : Nat → Int64} {H0 H H1 : Heap} {locs : List Loc} (hA : MA lo ma) (h : MS g lo ma σ u H0 H locs) (k j : Nat) (hk : k < 5) (x : Int32) (hat : va_at g.1 vwCl (ma 0, .inr (9, (mobj ma σ).set k (.int x))) H1) (hz : H1.size = H.size) (oq : ∀ q, q ≠ ma 0 → H1[q]? = H[q]?) : MS g lo ma (up σ k 0 x) u H0 H1 (locs ++ [⟨ma 0, j⟩]) := by
  obtain ⟨⟨h1, h2, h3, h4⟩, h5, h6, h7⟩ := h
  have e0 : (mobj ma σ).set k (.int x) = mobj ma (up σ k 0 x) := by
    rcases (show k = 0 ∨ k = 1 ∨ k = 2 ∨ k = 3 ∨ k = 4 by omega) with rfl | rfl | rfl | rfl | rfl <;> rfl
  have hne : ∀ k', 5 ≤ k' → up σ k 0 x k' = σ k' := fun k' hk' => up_ne σ 0 x (by omega)
  have hap : ∀ k', 5 ≤ k' → k' < 29 → ma k' ≠ ma 0 := fun k' h1 h2 h3 => by have := hA.1 k' 0 (Or.inr ⟨h1, h2⟩) (Or.inl rfl) h3; omega
  refine ⟨⟨by rw [← e0]; exact hat, fun k' hk' => ?_, ?_, ?_⟩, hz.trans h5, fun q hq => ?_, fun z hz' => ?_⟩
  · rw [hne k' hk'.1.2]; exact (h2 k' hk').kept (oq _ (hap k' hk'.1.2 hk'.1.1))
  · rw [hne 21 (by omega)]; exact h3.kept (oq _ (hap 21 (by omega) (by omega)))
  · exact h4.kept (oq _ (hap 8 (by omega) (by omega)))
  · rw [oq q (fun e => hq ⟨0, Or.inl rfl, e⟩)]; exact h6 q hq
  · rcases List.mem_append.mp hz' with h | h
    · exact h7 z h
    · rw [List.mem_singleton.mp h]; exact hA.2 0 (Or.inl rfl)
theorem MS.row {g : EG} {lo : Nat} {ma : Nat → Nat} {σ : Sg} {u : Nat → Int64} {H0 H H1 : Heap} {locs : List Loc} (hA : MA lo ma) (h : MS g lo ma σ u H0 H locs) (k i j : Nat) (hk : mki k) (x : Int32) (hat : va_at g.1 vwCl (ma k, .inl (g.2 1, mlen k, .inl (upd (σ k) i x))) H1) (hz : H1.size = H.size) (oq : ∀ q, q ≠ ma k → H1[q]? = H[q]?) : MS g lo ma (up σ k i x) u H0 H1 (locs ++ [⟨ma k, j⟩]) := by
  obtain ⟨⟨h1, h2, h3, h4⟩, h5, h6, h7⟩ := h
  have hne : ∀ k', k' ≠ k → up σ k i x k' = σ k' := fun k' hk' => up_ne σ i x hk'
  have hap : ∀ k', mk9 k' → k' ≠ k → ma k' ≠ ma k := fun k' h1 h2 h3 => h2 (hA.1 k' k h1 (mk9_of hk) h3)
  have e0 : mobj ma (up σ k i x) = mobj ma σ := by
    simp only [mobj]
    have := hk.1.2
    rw [hne 0 (by omega), hne 1 (by omega), hne 2 (by omega), hne 3 (by omega), hne 4 (by omega)]
  refine ⟨⟨?_, fun k' hk' => ?_, ?_, ?_⟩, hz.trans h5, fun q hq => ?_, fun z hz' => ?_⟩
  · rw [e0]; exact h1.kept (oq _ (hap 0 (Or.inl rfl) (by have := hk.1.2; omega)))
  · by_cases hkk : k' = k
    · subst hkk; rw [up_same]; exact hat
    · rw [hne k' hkk]; exact (h2 k' hk').kept (oq _ (hap k' (mk9_of hk') hkk))
  · rw [hne 21 (fun e => hk.2.2 e.symm)]; exact h3.kept (oq _ (hap 21 (Or.inr (by omega)) (fun e => hk.2.2 e.symm)))
  · exact h4.kept (oq _ (hap 8 (Or.inr (by omega)) (fun e => hk.2.1 e.symm)))
  · rw [oq q (fun e => hq ⟨k, mk9_of hk, e⟩)]; exact h6 q hq
  · rcases List.mem_append.mp hz' with h | h
    · exact h7 z h
    · rw [List.mem_singleton.mp h]; exact hA.2 k (mk9_of hk)
theorem MS.row21 {g : EG} {lo : Nat} {ma : Nat → Nat} {σ : Sg} {u : Nat → Int64} {H0 H H1 : Heap} {locs : List Loc} (hA : MA lo ma) (h : MS g lo ma σ u H0 H locs) (i j : Nat) (x : Int32) (hat : va_at g.1 vwCl (ma 21, .inl (g.2 0, 24, .inl (upd (σ 21) i x))) H1) (hz : H1.size = H.size) (oq : ∀ q, q ≠ ma 21 → H1[q]? = H[q]?) : MS g lo ma (up σ 21 i x) u H0 H1 (locs ++ [⟨ma 21, j⟩]) := by
  obtain ⟨⟨h1, h2, h3, h4⟩, h5, h6, h7⟩ := h
  have hne : ∀ k', k' ≠ 21 → up σ 21 i x k' = σ k' := fun k' hk' => up_ne σ i x hk'
  have h21 : mk9 21 := Or.inr (by omega)
  have hap : ∀ k', mk9 k' → k' ≠ 21 → ma k' ≠ ma 21 := fun k' h1 h2 h3 => h2 (hA.1 k' 21 h1 h21 h3)
  refine ⟨⟨?_, fun k' hk' => ?_, ?_, ?_⟩, hz.trans h5, fun q hq => ?_, fun z hz' => ?_⟩
  · exact h1.kept (oq _ (hap 0 (Or.inl rfl) (by omega)))
  · rw [hne k' hk'.2.2]; exact (h2 k' hk').kept (oq _ (hap k' (mk9_of hk') hk'.2.2))
  · rw [up_same]; exact hat
  · exact h4.kept (oq _ (hap 8 (Or.inr (by omega)) (by omega)))
  · rw [oq q (fun e => hq ⟨21, h21, e⟩)]; exact h6 q hq
  · rcases List.mem_append.mp hz' with h | h
    · exact h7 z h
    · rw [List.mem_singleton.mp h]; exact hA.2 21 h21
theorem MS.row8 {g : EG} {lo : Nat} {ma : Nat → Nat} {σ : Sg} {u u' : Nat → Int64} {H0 H H1 : Heap} {locs : List Loc} (hA : MA lo ma) (h : MS g lo ma σ u H0 H locs) (j : Nat) (hat : va_at g.1 vwCl (ma 8, .inl (g.2 2, 3, .inr (.inl u'))) H1) (hz : H1.size = H.size) (oq : ∀ q, q ≠ ma 8 → H1[q]? = H[q]?) : MS g lo ma σ u' H0 H1 (locs ++ [⟨ma 8, j⟩]) := by
  obtain ⟨⟨h1, h2, h3, h4⟩, h5, h6, h7⟩ := h
  have h21 : mk9 8 := Or.inr (by omega)
  have hap : ∀ k', mk9 k' → k' ≠ 8 → ma k' ≠ ma 8 := fun k' h1 h2 h3 => h2 (hA.1 k' 8 h1 h21 h3)
  refine ⟨⟨?_, fun k' hk' => ?_, ?_, ?_⟩, hz.trans h5, fun q hq => ?_, fun z hz' => ?_⟩
  · exact h1.kept (oq _ (hap 0 (Or.inl rfl) (by omega)))
  · exact (h2 k' hk').kept (oq _ (hap k' (mk9_of hk') hk'.2.1))
  · exact h3.kept (oq _ (hap 21 (Or.inr (by omega)) (by omega)))
  · exact hat
  · rw [oq q (fun e => hq ⟨8, h21, e⟩)]; exact h6 q hq
  · rcases List.mem_append.mp hz' with h | h
    · exact h7 z h
    · rw [List.mem_singleton.mp h]; exact hA.2 8 h21
section MROWS
variable {p : Program} {l : Launch} {e : Env} {R : Room} {s : State} {m : MethodId} {args : Array Value} {below : List Frame} {meth : Method} {c : Code} {H H0 : Heap} {locs : List Loc} {cells slots : Nat} {Q : State → Prop}
variable {cc : ByteArray} {pc : Nat} {ls : Array Slot} {rest st0 : List Value} {g : EG} {lo : Nat} {ma : Nat → Nat} {σ : Sg} {u : Nat → Int64} {Ts : List Cond}
theorem m_get (hexec : p.tables.exec = Jvm.exec) (hb : c.code = cc) (hts : ∀ w ∈ Ts, w.before args s = true) (hin : ∀ w ∈ wsX70, w ∈ Ts) (hown : s.vm.findClass RX7 = some m.cls) (hK : KK g s) (hM : MS g lo ma σ u H0 H locs) (k : Nat) {index : Nat} (hk : k < 29) (hlink : (Cond.fieldLink RX7 index RX7 (TX7 k).2.1 (TX7 k).2.2.1).before args s = true) {v : Value} (hv : (mobj ma σ)[k]? = some v) (hdg : decode cc pc = .ok (.getfield index, 3))
    (kk : W p l e R s m args below meth c H locs cells slots Q (F0 m (pc + 3) ls (v :: rest))) : W p l e R s m args below meth c H locs cells slots Q (F0 m pc ls (.ref (ma 0) :: rest)) :=
  va_get (ref := RX7) (C := RX7) (T := TX7) (N := 29) (ci := 9) hexec hb hts hin hown hK (sp_one hM.1.1) 0 rfl rfl k hk hlink (fun x h => by
    have e : (TX7 k).1 = RX7 := by
      have : ∀ k, (TX7 k).1 = RX7 := by intro k; unfold TX7; split <;> rfl
      exact this k
    rw [e] at h; exact h) hv hdg kk
theorem m_put (hexec : p.tables.exec = Jvm.exec) (hb : c.code = cc) (hA : MA lo ma) (hts : ∀ w ∈ Ts, w.before args s = true) (hin : ∀ w ∈ wsX70, w ∈ Ts) (hown : s.vm.findClass RX7 = some m.cls) (hK : KK g s) (hM : MS g lo ma σ u H0 H locs) (k : Nat) {index : Nat} (hk : k < 5) (hlink : (Cond.fieldLink RX7 index RX7 (TX7 k).2.1 (TX7 k).2.2.1).before args s = true) {x : Int32} (hdg : decode cc pc = .ok (.putfield index, 3))
    (kk : ∀ (H1 : Heap) (locs1 : List Loc), MS g lo ma (up σ k 0 x) u H0 H1 locs1 → W p l e R s m args below meth c H1 locs1 cells slots Q (F0 m (pc + 3) ls rest)) : W p l e R s m args below meth c H locs cells slots Q (F0 m pc ls (.int x :: .ref (ma 0) :: rest)) := by
  have hfin : (TX7 k).2.2.2 = false := by rcases (show k = 0 ∨ k = 1 ∨ k = 2 ∨ k = 3 ∨ k = 4 by omega) with rfl | rfl | rfl | rfl | rfl <;> rfl
  have hd : parseFieldDescriptor (TX7 k).2.2.1 = some .int := by rcases (show k = 0 ∨ k = 1 ∨ k = 2 ∨ k = 3 ∨ k = 4 by omega) with rfl | rfl | rfl | rfl | rfl <;> decide +kernel
  have hsm : (TX7 k).1 = RX7 := by rcases (show k = 0 ∨ k = 1 ∨ k = 2 ∨ k = 3 ∨ k = 4 by omega) with rfl | rfl | rfl | rfl | rfl <;> rfl
  refine sp_put (ref := RX7) (C := RX7) (T := TX7) (N := 29) (ci := 9) (ty := .int) (v := .int x) hexec hb hts hin tyX7 tyX7_ok nmX7 hown hK hM.1.1 rfl k (by omega) hlink (fun x h => by rw [hsm] at h; exact h) hfin hd rfl rfl (by show k < 29; omega) hdg (fun H1 j h1 h2 h3 => ?_)
  exact kk H1 _ (hM.obj hA k j hk x h1 h2 h3)
theorem m_iald (hexec : p.tables.exec = Jvm.exec) (hb : c.code = cc) (hK : KK g s) (hM : MS g lo ma σ u H0 H locs) (k : Nat) (hk : mki k) {n : Nat} (hn : mlen k = n) {i x : Int32} (hin : vp_in i n) (hx : σ k (ti i) = x) (hdg : decode cc pc = .ok (.iaload, 1))
    (kk : W p l e R s m args below meth c H locs cells slots Q (F0 m (pc + 1) ls (.int x :: rest))) : W p l e R s m args below meth c H locs cells slots Q (F0 m pc ls (.int i :: .ref (ma k) :: rest)) := by
  subst hn; subst hx
  exact va_iald hexec hb hK (sp_one (hM.1.2.1 k hk)) 0 1 rfl rfl hin hdg kk
theorem m_cald (hexec : p.tables.exec = Jvm.exec) (hb : c.code = cc) (hK : KK g s) (hM : MS g lo ma σ u H0 H locs) {i x : Int32} (hin : vp_in i 24) (hx : σ 21 (ti i) = x) (hdg : decode cc pc = .ok (.caload, 1))
    (kk : W p l e R s m args below meth c H locs cells slots Q (F0 m (pc + 1) ls (.int x :: rest))) : W p l e R s m args below meth c H locs cells slots Q (F0 m pc ls (.int i :: .ref (ma 21) :: rest)) := by
  subst hx
  exact va_cald hexec hb hK (sp_one hM.1.2.2.1) 0 0 rfl rfl hin hdg kk
theorem m_lald (hexec : p.tables.exec = Jvm.exec) (hb : c.code = cc) (hK : KK g s) (hM : MS g lo ma σ u H0 H locs) {i : Int32} {x : Int64} (hin : vp_in i 3) (hx : u (ti i) = x) (hdg : decode cc pc = .ok (.laload, 1))
    (kk : W p l e R s m args below meth c H locs cells slots Q (F0 m (pc + 1) ls (.long x :: rest))) : W p l e R s m args below meth c H locs cells slots Q (F0 m pc ls (.int i :: .ref (ma 8) :: rest)) := by
  subst hx
  exact va_lald hexec hb hK (sp_one hM.1.2.2.2) 0 2 rfl rfl hin hdg kk
theorem m_iast (hexec : p.tables.exec = Jvm.exec) (hb : c.code = cc) (hA : MA lo ma) (hK : KK g s) (hM : MS g lo ma σ u H0 H locs) (k : Nat) (hk : mki k) {n : Nat} (hn : mlen k = n) {i x : Int32} (hin : vp_in i n) (hdg : decode cc pc = .ok (.iastore, 1))
    (kk : ∀ (H1 : Heap) (locs1 : List Loc), MS g lo ma (up σ k (ti i) x) u H0 H1 locs1 → W p l e R s m args below meth c H1 locs1 cells slots Q (F0 m (pc + 1) ls rest)) : W p l e R s m args below meth c H locs cells slots Q (F0 m pc ls (.int x :: .int i :: .ref (ma k) :: rest)) := by
  subst hn
  exact sp_iast hexec hb hK 1 (hM.1.2.1 k hk) rfl hin hdg (fun H1 j h1 h2 h3 => kk H1 _ (hM.row hA k _ j hk x h1 h2 h3))
theorem m_cast (hexec : p.tables.exec = Jvm.exec) (hb : c.code = cc) (hA : MA lo ma) (hK : KK g s) (hM : MS g lo ma σ u H0 H locs) {i x : Int32} (hx : vp_nar .char x = x) (hin : vp_in i 24) (hdg : decode cc pc = .ok (.castore, 1))
    (kk : ∀ (H1 : Heap) (locs1 : List Loc), MS g lo ma (up σ 21 (ti i) x) u H0 H1 locs1 → W p l e R s m args below meth c H1 locs1 cells slots Q (F0 m (pc + 1) ls rest)) : W p l e R s m args below meth c H locs cells slots Q (F0 m pc ls (.int x :: .int i :: .ref (ma 21) :: rest)) :=
  sp_cast hexec hb hK 0 hM.1.2.2.1 rfl hin hdg (fun H1 j h1 h2 h3 => kk H1 _ (hM.row21 hA _ j x (by rw [hx] at h1; exact h1) h2 h3))
theorem m_last (hexec : p.tables.exec = Jvm.exec) (hb : c.code = cc) (hA : MA lo ma) (hK : KK g s) (hM : MS g lo ma σ u H0 H locs) {i : Int32} {x : Int64} (hin : vp_in i 3) (hdg : decode cc pc = .ok (.lastore, 1))
    (kk : ∀ (H1 : Heap) (locs1 : List Loc), MS g lo ma σ (vp_updL u (ti i) x) H0 H1 locs1 → W p l e R s m args below meth c H1 locs1 cells slots Q (F0 m (pc + 1) ls rest)) : W p l e R s m args below meth c H locs cells slots Q (F0 m pc ls (.long x :: .int i :: .ref (ma 8) :: rest)) :=
  sp_last hexec hb hK 2 hM.1.2.2.2 rfl hin hdg (fun H1 j h1 h2 h3 => kk H1 _ (hM.row8 hA j h1 h2 h3))
theorem mc_ro {y : MethodName} {bytes : ByteArray} {maxL nL index n : Nat} {ret : Option FieldType} {ws ws' : List Cond} {rm : Room} {As v : List Value} {ov : Option Value} (S : CallFix p m c cc nL s args Ts RX7) (hK : KK g s) (hM : MS g lo ma σ u H0 H locs)
    (hc : Met l y ws rm (va_Pc (.ref (ma 0) :: As) (fun U => MR g ma σ u U.heap ∧ KK g U)) (QR (.returned ov)) 0 0 (fun _ => False)) (hG : GoodIn Ts (wsV RX7 index RX7 y ws)) (hw : ws = Cond.code y bytes maxL ret :: ws') (hrc : rm.cells = 0) (hrs : rm.slots = 0)
    (hd : y.cls = RX7 ∧ y.cls ≠ "java/lang/invoke/MethodHandle" ∧ y.cls ≠ "java/lang/invoke/VarHandle" ∧ (parseMethodDescriptor y.desc).map (fun d => d.parameters.length) = some n) (hR : rm.frames + 1 ≤ R.frames ∧ 8 + (maxL + 11) + rm.locals ≤ R.locals)
    (hn : As.length = n) (hsize : ls.size = nL) (hst : st0 = As.reverse ++ .ref (ma 0) :: rest) (hcat : (rest.map fun v => v.category).sum ≤ 8) (hdg : decode cc pc = .ok (.invokevirtual index, 3)) (hf : cells ≤ R.cells ∧ slots ≤ R.slots) (hov : ov.toList = v)
    (kk : W p l e R s m args below meth c H locs cells slots Q (F0 m (pc + 3) ls (v ++ rest))) : W p l e R s m args below meth c H locs cells slots Q (F0 m pc ls st0) := by
  subst hst
  exact cr_ro hov (va_runV (As := As) (rest := rest) S hc (cwV n S.2.2.2.2 hG hw hrc hrs hd hR) ⟨fun a U g9 mk q => by obtain ⟨q0, q1, q2⟩ := q; exact ⟨q0, q1, va_K.moved (u := U) (U := U.calling g9 mk a) (Vm.Alike.refl U.vm) q2⟩, va_recv hK (sp_one hM.1.1) (ci := 9) (q0 := 0) rfl rfl, fun U hU hW => ⟨rfl, by rw [hU]; exact hM.1, va_K.moved hW.alike hK⟩⟩ rfl hn hsize rfl (lv_room hcat) hdg hf) kk
theorem mc_mu {σ' : Sg} {u' : Nat → Int64} {y : MethodName} {bytes : ByteArray} {maxL nL index n : Nat} {ret : Option FieldType} {ws ws' : List Cond} {rm : Room} {As v : List Value} {ov : Option Value} (S : CallFix p m c cc nL s args Ts RX7) (hK : KK g s) (hM : MS g lo ma σ u H0 H locs)
    (hc : Met l y ws rm (va_Pc (.ref (ma 0) :: As) (fun U => MR g ma σ u U.heap ∧ KK g U)) (QM (.returned ov) (fun H1 => MR g ma σ' u' H1) (mown ma)) 0 0 (fun q => lo ≤ q)) (hG : GoodIn Ts (wsV RX7 index RX7 y ws)) (hw : ws = Cond.code y bytes maxL ret :: ws') (hrc : rm.cells = 0) (hrs : rm.slots = 0)
    (hd : y.cls = RX7 ∧ y.cls ≠ "java/lang/invoke/MethodHandle" ∧ y.cls ≠ "java/lang/invoke/VarHandle" ∧ (parseMethodDescriptor y.desc).map (fun d => d.parameters.length) = some n) (hR : rm.frames + 1 ≤ R.frames ∧ 8 + (maxL + 11) + rm.locals ≤ R.locals)
    (hn : As.length = n) (hsize : ls.size = nL) (hst : st0 = As.reverse ++ .ref (ma 0) :: rest) (hcat : (rest.map fun v => v.category).sum ≤ 8) (hdg : decode cc pc = .ok (.invokevirtual index, 3)) (hf : cells ≤ R.cells ∧ slots ≤ R.slots) (hov : ov.toList = v)
    (kk : ∀ (H1 : Heap) (locs1 : List Loc), MS g lo ma σ' u' H0 H1 locs1 → W p l e R s m args below meth c H1 locs1 cells slots Q (F0 m (pc + 3) ls (v ++ rest))) : W p l e R s m args below meth c H locs cells slots Q (F0 m pc ls st0) := by
  subst hst
  exact cr_mu hov (va_runV (As := As) (rest := rest) S hc (cwV n S.2.2.2.2 hG hw hrc hrs hd hR) ⟨fun a U g9 mk q => by obtain ⟨q0, q1, q2⟩ := q; exact ⟨q0, q1, va_K.moved (u := U) (U := U.calling g9 mk a) (Vm.Alike.refl U.vm) q2⟩, va_recv hK (sp_one hM.1.1) (ci := 9) (q0 := 0) rfl rfl, fun U hU hW => ⟨rfl, by rw [hU]; exact hM.1, va_K.moved hW.alike hK⟩⟩ rfl hn hsize rfl (lv_room hcat) hdg hf) hM.2.2.2
    (fun H1 locs1 h1 h2 h3 h4 => kk H1 locs1 ⟨h1, h2.trans hM.2.1, fun q hq => (h3 q hq).trans (hM.2.2.1 q hq), h4⟩)
theorem sc_ro {y : MethodName} {own : String} {bytes : ByteArray} {maxL nL index n : Nat} {ret : Option FieldType} {ws ws' : List Cond} {rm : Room} {As v : List Value} {ov : Option Value} (S : CallFix p m c cc nL s args Ts own)
    (hc : Met l y ws rm (va_Pc As (fun _ => True)) (QR (.returned ov)) 0 0 (fun _ => False)) (hG : GoodIn Ts (va_wsS own index y ws)) (hw : ws = Cond.code y bytes maxL ret :: ws') (hrc : rm.cells = 0) (hrs : rm.slots = 0)
    (hd : y.cls ≠ "java/lang/invoke/MethodHandle" ∧ y.cls ≠ "java/lang/invoke/VarHandle" ∧ (parseMethodDescriptor y.desc).map (fun d => d.parameters.length) = some n) (hR : rm.frames + 1 ≤ R.frames ∧ 8 + (maxL + 11) + rm.locals ≤ R.locals)
    (hn : As.length = n) (hsize : ls.size = nL) (hst : st0 = As.reverse ++ rest) (hcat : (rest.map fun v => v.category).sum ≤ 8) (hdg : decode cc pc = .ok (.invokestatic index, 3)) (hf : cells ≤ R.cells ∧ slots ≤ R.slots) (hov : ov.toList = v)
    (kk : W p l e R s m args below meth c H locs cells slots Q (F0 m (pc + 3) ls (v ++ rest))) : W p l e R s m args below meth c H locs cells slots Q (F0 m pc ls st0) := by
  subst hst
  exact cr_ro hov (va_runS (As := As) (rest := rest) S hc (va_cwS n S.2.2.2.2 hG hw hrc hrs hd hR) ⟨fun a U g9 mk q => q, fun U hU hW => ⟨rfl, trivial⟩⟩ rfl hn hsize rfl (lv_room hcat) hdg hf) kk
end MROWS
end
