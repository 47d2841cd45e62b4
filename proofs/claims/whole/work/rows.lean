section
-- ===== PART A: goes FIRST, ahead of the names: the tables' words, and 'selects' of the private methods out of them =====
/-- a private method of a class that the tables say can be made, by its rows of tables_1 -/
def lw_okq (q : MethodName × Nat) : Prop := (q.1.cls ≠ "java/lang/invoke/MethodHandle" ∧ q.1.cls ≠ "java/lang/invoke/VarHandle") ∧ Cond.instantiable q.1.cls q.2 ∈ tables_1 ∧ Cond.privateMethod q.1 ∈ tables_1 ∧ Cond.instanceMethod q.1 ∈ tables_1
theorem lw_p0 : lw_okq (⟨"StockYard", "refuse", "(I)I"⟩, 10) := ⟨⟨by decide +kernel, by decide +kernel⟩, List.mem_of_getElem? (i := 28) (by decide +kernel), List.mem_of_getElem? (i := 276) (by decide +kernel), List.mem_of_getElem? (i := 277) (by decide +kernel)⟩
theorem lw_p1 : lw_okq (⟨"java/util/ArrayList", "add", "(Ljava/lang/Object;[Ljava/lang/Object;I)V"⟩, 3) := ⟨⟨by decide +kernel, by decide +kernel⟩, List.mem_of_getElem? (i := 42) (by decide +kernel), List.mem_of_getElem? (i := 328) (by decide +kernel), List.mem_of_getElem? (i := 329) (by decide +kernel)⟩
theorem lw_p2 : lw_okq (⟨"java/util/ArrayList", "grow", "()[Ljava/lang/Object;"⟩, 3) := ⟨⟨by decide +kernel, by decide +kernel⟩, List.mem_of_getElem? (i := 42) (by decide +kernel), List.mem_of_getElem? (i := 332) (by decide +kernel), List.mem_of_getElem? (i := 333) (by decide +kernel)⟩
theorem lw_p3 : lw_okq (⟨"java/util/ArrayList", "grow", "(I)[Ljava/lang/Object;"⟩, 3) := ⟨⟨by decide +kernel, by decide +kernel⟩, List.mem_of_getElem? (i := 42) (by decide +kernel), List.mem_of_getElem? (i := 336) (by decide +kernel), List.mem_of_getElem? (i := 337) (by decide +kernel)⟩
theorem lw_p4 : lw_okq (⟨"StockYard$Yard", "minutesBetween", "(II)I"⟩, 5) := ⟨⟨by decide +kernel, by decide +kernel⟩, List.mem_of_getElem? (i := 36) (by decide +kernel), List.mem_of_getElem? (i := 385) (by decide +kernel), List.mem_of_getElem? (i := 386) (by decide +kernel)⟩
theorem lw_p5 : lw_okq (⟨"StockYard$Yard", "leastAlleyToward", "(II)I"⟩, 5) := ⟨⟨by decide +kernel, by decide +kernel⟩, List.mem_of_getElem? (i := 36) (by decide +kernel), List.mem_of_getElem? (i := 404) (by decide +kernel), List.mem_of_getElem? (i := 405) (by decide +kernel)⟩
theorem lw_p6 : lw_okq (⟨"StockYard", "hasLot", "(I)Z"⟩, 10) := ⟨⟨by decide +kernel, by decide +kernel⟩, List.mem_of_getElem? (i := 28) (by decide +kernel), List.mem_of_getElem? (i := 462) (by decide +kernel), List.mem_of_getElem? (i := 463) (by decide +kernel)⟩
theorem lw_p7 : lw_okq (⟨"StockYard", "admit", "(LStockYard$Lot;)I"⟩, 10) := ⟨⟨by decide +kernel, by decide +kernel⟩, List.mem_of_getElem? (i := 28) (by decide +kernel), List.mem_of_getElem? (i := 565) (by decide +kernel), List.mem_of_getElem? (i := 566) (by decide +kernel)⟩
theorem lw_p8 : lw_okq (⟨"StockYard", "lotAt", "(I)LStockYard$Lot;"⟩, 10) := ⟨⟨by decide +kernel, by decide +kernel⟩, List.mem_of_getElem? (i := 28) (by decide +kernel), List.mem_of_getElem? (i := 574) (by decide +kernel), List.mem_of_getElem? (i := 575) (by decide +kernel)⟩
theorem lw_p9 : lw_okq (⟨"StockYard", "isIn", "(LStockYard$Lot;I)Z"⟩, 10) := ⟨⟨by decide +kernel, by decide +kernel⟩, List.mem_of_getElem? (i := 28) (by decide +kernel), List.mem_of_getElem? (i := 578) (by decide +kernel), List.mem_of_getElem? (i := 579) (by decide +kernel)⟩
theorem lw_p10 : lw_okq (⟨"StockYard$Rule", "isMet", "(ILStockYard$Lot;II)Z"⟩, 9) := ⟨⟨by decide +kernel, by decide +kernel⟩, List.mem_of_getElem? (i := 608) (by decide +kernel), List.mem_of_getElem? (i := 606) (by decide +kernel), List.mem_of_getElem? (i := 607) (by decide +kernel)⟩
theorem lw_p11 : lw_okq (⟨"StockYard", "isInDoubt", "(LStockYard$Lot;)Z"⟩, 10) := ⟨⟨by decide +kernel, by decide +kernel⟩, List.mem_of_getElem? (i := 28) (by decide +kernel), List.mem_of_getElem? (i := 615) (by decide +kernel), List.mem_of_getElem? (i := 616) (by decide +kernel)⟩
theorem lw_p12 : lw_okq (⟨"StockYard", "mayBeDriven", "(LStockYard$Lot;)Z"⟩, 10) := ⟨⟨by decide +kernel, by decide +kernel⟩, List.mem_of_getElem? (i := 28) (by decide +kernel), List.mem_of_getElem? (i := 634) (by decide +kernel), List.mem_of_getElem? (i := 635) (by decide +kernel)⟩
theorem lw_p13 : lw_okq (⟨"StockYard$Yard", "putOff", "(LStockYard$Way;I)I"⟩, 5) := ⟨⟨by decide +kernel, by decide +kernel⟩, List.mem_of_getElem? (i := 36) (by decide +kernel), List.mem_of_getElem? (i := 646) (by decide +kernel), List.mem_of_getElem? (i := 647) (by decide +kernel)⟩
theorem lw_p14 : lw_okq (⟨"StockYard$Alley", "meets", "(I)I"⟩, 5) := ⟨⟨by decide +kernel, by decide +kernel⟩, List.mem_of_getElem? (i := 301) (by decide +kernel), List.mem_of_getElem? (i := 659) (by decide +kernel), List.mem_of_getElem? (i := 660) (by decide +kernel)⟩
theorem lw_p15 : lw_okq (⟨"StockYard", "arePens", "(I)Z"⟩, 10) := ⟨⟨by decide +kernel, by decide +kernel⟩, List.mem_of_getElem? (i := 28) (by decide +kernel), List.mem_of_getElem? (i := 691) (by decide +kernel), List.mem_of_getElem? (i := 692) (by decide +kernel)⟩
def lw_privs_1 : List (MethodName × Nat) := [(⟨"StockYard", "refuse", "(I)I"⟩, 10), (⟨"java/util/ArrayList", "add", "(Ljava/lang/Object;[Ljava/lang/Object;I)V"⟩, 3), (⟨"java/util/ArrayList", "grow", "()[Ljava/lang/Object;"⟩, 3), (⟨"java/util/ArrayList", "grow", "(I)[Ljava/lang/Object;"⟩, 3), (⟨"StockYard$Yard", "minutesBetween", "(II)I"⟩, 5), (⟨"StockYard$Yard", "leastAlleyToward", "(II)I"⟩, 5), (⟨"StockYard", "hasLot", "(I)Z"⟩, 10), (⟨"StockYard", "admit", "(LStockYard$Lot;)I"⟩, 10), (⟨"StockYard", "lotAt", "(I)LStockYard$Lot;"⟩, 10), (⟨"StockYard", "isIn", "(LStockYard$Lot;I)Z"⟩, 10), (⟨"StockYard$Rule", "isMet", "(ILStockYard$Lot;II)Z"⟩, 9), (⟨"StockYard", "isInDoubt", "(LStockYard$Lot;)Z"⟩, 10), (⟨"StockYard", "mayBeDriven", "(LStockYard$Lot;)Z"⟩, 10), (⟨"StockYard$Yard", "putOff", "(LStockYard$Way;I)I"⟩, 5), (⟨"StockYard$Alley", "meets", "(I)I"⟩, 5), (⟨"StockYard", "arePens", "(I)Z"⟩, 10)]
theorem lw_r1 : ∀ q ∈ lw_privs_1, lw_okq q := List.forall_mem_cons.mpr ⟨lw_p0, List.forall_mem_cons.mpr ⟨lw_p1, List.forall_mem_cons.mpr ⟨lw_p2, List.forall_mem_cons.mpr ⟨lw_p3, List.forall_mem_cons.mpr ⟨lw_p4, List.forall_mem_cons.mpr ⟨lw_p5, List.forall_mem_cons.mpr ⟨lw_p6, List.forall_mem_cons.mpr ⟨lw_p7, List.forall_mem_cons.mpr ⟨lw_p8, List.forall_mem_cons.mpr ⟨lw_p9, List.forall_mem_cons.mpr ⟨lw_p10, List.forall_mem_cons.mpr ⟨lw_p11, List.forall_mem_cons.mpr ⟨lw_p12, List.forall_mem_cons.mpr ⟨lw_p13, List.forall_mem_cons.mpr ⟨lw_p14, List.forall_mem_cons.mpr ⟨lw_p15, fun _ h => absurd h List.not_mem_nil⟩⟩⟩⟩⟩⟩⟩⟩⟩⟩⟩⟩⟩⟩⟩⟩
theorem lw_p16 : lw_okq (⟨"StockYard", "mayAllBeDriven", "(I)Z"⟩, 10) := ⟨⟨by decide +kernel, by decide +kernel⟩, List.mem_of_getElem? (i := 28) (by decide +kernel), List.mem_of_getElem? (i := 704) (by decide +kernel), List.mem_of_getElem? (i := 705) (by decide +kernel)⟩
theorem lw_p17 : lw_okq (⟨"StockYard", "hasLotInOne", "(I)Z"⟩, 10) := ⟨⟨by decide +kernel, by decide +kernel⟩, List.mem_of_getElem? (i := 28) (by decide +kernel), List.mem_of_getElem? (i := 708) (by decide +kernel), List.mem_of_getElem? (i := 709) (by decide +kernel)⟩
theorem lw_p18 : lw_okq (⟨"StockYard", "readyPlanner", "(II)V"⟩, 10) := ⟨⟨by decide +kernel, by decide +kernel⟩, List.mem_of_getElem? (i := 28) (by decide +kernel), List.mem_of_getElem? (i := 712) (by decide +kernel), List.mem_of_getElem? (i := 713) (by decide +kernel)⟩
theorem lw_p19 : lw_okq (⟨"StockYard$Planner", "tell", "(II)V"⟩, 15) := ⟨⟨by decide +kernel, by decide +kernel⟩, List.mem_of_getElem? (i := 139) (by decide +kernel), List.mem_of_getElem? (i := 734) (by decide +kernel), List.mem_of_getElem? (i := 735) (by decide +kernel)⟩
theorem lw_p20 : lw_okq (⟨"StockYard$Planner", "keep", "(I)V"⟩, 15) := ⟨⟨by decide +kernel, by decide +kernel⟩, List.mem_of_getElem? (i := 139) (by decide +kernel), List.mem_of_getElem? (i := 738) (by decide +kernel), List.mem_of_getElem? (i := 739) (by decide +kernel)⟩
theorem lw_p21 : lw_okq (⟨"StockYard$Planner", "tellOne", "(IIII)V"⟩, 15) := ⟨⟨by decide +kernel, by decide +kernel⟩, List.mem_of_getElem? (i := 139) (by decide +kernel), List.mem_of_getElem? (i := 743) (by decide +kernel), List.mem_of_getElem? (i := 744) (by decide +kernel)⟩
theorem lw_p22 : lw_okq (⟨"StockYard$Tape", "readWord", "(Z)I"⟩, 3) := ⟨⟨by decide +kernel, by decide +kernel⟩, List.mem_of_getElem? (i := 91) (by decide +kernel), List.mem_of_getElem? (i := 829) (by decide +kernel), List.mem_of_getElem? (i := 830) (by decide +kernel)⟩
theorem lw_p23 : lw_okq (⟨"StockYard$Tape", "readText", "(Ljava/lang/String;)Z"⟩, 3) := ⟨⟨by decide +kernel, by decide +kernel⟩, List.mem_of_getElem? (i := 91) (by decide +kernel), List.mem_of_getElem? (i := 886) (by decide +kernel), List.mem_of_getElem? (i := 887) (by decide +kernel)⟩
theorem lw_p24 : lw_okq (⟨"StockYard$Tape", "readSign", "(C)Z"⟩, 3) := ⟨⟨by decide +kernel, by decide +kernel⟩, List.mem_of_getElem? (i := 91) (by decide +kernel), List.mem_of_getElem? (i := 898) (by decide +kernel), List.mem_of_getElem? (i := 899) (by decide +kernel)⟩
theorem lw_p25 : lw_okq (⟨"StockYard$Tape", "readNumber", "()I"⟩, 3) := ⟨⟨by decide +kernel, by decide +kernel⟩, List.mem_of_getElem? (i := 91) (by decide +kernel), List.mem_of_getElem? (i := 902) (by decide +kernel), List.mem_of_getElem? (i := 903) (by decide +kernel)⟩
theorem lw_p26 : lw_okq (⟨"StockYard$Tape", "readTests", "(LStockYard$Rule;)Z"⟩, 3) := ⟨⟨by decide +kernel, by decide +kernel⟩, List.mem_of_getElem? (i := 91) (by decide +kernel), List.mem_of_getElem? (i := 908) (by decide +kernel), List.mem_of_getElem? (i := 909) (by decide +kernel)⟩
theorem lw_p27 : lw_okq (⟨"StockYard$Tape", "readTest", "(LStockYard$Rule;)Z"⟩, 3) := ⟨⟨by decide +kernel, by decide +kernel⟩, List.mem_of_getElem? (i := 91) (by decide +kernel), List.mem_of_getElem? (i := 912) (by decide +kernel), List.mem_of_getElem? (i := 913) (by decide +kernel)⟩
theorem lw_p28 : lw_okq (⟨"StockYard", "weightOf", "(LStockYard$Lot;)I"⟩, 10) := ⟨⟨by decide +kernel, by decide +kernel⟩, List.mem_of_getElem? (i := 28) (by decide +kernel), List.mem_of_getElem? (i := 977) (by decide +kernel), List.mem_of_getElem? (i := 978) (by decide +kernel)⟩
theorem lw_p29 : lw_okq (⟨"StockYard$Sale", "moneyFor", "(I)I"⟩, 11) := ⟨⟨by decide +kernel, by decide +kernel⟩, List.mem_of_getElem? (i := 473) (by decide +kernel), List.mem_of_getElem? (i := 990) (by decide +kernel), List.mem_of_getElem? (i := 991) (by decide +kernel)⟩
theorem lw_p30 : lw_okq (⟨"StockYard", "settle", "(II)I"⟩, 10) := ⟨⟨by decide +kernel, by decide +kernel⟩, List.mem_of_getElem? (i := 28) (by decide +kernel), List.mem_of_getElem? (i := 1007) (by decide +kernel), List.mem_of_getElem? (i := 1008) (by decide +kernel)⟩
theorem lw_p31 : lw_okq (⟨"StockYard", "lotsOnWay", "()I"⟩, 10) := ⟨⟨by decide +kernel, by decide +kernel⟩, List.mem_of_getElem? (i := 28) (by decide +kernel), List.mem_of_getElem? (i := 1066) (by decide +kernel), List.mem_of_getElem? (i := 1067) (by decide +kernel)⟩
def lw_privs_2 : List (MethodName × Nat) := [(⟨"StockYard", "mayAllBeDriven", "(I)Z"⟩, 10), (⟨"StockYard", "hasLotInOne", "(I)Z"⟩, 10), (⟨"StockYard", "readyPlanner", "(II)V"⟩, 10), (⟨"StockYard$Planner", "tell", "(II)V"⟩, 15), (⟨"StockYard$Planner", "keep", "(I)V"⟩, 15), (⟨"StockYard$Planner", "tellOne", "(IIII)V"⟩, 15), (⟨"StockYard$Tape", "readWord", "(Z)I"⟩, 3), (⟨"StockYard$Tape", "readText", "(Ljava/lang/String;)Z"⟩, 3), (⟨"StockYard$Tape", "readSign", "(C)Z"⟩, 3), (⟨"StockYard$Tape", "readNumber", "()I"⟩, 3), (⟨"StockYard$Tape", "readTests", "(LStockYard$Rule;)Z"⟩, 3), (⟨"StockYard$Tape", "readTest", "(LStockYard$Rule;)Z"⟩, 3), (⟨"StockYard", "weightOf", "(LStockYard$Lot;)I"⟩, 10), (⟨"StockYard$Sale", "moneyFor", "(I)I"⟩, 11), (⟨"StockYard", "settle", "(II)I"⟩, 10), (⟨"StockYard", "lotsOnWay", "()I"⟩, 10)]
theorem lw_r2 : ∀ q ∈ lw_privs_2, lw_okq q := List.forall_mem_cons.mpr ⟨lw_p16, List.forall_mem_cons.mpr ⟨lw_p17, List.forall_mem_cons.mpr ⟨lw_p18, List.forall_mem_cons.mpr ⟨lw_p19, List.forall_mem_cons.mpr ⟨lw_p20, List.forall_mem_cons.mpr ⟨lw_p21, List.forall_mem_cons.mpr ⟨lw_p22, List.forall_mem_cons.mpr ⟨lw_p23, List.forall_mem_cons.mpr ⟨lw_p24, List.forall_mem_cons.mpr ⟨lw_p25, List.forall_mem_cons.mpr ⟨lw_p26, List.forall_mem_cons.mpr ⟨lw_p27, List.forall_mem_cons.mpr ⟨lw_p28, List.forall_mem_cons.mpr ⟨lw_p29, List.forall_mem_cons.mpr ⟨lw_p30, List.forall_mem_cons.mpr ⟨lw_p31, fun _ h => absurd h List.not_mem_nil⟩⟩⟩⟩⟩⟩⟩⟩⟩⟩⟩⟩⟩⟩⟩⟩
theorem lw_p32 : lw_okq (⟨"StockYard", "dryLots", "()I"⟩, 10) := ⟨⟨by decide +kernel, by decide +kernel⟩, List.mem_of_getElem? (i := 28) (by decide +kernel), List.mem_of_getElem? (i := 1070) (by decide +kernel), List.mem_of_getElem? (i := 1071) (by decide +kernel)⟩
theorem lw_p33 : lw_okq (⟨"StockYard", "soldLots", "()I"⟩, 10) := ⟨⟨by decide +kernel, by decide +kernel⟩, List.mem_of_getElem? (i := 28) (by decide +kernel), List.mem_of_getElem? (i := 1074) (by decide +kernel), List.mem_of_getElem? (i := 1075) (by decide +kernel)⟩
theorem lw_p34 : lw_okq (⟨"StockYard", "headsAtHooks", "()I"⟩, 10) := ⟨⟨by decide +kernel, by decide +kernel⟩, List.mem_of_getElem? (i := 28) (by decide +kernel), List.mem_of_getElem? (i := 1078) (by decide +kernel), List.mem_of_getElem? (i := 1079) (by decide +kernel)⟩
theorem lw_p35 : lw_okq (⟨"StockYardModel", "refused", "(I)I"⟩, 69) := ⟨⟨by decide +kernel, by decide +kernel⟩, List.mem_of_getElem? (i := 1125) (by decide +kernel), List.mem_of_getElem? (i := 1344) (by decide +kernel), List.mem_of_getElem? (i := 1345) (by decide +kernel)⟩
theorem lw_p36 : lw_okq (⟨"StockYardModel", "isPlace", "(I)Z"⟩, 69) := ⟨⟨by decide +kernel, by decide +kernel⟩, List.mem_of_getElem? (i := 1125) (by decide +kernel), List.mem_of_getElem? (i := 1356) (by decide +kernel), List.mem_of_getElem? (i := 1357) (by decide +kernel)⟩
theorem lw_p37 : lw_okq (⟨"StockYardModel", "walk", "(II)I"⟩, 69) := ⟨⟨by decide +kernel, by decide +kernel⟩, List.mem_of_getElem? (i := 1125) (by decide +kernel), List.mem_of_getElem? (i := 1364) (by decide +kernel), List.mem_of_getElem? (i := 1365) (by decide +kernel)⟩
theorem lw_p38 : lw_okq (⟨"StockYardModel", "other", "(II)I"⟩, 69) := ⟨⟨by decide +kernel, by decide +kernel⟩, List.mem_of_getElem? (i := 1125) (by decide +kernel), List.mem_of_getElem? (i := 1369) (by decide +kernel), List.mem_of_getElem? (i := 1370) (by decide +kernel)⟩
theorem lw_p39 : lw_okq (⟨"StockYardModel", "isTaken", "(I)Z"⟩, 69) := ⟨⟨by decide +kernel, by decide +kernel⟩, List.mem_of_getElem? (i := 1125) (by decide +kernel), List.mem_of_getElem? (i := 1384) (by decide +kernel), List.mem_of_getElem? (i := 1385) (by decide +kernel)⟩
theorem lw_p40 : lw_okq (⟨"StockYardModel", "comes", "(IIIIIII)I"⟩, 69) := ⟨⟨by decide +kernel, by decide +kernel⟩, List.mem_of_getElem? (i := 1125) (by decide +kernel), List.mem_of_getElem? (i := 1388) (by decide +kernel), List.mem_of_getElem? (i := 1389) (by decide +kernel)⟩
theorem lw_p41 : lw_okq (⟨"StockYardModel", "isLot", "(I)Z"⟩, 69) := ⟨⟨by decide +kernel, by decide +kernel⟩, List.mem_of_getElem? (i := 1125) (by decide +kernel), List.mem_of_getElem? (i := 1396) (by decide +kernel), List.mem_of_getElem? (i := 1397) (by decide +kernel)⟩
theorem lw_p42 : lw_okq (⟨"StockYardModel", "isInPen", "(I)Z"⟩, 69) := ⟨⟨by decide +kernel, by decide +kernel⟩, List.mem_of_getElem? (i := 1125) (by decide +kernel), List.mem_of_getElem? (i := 1400) (by decide +kernel), List.mem_of_getElem? (i := 1401) (by decide +kernel)⟩
theorem lw_p43 : lw_okq (⟨"StockYardModel", "thirst", "(I)I"⟩, 69) := ⟨⟨by decide +kernel, by decide +kernel⟩, List.mem_of_getElem? (i := 1125) (by decide +kernel), List.mem_of_getElem? (i := 1408) (by decide +kernel), List.mem_of_getElem? (i := 1409) (by decide +kernel)⟩
theorem lw_p44 : lw_okq (⟨"StockYardModel", "isDry", "(I)Z"⟩, 69) := ⟨⟨by decide +kernel, by decide +kernel⟩, List.mem_of_getElem? (i := 1125) (by decide +kernel), List.mem_of_getElem? (i := 1412) (by decide +kernel), List.mem_of_getElem? (i := 1413) (by decide +kernel)⟩
theorem lw_p45 : lw_okq (⟨"StockYardModel", "saidBy", "(III)I"⟩, 69) := ⟨⟨by decide +kernel, by decide +kernel⟩, List.mem_of_getElem? (i := 1125) (by decide +kernel), List.mem_of_getElem? (i := 1416) (by decide +kernel), List.mem_of_getElem? (i := 1417) (by decide +kernel)⟩
theorem lw_p46 : lw_okq (⟨"StockYardModel", "holdsFor", "(III)Z"⟩, 69) := ⟨⟨by decide +kernel, by decide +kernel⟩, List.mem_of_getElem? (i := 1125) (by decide +kernel), List.mem_of_getElem? (i := 1420) (by decide +kernel), List.mem_of_getElem? (i := 1421) (by decide +kernel)⟩
theorem lw_p47 : lw_okq (⟨"StockYardModel", "isSo", "(III)Z"⟩, 69) := ⟨⟨by decide +kernel, by decide +kernel⟩, List.mem_of_getElem? (i := 1125) (by decide +kernel), List.mem_of_getElem? (i := 1424) (by decide +kernel), List.mem_of_getElem? (i := 1425) (by decide +kernel)⟩
def lw_privs_3 : List (MethodName × Nat) := [(⟨"StockYard", "dryLots", "()I"⟩, 10), (⟨"StockYard", "soldLots", "()I"⟩, 10), (⟨"StockYard", "headsAtHooks", "()I"⟩, 10), (⟨"StockYardModel", "refused", "(I)I"⟩, 69), (⟨"StockYardModel", "isPlace", "(I)Z"⟩, 69), (⟨"StockYardModel", "walk", "(II)I"⟩, 69), (⟨"StockYardModel", "other", "(II)I"⟩, 69), (⟨"StockYardModel", "isTaken", "(I)Z"⟩, 69), (⟨"StockYardModel", "comes", "(IIIIIII)I"⟩, 69), (⟨"StockYardModel", "isLot", "(I)Z"⟩, 69), (⟨"StockYardModel", "isInPen", "(I)Z"⟩, 69), (⟨"StockYardModel", "thirst", "(I)I"⟩, 69), (⟨"StockYardModel", "isDry", "(I)Z"⟩, 69), (⟨"StockYardModel", "saidBy", "(III)I"⟩, 69), (⟨"StockYardModel", "holdsFor", "(III)Z"⟩, 69), (⟨"StockYardModel", "isSo", "(III)Z"⟩, 69)]
theorem lw_r3 : ∀ q ∈ lw_privs_3, lw_okq q := List.forall_mem_cons.mpr ⟨lw_p32, List.forall_mem_cons.mpr ⟨lw_p33, List.forall_mem_cons.mpr ⟨lw_p34, List.forall_mem_cons.mpr ⟨lw_p35, List.forall_mem_cons.mpr ⟨lw_p36, List.forall_mem_cons.mpr ⟨lw_p37, List.forall_mem_cons.mpr ⟨lw_p38, List.forall_mem_cons.mpr ⟨lw_p39, List.forall_mem_cons.mpr ⟨lw_p40, List.forall_mem_cons.mpr ⟨lw_p41, List.forall_mem_cons.mpr ⟨lw_p42, List.forall_mem_cons.mpr ⟨lw_p43, List.forall_mem_cons.mpr ⟨lw_p44, List.forall_mem_cons.mpr ⟨lw_p45, List.forall_mem_cons.mpr ⟨lw_p46, List.forall_mem_cons.mpr ⟨lw_p47, fun _ h => absurd h List.not_mem_nil⟩⟩⟩⟩⟩⟩⟩⟩⟩⟩⟩⟩⟩⟩⟩⟩
theorem lw_p48 : lw_okq (⟨"StockYardModel", "valueOf", "(III)I"⟩, 69) := ⟨⟨by decide +kernel, by decide +kernel⟩, List.mem_of_getElem? (i := 1125) (by decide +kernel), List.mem_of_getElem? (i := 1428) (by decide +kernel), List.mem_of_getElem? (i := 1429) (by decide +kernel)⟩
theorem lw_p49 : lw_okq (⟨"StockYardModel", "isInDoubt", "(I)Z"⟩, 69) := ⟨⟨by decide +kernel, by decide +kernel⟩, List.mem_of_getElem? (i := 1125) (by decide +kernel), List.mem_of_getElem? (i := 1432) (by decide +kernel), List.mem_of_getElem? (i := 1433) (by decide +kernel)⟩
theorem lw_p50 : lw_okq (⟨"StockYardModel", "find", "(I)I"⟩, 69) := ⟨⟨by decide +kernel, by decide +kernel⟩, List.mem_of_getElem? (i := 1125) (by decide +kernel), List.mem_of_getElem? (i := 1436) (by decide +kernel), List.mem_of_getElem? (i := 1437) (by decide +kernel)⟩
theorem lw_p51 : lw_okq (⟨"StockYardModel", "goes", "()I"⟩, 69) := ⟨⟨by decide +kernel, by decide +kernel⟩, List.mem_of_getElem? (i := 1125) (by decide +kernel), List.mem_of_getElem? (i := 1447) (by decide +kernel), List.mem_of_getElem? (i := 1448) (by decide +kernel)⟩
theorem lw_p52 : lw_okq (⟨"StockYardModel", "mayBegin", "(I)Z"⟩, 69) := ⟨⟨by decide +kernel, by decide +kernel⟩, List.mem_of_getElem? (i := 1125) (by decide +kernel), List.mem_of_getElem? (i := 1451) (by decide +kernel), List.mem_of_getElem? (i := 1452) (by decide +kernel)⟩
theorem lw_p53 : lw_okq (⟨"StockYardModel", "isFree", "(III)Z"⟩, 69) := ⟨⟨by decide +kernel, by decide +kernel⟩, List.mem_of_getElem? (i := 1125) (by decide +kernel), List.mem_of_getElem? (i := 1455) (by decide +kernel), List.mem_of_getElem? (i := 1456) (by decide +kernel)⟩
theorem lw_p54 : lw_okq (⟨"StockYardModel", "tries", "(IIII)V"⟩, 69) := ⟨⟨by decide +kernel, by decide +kernel⟩, List.mem_of_getElem? (i := 1125) (by decide +kernel), List.mem_of_getElem? (i := 1474) (by decide +kernel), List.mem_of_getElem? (i := 1475) (by decide +kernel)⟩
theorem lw_p55 : lw_okq (⟨"StockYardModel", "readRule", "()V"⟩, 69) := ⟨⟨by decide +kernel, by decide +kernel⟩, List.mem_of_getElem? (i := 1125) (by decide +kernel), List.mem_of_getElem? (i := 1495) (by decide +kernel), List.mem_of_getElem? (i := 1496) (by decide +kernel)⟩
theorem lw_p56 : lw_okq (⟨"StockYardModel", "keyHere", "()I"⟩, 69) := ⟨⟨by decide +kernel, by decide +kernel⟩, List.mem_of_getElem? (i := 1125) (by decide +kernel), List.mem_of_getElem? (i := 1499) (by decide +kernel), List.mem_of_getElem? (i := 1500) (by decide +kernel)⟩
theorem lw_p57 : lw_okq (⟨"StockYardModel", "here", "()I"⟩, 69) := ⟨⟨by decide +kernel, by decide +kernel⟩, List.mem_of_getElem? (i := 1125) (by decide +kernel), List.mem_of_getElem? (i := 1503) (by decide +kernel), List.mem_of_getElem? (i := 1504) (by decide +kernel)⟩
theorem lw_p58 : lw_okq (⟨"StockYardModel", "letters", "(J)V"⟩, 69) := ⟨⟨by decide +kernel, by decide +kernel⟩, List.mem_of_getElem? (i := 1125) (by decide +kernel), List.mem_of_getElem? (i := 1511) (by decide +kernel), List.mem_of_getElem? (i := 1512) (by decide +kernel)⟩
theorem lw_p59 : lw_okq (⟨"StockYardModel", "one", "(I)V"⟩, 69) := ⟨⟨by decide +kernel, by decide +kernel⟩, List.mem_of_getElem? (i := 1125) (by decide +kernel), List.mem_of_getElem? (i := 1516) (by decide +kernel), List.mem_of_getElem? (i := 1517) (by decide +kernel)⟩
theorem lw_p60 : lw_okq (⟨"StockYardModel", "numberHere", "()I"⟩, 69) := ⟨⟨by decide +kernel, by decide +kernel⟩, List.mem_of_getElem? (i := 1125) (by decide +kernel), List.mem_of_getElem? (i := 1520) (by decide +kernel), List.mem_of_getElem? (i := 1521) (by decide +kernel)⟩
theorem lw_p61 : lw_okq (⟨"StockYardModel", "testHere", "()V"⟩, 69) := ⟨⟨by decide +kernel, by decide +kernel⟩, List.mem_of_getElem? (i := 1125) (by decide +kernel), List.mem_of_getElem? (i := 1524) (by decide +kernel), List.mem_of_getElem? (i := 1525) (by decide +kernel)⟩
theorem lw_p62 : lw_okq (⟨"StockYardModel", "fieldHere", "()I"⟩, 69) := ⟨⟨by decide +kernel, by decide +kernel⟩, List.mem_of_getElem? (i := 1125) (by decide +kernel), List.mem_of_getElem? (i := 1528) (by decide +kernel), List.mem_of_getElem? (i := 1529) (by decide +kernel)⟩
theorem lw_p63 : lw_okq (⟨"StockYardModel", "isBarred", "(II)Z"⟩, 69) := ⟨⟨by decide +kernel, by decide +kernel⟩, List.mem_of_getElem? (i := 1125) (by decide +kernel), List.mem_of_getElem? (i := 1551) (by decide +kernel), List.mem_of_getElem? (i := 1552) (by decide +kernel)⟩
def lw_privs_4 : List (MethodName × Nat) := [(⟨"StockYardModel", "valueOf", "(III)I"⟩, 69), (⟨"StockYardModel", "isInDoubt", "(I)Z"⟩, 69), (⟨"StockYardModel", "find", "(I)I"⟩, 69), (⟨"StockYardModel", "goes", "()I"⟩, 69), (⟨"StockYardModel", "mayBegin", "(I)Z"⟩, 69), (⟨"StockYardModel", "isFree", "(III)Z"⟩, 69), (⟨"StockYardModel", "tries", "(IIII)V"⟩, 69), (⟨"StockYardModel", "readRule", "()V"⟩, 69), (⟨"StockYardModel", "keyHere", "()I"⟩, 69), (⟨"StockYardModel", "here", "()I"⟩, 69), (⟨"StockYardModel", "letters", "(J)V"⟩, 69), (⟨"StockYardModel", "one", "(I)V"⟩, 69), (⟨"StockYardModel", "numberHere", "()I"⟩, 69), (⟨"StockYardModel", "testHere", "()V"⟩, 69), (⟨"StockYardModel", "fieldHere", "()I"⟩, 69), (⟨"StockYardModel", "isBarred", "(II)Z"⟩, 69)]
theorem lw_r4 : ∀ q ∈ lw_privs_4, lw_okq q := List.forall_mem_cons.mpr ⟨lw_p48, List.forall_mem_cons.mpr ⟨lw_p49, List.forall_mem_cons.mpr ⟨lw_p50, List.forall_mem_cons.mpr ⟨lw_p51, List.forall_mem_cons.mpr ⟨lw_p52, List.forall_mem_cons.mpr ⟨lw_p53, List.forall_mem_cons.mpr ⟨lw_p54, List.forall_mem_cons.mpr ⟨lw_p55, List.forall_mem_cons.mpr ⟨lw_p56, List.forall_mem_cons.mpr ⟨lw_p57, List.forall_mem_cons.mpr ⟨lw_p58, List.forall_mem_cons.mpr ⟨lw_p59, List.forall_mem_cons.mpr ⟨lw_p60, List.forall_mem_cons.mpr ⟨lw_p61, List.forall_mem_cons.mpr ⟨lw_p62, List.forall_mem_cons.mpr ⟨lw_p63, fun _ h => absurd h List.not_mem_nil⟩⟩⟩⟩⟩⟩⟩⟩⟩⟩⟩⟩⟩⟩⟩⟩
theorem lw_p64 : lw_okq (⟨"StockYardModel", "moneyFor", "(II)I"⟩, 69) := ⟨⟨by decide +kernel, by decide +kernel⟩, List.mem_of_getElem? (i := 1125) (by decide +kernel), List.mem_of_getElem? (i := 1563) (by decide +kernel), List.mem_of_getElem? (i := 1564) (by decide +kernel)⟩
theorem lw_p65 : lw_okq (⟨"StockYardModel", "noScale", "(II)I"⟩, 69) := ⟨⟨by decide +kernel, by decide +kernel⟩, List.mem_of_getElem? (i := 1125) (by decide +kernel), List.mem_of_getElem? (i := 1572) (by decide +kernel), List.mem_of_getElem? (i := 1573) (by decide +kernel)⟩
theorem lw_p66 : lw_okq (⟨"StockYardModel", "forget", "()V"⟩, 69) := ⟨⟨by decide +kernel, by decide +kernel⟩, List.mem_of_getElem? (i := 1125) (by decide +kernel), List.mem_of_getElem? (i := 1604) (by decide +kernel), List.mem_of_getElem? (i := 1605) (by decide +kernel)⟩
def lw_privs_5 : List (MethodName × Nat) := [(⟨"StockYardModel", "moneyFor", "(II)I"⟩, 69), (⟨"StockYardModel", "noScale", "(II)I"⟩, 69), (⟨"StockYardModel", "forget", "()V"⟩, 69)]
theorem lw_r5 : ∀ q ∈ lw_privs_5, lw_okq q := List.forall_mem_cons.mpr ⟨lw_p64, List.forall_mem_cons.mpr ⟨lw_p65, List.forall_mem_cons.mpr ⟨lw_p66, fun _ h => absurd h List.not_mem_nil⟩⟩⟩
def lw_privs : List (MethodName × Nat) := lw_privs_1 ++ (lw_privs_2 ++ (lw_privs_3 ++ (lw_privs_4 ++ (lw_privs_5))))
def lw_tbl : List Cond := k2_sels lw_privs ++ tables_1
theorem lw_privs_ok : ∀ q ∈ lw_privs, lw_okq q := by
  show ∀ q ∈ lw_privs_1 ++ (lw_privs_2 ++ (lw_privs_3 ++ (lw_privs_4 ++ (lw_privs_5)))), lw_okq q
  exact List.forall_mem_append.mpr ⟨lw_r1, List.forall_mem_append.mpr ⟨lw_r2, List.forall_mem_append.mpr ⟨lw_r3, List.forall_mem_append.mpr ⟨lw_r4, lw_r5⟩⟩⟩⟩
def RX0 : String := "StockYard$Alley"
def TX0 : u_T := fun k => match k with
  | 0 => ("StockYard$Alley", "a", "I", true)
  | 1 => ("StockYard$Alley", "b", "I", true)
  | 2 => ("StockYard$Alley", "minutes", "I", true)
  | 3 => ("StockYard$Alley", "taken", "[I", true)
  | _ => ("StockYard$Alley", "size", "I", false)
def tyX0 : Nat → FieldType := fun k => match k with
  | 0 => .int
  | 1 => .int
  | 2 => .int
  | 3 => .array .int
  | _ => .int
theorem nmX0 : ∀ a, a < 5 → ∀ b, b < 5 → a ≠ b → (TX0 a).2.1 ≠ (TX0 b).2.1 := by decide +kernel
theorem tyX0_ok : ∀ k, k < 5 → parseFieldDescriptor (TX0 k).2.2.1 = some (tyX0 k) := by decide +kernel
abbrev cX0_init : ByteArray := prog_2_method_1_code
def yX0_init : MethodName := ⟨RX0, "<init>", "(III)V"⟩
abbrev cX0_touches : ByteArray := prog_2_method_2_code
def yX0_touches : MethodName := ⟨RX0, "touches", "(I)Z"⟩
abbrev cX0_otherEnd : ByteArray := prog_2_method_3_code
def yX0_otherEnd : MethodName := ⟨RX0, "otherEnd", "(I)I"⟩
abbrev cX0_freeFrom : ByteArray := prog_2_method_4_code
def yX0_freeFrom : MethodName := ⟨RX0, "freeFrom", "(I)I"⟩
abbrev cX0_meets : ByteArray := prog_2_method_5_code
def yX0_meets : MethodName := ⟨RX0, "meets", "(I)I"⟩
abbrev cX0_take : ByteArray := prog_2_method_6_code
def yX0_take : MethodName := ⟨RX0, "take", "(I)V"⟩
abbrev cX0_giveBack : ByteArray := prog_2_method_7_code
def yX0_giveBack : MethodName := ⟨RX0, "giveBack", "()V"⟩
abbrev cX0_forgetBefore : ByteArray := prog_2_method_8_code
def yX0_forgetBefore : MethodName := ⟨RX0, "forgetBefore", "(I)V"⟩
def RX1 : String := "StockYard$Lot"
def TX1 : u_T := fun k => match k with
  | 0 => ("StockYard$Lot", "pounds", "I", true)
  | 1 => ("StockYard$Lot", "mark", "I", true)
  | 2 => ("StockYard$Lot", "sale", "LStockYard$Sale;", true)
  | 3 => ("StockYard$Lot", "kind", "I", false)
  | 4 => ("StockYard$Lot", "owner", "I", false)
  | 5 => ("StockYard$Lot", "heads", "I", false)
  | 6 => ("StockYard$Lot", "watered", "I", false)
  | 7 => ("StockYard$Lot", "place", "I", false)
  | 8 => ("StockYard$Lot", "goal", "I", false)
  | 9 => ("StockYard$Lot", "due", "I", false)
  | _ => ("StockYard$Lot", "judged", "Z", false)
def tyX1 : Nat → FieldType := fun k => match k with
  | 0 => .int
  | 1 => .int
  | 2 => .object "StockYard$Sale"
  | 3 => .int
  | 4 => .int
  | 5 => .int
  | 6 => .int
  | 7 => .int
  | 8 => .int
  | 9 => .int
  | _ => .boolean
theorem nmX1 : ∀ a, a < 11 → ∀ b, b < 11 → a ≠ b → (TX1 a).2.1 ≠ (TX1 b).2.1 := by decide +kernel
theorem tyX1_ok : ∀ k, k < 11 → parseFieldDescriptor (TX1 k).2.2.1 = some (tyX1 k) := by decide +kernel
abbrev cX1_init : ByteArray := prog_3_method_1_code
def yX1_init : MethodName := ⟨RX1, "<init>", "(IIIIIII)V"⟩
abbrev cX1_thirst : ByteArray := prog_3_method_2_code
def yX1_thirst : MethodName := ⟨RX1, "thirst", "(I)I"⟩
abbrev cX1_isOnWay : ByteArray := prog_3_method_3_code
def yX1_isOnWay : MethodName := ⟨RX1, "isOnWay", "()Z"⟩
abbrev cX1_leave : ByteArray := prog_3_method_4_code
def yX1_leave : MethodName := ⟨RX1, "leave", "(II)V"⟩
abbrev cX1_arrive : ByteArray := prog_3_method_5_code
def yX1_arrive : MethodName := ⟨RX1, "arrive", "(I)Z"⟩
def RX2 : String := "StockYard$MarkBook"
def TX2 : u_T := fun k => match k with
  | 0 => ("StockYard$MarkBook", "marks", "[I", true)
  | 1 => ("StockYard$MarkBook", "owners", "[I", true)
  | _ => ("StockYard$MarkBook", "size", "I", false)
def tyX2 : Nat → FieldType := fun k => match k with
  | 0 => .array .int
  | 1 => .array .int
  | _ => .int
theorem nmX2 : ∀ a, a < 3 → ∀ b, b < 3 → a ≠ b → (TX2 a).2.1 ≠ (TX2 b).2.1 := by decide +kernel
theorem tyX2_ok : ∀ k, k < 3 → parseFieldDescriptor (TX2 k).2.2.1 = some (tyX2 k) := by decide +kernel
abbrev cX2_init : ByteArray := prog_4_method_1_code
def yX2_init : MethodName := ⟨RX2, "<init>", "()V"⟩
abbrev cX2_add : ByteArray := prog_4_method_2_code
def yX2_add : MethodName := ⟨RX2, "add", "(II)V"⟩
abbrev cX2_ownerOf : ByteArray := prog_4_method_3_code
def yX2_ownerOf : MethodName := ⟨RX2, "ownerOf", "(I)I"⟩
abbrev cX2_countNear : ByteArray := prog_4_method_4_code
def yX2_countNear : MethodName := ⟨RX2, "countNear", "(I)I"⟩
abbrev cX2_doubt : ByteArray := prog_4_method_5_code
def yX2_doubt : MethodName := ⟨RX2, "doubt", "(II)Z"⟩
abbrev cX2_areNear : ByteArray := prog_4_method_6_code
def yX2_areNear : MethodName := ⟨RX2, "areNear", "(II)Z"⟩
def RX3 : String := "StockYard$Planner"
def TX3 : u_T := fun k => match k with
  | 0 => ("StockYard$Planner", "yard", "LStockYard$Yard;", true)
  | 1 => ("StockYard$Planner", "lots", "[I", true)
  | 2 => ("StockYard$Planner", "pens", "[I", true)
  | 3 => ("StockYard$Planner", "ways", "[LStockYard$Way;", true)
  | 4 => ("StockYard$Planner", "toldLots", "[I", true)
  | 5 => ("StockYard$Planner", "toldPens", "[I", true)
  | 6 => ("StockYard$Planner", "bestLots", "[I", true)
  | 7 => ("StockYard$Planner", "bestPens", "[I", true)
  | 8 => ("StockYard$Planner", "lotCount", "I", false)
  | 9 => ("StockYard$Planner", "penCount", "I", false)
  | 10 => ("StockYard$Planner", "usedLots", "I", false)
  | 11 => ("StockYard$Planner", "usedPens", "I", false)
  | 12 => ("StockYard$Planner", "now", "I", false)
  | 13 => ("StockYard$Planner", "soonest", "I", false)
  | _ => ("StockYard$Planner", "plannedSize", "I", false)
def tyX3 : Nat → FieldType := fun k => match k with
  | 0 => .object "StockYard$Yard"
  | 1 => .array .int
  | 2 => .array .int
  | 3 => .array (.object "StockYard$Way")
  | 4 => .array .int
  | 5 => .array .int
  | 6 => .array .int
  | 7 => .array .int
  | 8 => .int
  | 9 => .int
  | 10 => .int
  | 11 => .int
  | 12 => .int
  | 13 => .int
  | _ => .int
theorem nmX3 : ∀ a, a < 15 → ∀ b, b < 15 → a ≠ b → (TX3 a).2.1 ≠ (TX3 b).2.1 := by decide +kernel
theorem tyX3_ok : ∀ k, k < 15 → parseFieldDescriptor (TX3 k).2.2.1 = some (tyX3 k) := by decide +kernel
abbrev cX3_init : ByteArray := prog_5_method_1_code
def yX3_init : MethodName := ⟨RX3, "<init>", "(LStockYard$Yard;)V"⟩
abbrev cX3_clear : ByteArray := prog_5_method_2_code
def yX3_clear : MethodName := ⟨RX3, "clear", "()V"⟩
abbrev cX3_addPen : ByteArray := prog_5_method_3_code
def yX3_addPen : MethodName := ⟨RX3, "addPen", "(I)V"⟩
abbrev cX3_addLot : ByteArray := prog_5_method_4_code
def yX3_addLot : MethodName := ⟨RX3, "addLot", "(II)V"⟩
abbrev cX3_search : ByteArray := prog_5_method_5_code
def yX3_search : MethodName := ⟨RX3, "search", "(I)Z"⟩
abbrev cX3_plannedLot : ByteArray := prog_5_method_6_code
def yX3_plannedLot : MethodName := ⟨RX3, "plannedLot", "(I)I"⟩
abbrev cX3_plannedPen : ByteArray := prog_5_method_7_code
def yX3_plannedPen : MethodName := ⟨RX3, "plannedPen", "(I)I"⟩
abbrev cX3_tell : ByteArray := prog_5_method_8_code
def yX3_tell : MethodName := ⟨RX3, "tell", "(II)V"⟩
abbrev cX3_tellOne : ByteArray := prog_5_method_9_code
def yX3_tellOne : MethodName := ⟨RX3, "tellOne", "(IIII)V"⟩
abbrev cX3_keep : ByteArray := prog_5_method_10_code
def yX3_keep : MethodName := ⟨RX3, "keep", "(I)V"⟩
def RX4 : String := "StockYard$Row"
def TX4 : u_T := fun k => match k with
  | 0 => ("StockYard$Row", "numbers", "[I", true)
  | 1 => ("StockYard$Row", "size", "I", false)
  | _ => ("StockYard$Row", "there", "Z", false)
def tyX4 : Nat → FieldType := fun k => match k with
  | 0 => .array .int
  | 1 => .int
  | _ => .boolean
theorem nmX4 : ∀ a, a < 3 → ∀ b, b < 3 → a ≠ b → (TX4 a).2.1 ≠ (TX4 b).2.1 := by decide +kernel
theorem tyX4_ok : ∀ k, k < 3 → parseFieldDescriptor (TX4 k).2.2.1 = some (tyX4 k) := by decide +kernel
abbrev cX4_init : ByteArray := prog_6_method_1_code
def yX4_init : MethodName := ⟨RX4, "<init>", "()V"⟩
abbrev cX4_begin : ByteArray := prog_6_method_2_code
def yX4_begin : MethodName := ⟨RX4, "begin", "(I)V"⟩
abbrev cX4_addAt : ByteArray := prog_6_method_3_code
def yX4_addAt : MethodName := ⟨RX4, "addAt", "(II)V"⟩
abbrev cX4_at : ByteArray := prog_6_method_4_code
def yX4_at : MethodName := ⟨RX4, "at", "(I)I"⟩
abbrev cX4_spans : ByteArray := prog_6_method_5_code
def yX4_spans : MethodName := ⟨RX4, "spans", "(II)Z"⟩
abbrev cX4_move : ByteArray := prog_6_method_6_code
def yX4_move : MethodName := ⟨RX4, "move", "(III)V"⟩
def RX5 : String := "StockYard$Rule"
def TX5 : u_T := fun k => match k with
  | 0 => ("StockYard$Rule", "from", "I", true)
  | 1 => ("StockYard$Rule", "to", "I", true)
  | 2 => ("StockYard$Rule", "nots", "[Z", true)
  | 3 => ("StockYard$Rule", "fields", "[I", true)
  | 4 => ("StockYard$Rule", "signs", "[I", true)
  | 5 => ("StockYard$Rule", "numbers", "[I", true)
  | 6 => ("StockYard$Rule", "tests", "I", false)
  | 7 => ("StockYard$Rule", "key", "I", false)
  | _ => ("StockYard$Rule", "number", "I", false)
def tyX5 : Nat → FieldType := fun k => match k with
  | 0 => .int
  | 1 => .int
  | 2 => .array .boolean
  | 3 => .array .int
  | 4 => .array .int
  | 5 => .array .int
  | 6 => .int
  | 7 => .int
  | _ => .int
theorem nmX5 : ∀ a, a < 9 → ∀ b, b < 9 → a ≠ b → (TX5 a).2.1 ≠ (TX5 b).2.1 := by decide +kernel
theorem tyX5_ok : ∀ k, k < 9 → parseFieldDescriptor (TX5 k).2.2.1 = some (tyX5 k) := by decide +kernel
abbrev cX5_init : ByteArray := prog_7_method_1_code
def yX5_init : MethodName := ⟨RX5, "<init>", "(II)V"⟩
abbrev cX5_addTest : ByteArray := prog_7_method_2_code
def yX5_addTest : MethodName := ⟨RX5, "addTest", "(ZIII)V"⟩
abbrev cX5_appliesTo : ByteArray := prog_7_method_3_code
def yX5_appliesTo : MethodName := ⟨RX5, "appliesTo", "(LStockYard$Lot;II)Z"⟩
abbrev cX5_isMet : ByteArray := prog_7_method_4_code
def yX5_isMet : MethodName := ⟨RX5, "isMet", "(ILStockYard$Lot;II)Z"⟩
abbrev cX5_valueOf : ByteArray := prog_7_method_5_code
def yX5_valueOf : MethodName := ⟨RX5, "valueOf", "(ILStockYard$Lot;II)I"⟩
def RX6 : String := "StockYard$RuleBook"
def TX6 : u_T := fun k => match k with
  | _ => ("StockYard$RuleBook", "rules", "Ljava/util/ArrayList;", true)
def tyX6 : Nat → FieldType := fun k => match k with
  | _ => .object "java/util/ArrayList"
theorem nmX6 : ∀ a, a < 1 → ∀ b, b < 1 → a ≠ b → (TX6 a).2.1 ≠ (TX6 b).2.1 := by decide +kernel
theorem tyX6_ok : ∀ k, k < 1 → parseFieldDescriptor (TX6 k).2.2.1 = some (tyX6 k) := by decide +kernel
abbrev cX6_init : ByteArray := prog_8_method_1_code
def yX6_init : MethodName := ⟨RX6, "<init>", "()V"⟩
abbrev cX6_saying : ByteArray := prog_8_method_2_code
def yX6_saying : MethodName := ⟨RX6, "saying", "(ILStockYard$Lot;II)I"⟩
abbrev cX6_bars : ByteArray := prog_8_method_3_code
def yX6_bars : MethodName := ⟨RX6, "bars", "(ILStockYard$Lot;I)Z"⟩
abbrev cX6_isDry : ByteArray := prog_8_method_4_code
def yX6_isDry : MethodName := ⟨RX6, "isDry", "(LStockYard$Lot;I)Z"⟩
def RX7 : String := "StockYard$Sale"
def TX7 : u_T := fun k => match k with
  | 0 => ("StockYard$Sale", "prices", "[I", true)
  | 1 => ("StockYard$Sale", "turns", "[I", true)
  | 2 => ("StockYard$Sale", "turn", "I", false)
  | 3 => ("StockYard$Sale", "seen", "I", false)
  | 4 => ("StockYard$Sale", "price", "I", false)
  | 5 => ("StockYard$Sale", "weight", "I", false)
  | 6 => ("StockYard$Sale", "fees", "I", false)
  | 7 => ("StockYard$Sale", "buyer", "I", false)
  | 8 => ("StockYard$Sale", "money", "I", false)
  | 9 => ("StockYard$Sale", "paid", "Z", false)
  | _ => ("StockYard$Sale", "scale", "I", false)
def tyX7 : Nat → FieldType := fun k => match k with
  | 0 => .array .int
  | 1 => .array .int
  | 2 => .int
  | 3 => .int
  | 4 => .int
  | 5 => .int
  | 6 => .int
  | 7 => .int
  | 8 => .int
  | 9 => .boolean
  | _ => .int
theorem nmX7 : ∀ a, a < 11 → ∀ b, b < 11 → a ≠ b → (TX7 a).2.1 ≠ (TX7 b).2.1 := by decide +kernel
theorem tyX7_ok : ∀ k, k < 11 → parseFieldDescriptor (TX7 k).2.2.1 = some (tyX7 k) := by decide +kernel
abbrev cX7_init : ByteArray := prog_9_method_1_code
def yX7_init : MethodName := ⟨RX7, "<init>", "()V"⟩
abbrev cX7_isSold : ByteArray := prog_9_method_2_code
def yX7_isSold : MethodName := ⟨RX7, "isSold", "()Z"⟩
abbrev cX7_wasSeenBy : ByteArray := prog_9_method_3_code
def yX7_wasSeenBy : MethodName := ⟨RX7, "wasSeenBy", "(I)Z"⟩
abbrev cX7_show : ByteArray := prog_9_method_4_code
def yX7_show : MethodName := ⟨RX7, "show", "(I)V"⟩
abbrev cX7_offer : ByteArray := prog_9_method_5_code
def yX7_offer : MethodName := ⟨RX7, "offer", "(II)V"⟩
abbrev cX7_offers : ByteArray := prog_9_method_6_code
def yX7_offers : MethodName := ⟨RX7, "offers", "()I"⟩
abbrev cX7_close : ByteArray := prog_9_method_7_code
def yX7_close : MethodName := ⟨RX7, "close", "()V"⟩
abbrev cX7_pay : ByteArray := prog_9_method_8_code
def yX7_pay : MethodName := ⟨RX7, "pay", "(III)V"⟩
abbrev cX7_correct : ByteArray := prog_9_method_9_code
def yX7_correct : MethodName := ⟨RX7, "correct", "(I)V"⟩
abbrev cX7_moneyFor : ByteArray := prog_9_method_10_code
def yX7_moneyFor : MethodName := ⟨RX7, "moneyFor", "(I)I"⟩
def RX8 : String := "StockYard$Tape"
def TX8 : u_T := fun k => match k with
  | 0 => ("StockYard$Tape", "bytes", "[I", true)
  | 1 => ("StockYard$Tape", "size", "I", false)
  | _ => ("StockYard$Tape", "at", "I", false)
def tyX8 : Nat → FieldType := fun k => match k with
  | 0 => .array .int
  | 1 => .int
  | _ => .int
theorem nmX8 : ∀ a, a < 3 → ∀ b, b < 3 → a ≠ b → (TX8 a).2.1 ≠ (TX8 b).2.1 := by decide +kernel
theorem tyX8_ok : ∀ k, k < 3 → parseFieldDescriptor (TX8 k).2.2.1 = some (tyX8 k) := by decide +kernel
abbrev cX8_init : ByteArray := prog_10_method_1_code
def yX8_init : MethodName := ⟨RX8, "<init>", "()V"⟩
abbrev cX8_add : ByteArray := prog_10_method_2_code
def yX8_add : MethodName := ⟨RX8, "add", "(I)V"⟩
abbrev cX8_readRule : ByteArray := prog_10_method_3_code
def yX8_readRule : MethodName := ⟨RX8, "readRule", "(LStockYard$Rule;)Z"⟩
abbrev cX8_readTests : ByteArray := prog_10_method_4_code
def yX8_readTests : MethodName := ⟨RX8, "readTests", "(LStockYard$Rule;)Z"⟩
abbrev cX8_readTest : ByteArray := prog_10_method_5_code
def yX8_readTest : MethodName := ⟨RX8, "readTest", "(LStockYard$Rule;)Z"⟩
abbrev cX8_readSign : ByteArray := prog_10_method_6_code
def yX8_readSign : MethodName := ⟨RX8, "readSign", "(C)Z"⟩
abbrev cX8_readText : ByteArray := prog_10_method_7_code
def yX8_readText : MethodName := ⟨RX8, "readText", "(Ljava/lang/String;)Z"⟩
abbrev cX8_readWord : ByteArray := prog_10_method_8_code
def yX8_readWord : MethodName := ⟨RX8, "readWord", "(Z)I"⟩
abbrev cX8_readNumber : ByteArray := prog_10_method_9_code
def yX8_readNumber : MethodName := ⟨RX8, "readNumber", "()I"⟩
abbrev cX8_keyName : ByteArray := prog_10_method_10_code
def yX8_keyName : MethodName := ⟨RX8, "keyName", "(I)Ljava/lang/String;"⟩
abbrev cX8_fieldName : ByteArray := prog_10_method_11_code
def yX8_fieldName : MethodName := ⟨RX8, "fieldName", "(I)Ljava/lang/String;"⟩
def RX9 : String := "StockYard$Way"
def TX9 : u_T := fun k => match k with
  | 0 => ("StockYard$Way", "alleys", "[I", true)
  | 1 => ("StockYard$Way", "ahead", "[I", true)
  | 2 => ("StockYard$Way", "length", "I", false)
  | _ => ("StockYard$Way", "minutes", "I", false)
def tyX9 : Nat → FieldType := fun k => match k with
  | 0 => .array .int
  | 1 => .array .int
  | 2 => .int
  | _ => .int
theorem nmX9 : ∀ a, a < 4 → ∀ b, b < 4 → a ≠ b → (TX9 a).2.1 ≠ (TX9 b).2.1 := by decide +kernel
theorem tyX9_ok : ∀ k, k < 4 → parseFieldDescriptor (TX9 k).2.2.1 = some (tyX9 k) := by decide +kernel
abbrev cX9_init : ByteArray := prog_11_method_1_code
def yX9_init : MethodName := ⟨RX9, "<init>", "()V"⟩
abbrev cX9_clear : ByteArray := prog_11_method_2_code
def yX9_clear : MethodName := ⟨RX9, "clear", "()V"⟩
abbrev cX9_add : ByteArray := prog_11_method_3_code
def yX9_add : MethodName := ⟨RX9, "add", "(II)V"⟩
abbrev cX9_alleyAt : ByteArray := prog_11_method_4_code
def yX9_alleyAt : MethodName := ⟨RX9, "alleyAt", "(I)I"⟩
abbrev cX9_aheadOf : ByteArray := prog_11_method_5_code
def yX9_aheadOf : MethodName := ⟨RX9, "aheadOf", "(I)I"⟩
def RX10 : String := "StockYard$Yard"
def TX10 : u_T := fun k => match k with
  | 0 => ("StockYard$Yard", "alleys", "Ljava/util/ArrayList;", true)
  | 1 => ("StockYard$Yard", "kinds", "[I", true)
  | 2 => ("StockYard$Yard", "offs", "[I", true)
  | 3 => ("StockYard$Yard", "minutes", "[[I", true)
  | _ => ("StockYard$Yard", "places", "I", false)
def tyX10 : Nat → FieldType := fun k => match k with
  | 0 => .object "java/util/ArrayList"
  | 1 => .array .int
  | 2 => .array .int
  | 3 => .array (.array .int)
  | _ => .int
theorem nmX10 : ∀ a, a < 5 → ∀ b, b < 5 → a ≠ b → (TX10 a).2.1 ≠ (TX10 b).2.1 := by decide +kernel
theorem tyX10_ok : ∀ k, k < 5 → parseFieldDescriptor (TX10 k).2.2.1 = some (tyX10 k) := by decide +kernel
abbrev cX10_init : ByteArray := prog_12_method_1_code
def yX10_init : MethodName := ⟨RX10, "<init>", "()V"⟩
abbrev cX10_hasPlace : ByteArray := prog_12_method_2_code
def yX10_hasPlace : MethodName := ⟨RX10, "hasPlace", "(I)Z"⟩
abbrev cX10_kindOf : ByteArray := prog_12_method_3_code
def yX10_kindOf : MethodName := ⟨RX10, "kindOf", "(I)I"⟩
abbrev cX10_offOf : ByteArray := prog_12_method_4_code
def yX10_offOf : MethodName := ⟨RX10, "offOf", "(I)I"⟩
abbrev cX10_setOff : ByteArray := prog_12_method_5_code
def yX10_setOff : MethodName := ⟨RX10, "setOff", "(II)V"⟩
abbrev cX10_addPlace : ByteArray := prog_12_method_6_code
def yX10_addPlace : MethodName := ⟨RX10, "addPlace", "(I)I"⟩
abbrev cX10_addAlley : ByteArray := prog_12_method_7_code
def yX10_addAlley : MethodName := ⟨RX10, "addAlley", "(III)I"⟩
abbrev cX10_minutesBetween : ByteArray := prog_12_method_8_code
def yX10_minutesBetween : MethodName := ⟨RX10, "minutesBetween", "(II)I"⟩
abbrev cX10_find : ByteArray := prog_12_method_9_code
def yX10_find : MethodName := ⟨RX10, "find", "(IILStockYard$Way;)Z"⟩
abbrev cX10_leastAlleyToward : ByteArray := prog_12_method_10_code
def yX10_leastAlleyToward : MethodName := ⟨RX10, "leastAlleyToward", "(II)I"⟩
abbrev cX10_firstFree : ByteArray := prog_12_method_11_code
def yX10_firstFree : MethodName := ⟨RX10, "firstFree", "(LStockYard$Way;I)I"⟩
abbrev cX10_putOff : ByteArray := prog_12_method_12_code
def yX10_putOff : MethodName := ⟨RX10, "putOff", "(LStockYard$Way;I)I"⟩
abbrev cX10_take : ByteArray := prog_12_method_13_code
def yX10_take : MethodName := ⟨RX10, "take", "(LStockYard$Way;I)V"⟩
abbrev cX10_giveBack : ByteArray := prog_12_method_14_code
def yX10_giveBack : MethodName := ⟨RX10, "giveBack", "(LStockYard$Way;)V"⟩
abbrev cX10_forgetBefore : ByteArray := prog_12_method_15_code
def yX10_forgetBefore : MethodName := ⟨RX10, "forgetBefore", "(I)V"⟩
def RX11 : String := "StockYard"
def TX11 : u_T := fun k => match k with
  | 0 => ("StockYard", "yard", "LStockYard$Yard;", true)
  | 1 => ("StockYard", "lots", "Ljava/util/ArrayList;", true)
  | 2 => ("StockYard", "tape", "LStockYard$Tape;", true)
  | 3 => ("StockYard", "book", "LStockYard$RuleBook;", true)
  | 4 => ("StockYard", "marks", "LStockYard$MarkBook;", true)
  | 5 => ("StockYard", "planner", "LStockYard$Planner;", true)
  | 6 => ("StockYard", "headRow", "LStockYard$Row;", true)
  | 7 => ("StockYard", "route", "LStockYard$Way;", true)
  | 8 => ("StockYard", "refused", "[I", true)
  | _ => ("StockYard", "now", "I", false)
def tyX11 : Nat → FieldType := fun k => match k with
  | 0 => .object "StockYard$Yard"
  | 1 => .object "java/util/ArrayList"
  | 2 => .object "StockYard$Tape"
  | 3 => .object "StockYard$RuleBook"
  | 4 => .object "StockYard$MarkBook"
  | 5 => .object "StockYard$Planner"
  | 6 => .object "StockYard$Row"
  | 7 => .object "StockYard$Way"
  | 8 => .array .int
  | _ => .int
theorem nmX11 : ∀ a, a < 10 → ∀ b, b < 10 → a ≠ b → (TX11 a).2.1 ≠ (TX11 b).2.1 := by decide +kernel
theorem tyX11_ok : ∀ k, k < 10 → parseFieldDescriptor (TX11 k).2.2.1 = some (tyX11 k) := by decide +kernel
abbrev cX11_init : ByteArray := prog_1_method_1_code
def yX11_init : MethodName := ⟨RX11, "<init>", "()V"⟩
abbrev cX11_place : ByteArray := prog_1_method_2_code
def yX11_place : MethodName := ⟨RX11, "place", "(I)I"⟩
abbrev cX11_alley : ByteArray := prog_1_method_3_code
def yX11_alley : MethodName := ⟨RX11, "alley", "(III)I"⟩
abbrev cX11_way : ByteArray := prog_1_method_4_code
def yX11_way : MethodName := ⟨RX11, "way", "(II)I"⟩
abbrev cX11_by : ByteArray := prog_1_method_5_code
def yX11_by : MethodName := ⟨RX11, "by", "(III)I"⟩
abbrev cX11_lot : ByteArray := prog_1_method_6_code
def yX11_lot : MethodName := ⟨RX11, "lot", "(IIIII)I"⟩
abbrev cX11_sort : ByteArray := prog_1_method_7_code
def yX11_sort : MethodName := ⟨RX11, "sort", "(IIII)I"⟩
abbrev cX11_look : ByteArray := prog_1_method_8_code
def yX11_look : MethodName := ⟨RX11, "look", "(II)I"⟩
abbrev cX11_drive : ByteArray := prog_1_method_9_code
def yX11_drive : MethodName := ⟨RX11, "drive", "(II)I"⟩
abbrev cX11_water : ByteArray := prog_1_method_10_code
def yX11_water : MethodName := ⟨RX11, "water", "(I)I"⟩
abbrev cX11_hold : ByteArray := prog_1_method_11_code
def yX11_hold : MethodName := ⟨RX11, "hold", "(II)I"⟩
abbrev cX11_plan : ByteArray := prog_1_method_12_code
def yX11_plan : MethodName := ⟨RX11, "plan", "(II)I"⟩
abbrev cX11_planned : ByteArray := prog_1_method_13_code
def yX11_planned : MethodName := ⟨RX11, "planned", "(II)I"⟩
abbrev cX11_feed : ByteArray := prog_1_method_14_code
def yX11_feed : MethodName := ⟨RX11, "feed", "(II)I"⟩
abbrev cX11_wipe : ByteArray := prog_1_method_15_code
def yX11_wipe : MethodName := ⟨RX11, "wipe", "()I"⟩
abbrev cX11_rule : ByteArray := prog_1_method_16_code
def yX11_rule : MethodName := ⟨RX11, "rule", "(II)I"⟩
abbrev cX11_holds : ByteArray := prog_1_method_17_code
def yX11_holds : MethodName := ⟨RX11, "holds", "(III)I"⟩
abbrev cX11_said : ByteArray := prog_1_method_18_code
def yX11_said : MethodName := ⟨RX11, "said", "(II)I"⟩
abbrev cX11_see : ByteArray := prog_1_method_19_code
def yX11_see : MethodName := ⟨RX11, "see", "(II)I"⟩
abbrev cX11_bid : ByteArray := prog_1_method_20_code
def yX11_bid : MethodName := ⟨RX11, "bid", "(III)I"⟩
abbrev cX11_sell : ByteArray := prog_1_method_21_code
def yX11_sell : MethodName := ⟨RX11, "sell", "(I)I"⟩
abbrev cX11_weigh : ByteArray := prog_1_method_22_code
def yX11_weigh : MethodName := ⟨RX11, "weigh", "(I)I"⟩
abbrev cX11_off : ByteArray := prog_1_method_23_code
def yX11_off : MethodName := ⟨RX11, "off", "(II)I"⟩
abbrev cX11_test : ByteArray := prog_1_method_24_code
def yX11_test : MethodName := ⟨RX11, "test", "(I)I"⟩
abbrev cX11_account : ByteArray := prog_1_method_25_code
def yX11_account : MethodName := ⟨RX11, "account", "(I)J"⟩
abbrev cX11_write : ByteArray := prog_1_method_26_code
def yX11_write : MethodName := ⟨RX11, "write", "(II)I"⟩
abbrev cX11_whose : ByteArray := prog_1_method_27_code
def yX11_whose : MethodName := ⟨RX11, "whose", "(I)I"⟩
abbrev cX11_near : ByteArray := prog_1_method_28_code
def yX11_near : MethodName := ⟨RX11, "near", "(I)I"⟩
abbrev cX11_judge : ByteArray := prog_1_method_29_code
def yX11_judge : MethodName := ⟨RX11, "judge", "(II)I"⟩
abbrev cX11_run : ByteArray := prog_1_method_30_code
def yX11_run : MethodName := ⟨RX11, "run", "(I)I"⟩
abbrev cX11_count : ByteArray := prog_1_method_31_code
def yX11_count : MethodName := ⟨RX11, "count", "(I)I"⟩
abbrev cX11_lay : ByteArray := prog_1_method_32_code
def yX11_lay : MethodName := ⟨RX11, "lay", "()I"⟩
abbrev cX11_tear : ByteArray := prog_1_method_33_code
def yX11_tear : MethodName := ⟨RX11, "tear", "()I"⟩
abbrev cX11_row : ByteArray := prog_1_method_34_code
def yX11_row : MethodName := ⟨RX11, "row", "(I)I"⟩
abbrev cX11_copy : ByteArray := prog_1_method_35_code
def yX11_copy : MethodName := ⟨RX11, "copy", "(III)I"⟩
abbrev cX11_status : ByteArray := prog_1_method_36_code
def yX11_status : MethodName := ⟨RX11, "status", "(I)I"⟩
abbrev cX11_refuse : ByteArray := prog_1_method_37_code
def yX11_refuse : MethodName := ⟨RX11, "refuse", "(I)I"⟩
abbrev cX11_within : ByteArray := prog_1_method_38_code
def yX11_within : MethodName := ⟨RX11, "within", "(III)Z"⟩
abbrev cX11_inSet : ByteArray := prog_1_method_39_code
def yX11_inSet : MethodName := ⟨RX11, "inSet", "(II)Z"⟩
abbrev cX11_isOwner : ByteArray := prog_1_method_40_code
def yX11_isOwner : MethodName := ⟨RX11, "isOwner", "(I)Z"⟩
abbrev cX11_isBuyer : ByteArray := prog_1_method_41_code
def yX11_isBuyer : MethodName := ⟨RX11, "isBuyer", "(I)Z"⟩
abbrev cX11_isMark : ByteArray := prog_1_method_42_code
def yX11_isMark : MethodName := ⟨RX11, "isMark", "(I)Z"⟩
abbrev cX11_tellsOwner : ByteArray := prog_1_method_43_code
def yX11_tellsOwner : MethodName := ⟨RX11, "tellsOwner", "(I)Z"⟩
abbrev cX11_tellsHeads : ByteArray := prog_1_method_44_code
def yX11_tellsHeads : MethodName := ⟨RX11, "tellsHeads", "(I)Z"⟩
abbrev cX11_lotAt : ByteArray := prog_1_method_45_code
def yX11_lotAt : MethodName := ⟨RX11, "lotAt", "(I)LStockYard$Lot;"⟩
abbrev cX11_admit : ByteArray := prog_1_method_46_code
def yX11_admit : MethodName := ⟨RX11, "admit", "(LStockYard$Lot;)I"⟩
abbrev cX11_isIn : ByteArray := prog_1_method_47_code
def yX11_isIn : MethodName := ⟨RX11, "isIn", "(LStockYard$Lot;I)Z"⟩
abbrev cX11_hasLot : ByteArray := prog_1_method_48_code
def yX11_hasLot : MethodName := ⟨RX11, "hasLot", "(I)Z"⟩
abbrev cX11_mayBeDriven : ByteArray := prog_1_method_49_code
def yX11_mayBeDriven : MethodName := ⟨RX11, "mayBeDriven", "(LStockYard$Lot;)Z"⟩
abbrev cX11_isInDoubt : ByteArray := prog_1_method_50_code
def yX11_isInDoubt : MethodName := ⟨RX11, "isInDoubt", "(LStockYard$Lot;)Z"⟩
abbrev cX11_weightOf : ByteArray := prog_1_method_51_code
def yX11_weightOf : MethodName := ⟨RX11, "weightOf", "(LStockYard$Lot;)I"⟩
abbrev cX11_settle : ByteArray := prog_1_method_52_code
def yX11_settle : MethodName := ⟨RX11, "settle", "(II)I"⟩
abbrev cX11_lotsOnWay : ByteArray := prog_1_method_53_code
def yX11_lotsOnWay : MethodName := ⟨RX11, "lotsOnWay", "()I"⟩
abbrev cX11_dryLots : ByteArray := prog_1_method_54_code
def yX11_dryLots : MethodName := ⟨RX11, "dryLots", "()I"⟩
abbrev cX11_soldLots : ByteArray := prog_1_method_55_code
def yX11_soldLots : MethodName := ⟨RX11, "soldLots", "()I"⟩
abbrev cX11_headsAtHooks : ByteArray := prog_1_method_56_code
def yX11_headsAtHooks : MethodName := ⟨RX11, "headsAtHooks", "()I"⟩
abbrev cX11_arePens : ByteArray := prog_1_method_57_code
def yX11_arePens : MethodName := ⟨RX11, "arePens", "(I)Z"⟩
abbrev cX11_mayAllBeDriven : ByteArray := prog_1_method_58_code
def yX11_mayAllBeDriven : MethodName := ⟨RX11, "mayAllBeDriven", "(I)Z"⟩
abbrev cX11_hasLotInOne : ByteArray := prog_1_method_59_code
def yX11_hasLotInOne : MethodName := ⟨RX11, "hasLotInOne", "(I)Z"⟩
abbrev cX11_readyPlanner : ByteArray := prog_1_method_60_code
def yX11_readyPlanner : MethodName := ⟨RX11, "readyPlanner", "(II)V"⟩
def RX12 : String := "StockYardModel"
def TX12 : u_T := fun k => match k with
  | 0 => ("StockYardModel", "thrown", "I", false)
  | 1 => ("StockYardModel", "refusals", "[I", true)
  | 2 => ("StockYardModel", "minute", "I", false)
  | 3 => ("StockYardModel", "places", "I", false)
  | 4 => ("StockYardModel", "placeKind", "[I", true)
  | 5 => ("StockYardModel", "offs", "[I", true)
  | 6 => ("StockYardModel", "alleys", "I", false)
  | 7 => ("StockYardModel", "endA", "[I", true)
  | 8 => ("StockYardModel", "endB", "[I", true)
  | 9 => ("StockYardModel", "takes", "[I", true)
  | 10 => ("StockYardModel", "far", "[I", true)
  | 11 => ("StockYardModel", "way", "[I", true)
  | 12 => ("StockYardModel", "waySize", "I", false)
  | 13 => ("StockYardModel", "taken", "I", false)
  | 14 => ("StockYardModel", "takenAlley", "[I", true)
  | 15 => ("StockYardModel", "takenFrom", "[I", true)
  | 16 => ("StockYardModel", "takenTo", "[I", true)
  | 17 => ("StockYardModel", "lots", "I", false)
  | 18 => ("StockYardModel", "kind", "[I", true)
  | 19 => ("StockYardModel", "owner", "[I", true)
  | 20 => ("StockYardModel", "heads", "[I", true)
  | 21 => ("StockYardModel", "pounds", "[I", true)
  | 22 => ("StockYardModel", "mark", "[I", true)
  | 23 => ("StockYardModel", "at", "[I", true)
  | 24 => ("StockYardModel", "goesTo", "[I", true)
  | 25 => ("StockYardModel", "comes", "[I", true)
  | 26 => ("StockYardModel", "watered", "[I", true)
  | 27 => ("StockYardModel", "judged", "[Z", true)
  | 28 => ("StockYardModel", "soldTo", "[I", true)
  | 29 => ("StockYardModel", "soldFor", "[I", true)
  | 30 => ("StockYardModel", "weighed", "[Z", true)
  | 31 => ("StockYardModel", "money", "[I", true)
  | 32 => ("StockYardModel", "feeThen", "[I", true)
  | 33 => ("StockYardModel", "weightThen", "[I", true)
  | 34 => ("StockYardModel", "byScale", "[I", true)
  | 35 => ("StockYardModel", "seen", "[Z", true)
  | 36 => ("StockYardModel", "bids", "[I", true)
  | 37 => ("StockYardModel", "bidAt", "[I", true)
  | 38 => ("StockYardModel", "bidding", "I", false)
  | 39 => ("StockYardModel", "hasMoney", "[Z", true)
  | 40 => ("StockYardModel", "many", "I", false)
  | 41 => ("StockYardModel", "planLot", "[I", true)
  | 42 => ("StockYardModel", "planPen", "[I", true)
  | 43 => ("StockYardModel", "bestLot", "[I", true)
  | 44 => ("StockYardModel", "bestPen", "[I", true)
  | 45 => ("StockYardModel", "bestSize", "I", false)
  | 46 => ("StockYardModel", "bestLast", "I", false)
  | 47 => ("StockYardModel", "planSize", "I", false)
  | 48 => ("StockYardModel", "rules", "I", false)
  | 49 => ("StockYardModel", "key", "[I", true)
  | 50 => ("StockYardModel", "says", "[I", true)
  | 51 => ("StockYardModel", "from", "[I", true)
  | 52 => ("StockYardModel", "to", "[I", true)
  | 53 => ("StockYardModel", "tests", "[I", true)
  | 54 => ("StockYardModel", "not", "[Z", true)
  | 55 => ("StockYardModel", "field", "[I", true)
  | 56 => ("StockYardModel", "sign", "[I", true)
  | 57 => ("StockYardModel", "against", "[I", true)
  | 58 => ("StockYardModel", "taped", "I", false)
  | 59 => ("StockYardModel", "tape", "[I", true)
  | 60 => ("StockYardModel", "now", "I", false)
  | 61 => ("StockYardModel", "place", "I", false)
  | 62 => ("StockYardModel", "isWrong", "Z", false)
  | 63 => ("StockYardModel", "marks", "I", false)
  | 64 => ("StockYardModel", "written", "[I", true)
  | 65 => ("StockYardModel", "writtenFor", "[I", true)
  | 66 => ("StockYardModel", "isRow", "Z", false)
  | 67 => ("StockYardModel", "numbers", "I", false)
  | _ => ("StockYardModel", "row", "[I", true)
def tyX12 : Nat → FieldType := fun k => match k with
  | 0 => .int
  | 1 => .array .int
  | 2 => .int
  | 3 => .int
  | 4 => .array .int
  | 5 => .array .int
  | 6 => .int
  | 7 => .array .int
  | 8 => .array .int
  | 9 => .array .int
  | 10 => .array .int
  | 11 => .array .int
  | 12 => .int
  | 13 => .int
  | 14 => .array .int
  | 15 => .array .int
  | 16 => .array .int
  | 17 => .int
  | 18 => .array .int
  | 19 => .array .int
  | 20 => .array .int
  | 21 => .array .int
  | 22 => .array .int
  | 23 => .array .int
  | 24 => .array .int
  | 25 => .array .int
  | 26 => .array .int
  | 27 => .array .boolean
  | 28 => .array .int
  | 29 => .array .int
  | 30 => .array .boolean
  | 31 => .array .int
  | 32 => .array .int
  | 33 => .array .int
  | 34 => .array .int
  | 35 => .array .boolean
  | 36 => .array .int
  | 37 => .array .int
  | 38 => .int
  | 39 => .array .boolean
  | 40 => .int
  | 41 => .array .int
  | 42 => .array .int
  | 43 => .array .int
  | 44 => .array .int
  | 45 => .int
  | 46 => .int
  | 47 => .int
  | 48 => .int
  | 49 => .array .int
  | 50 => .array .int
  | 51 => .array .int
  | 52 => .array .int
  | 53 => .array .int
  | 54 => .array .boolean
  | 55 => .array .int
  | 56 => .array .int
  | 57 => .array .int
  | 58 => .int
  | 59 => .array .int
  | 60 => .int
  | 61 => .int
  | 62 => .boolean
  | 63 => .int
  | 64 => .array .int
  | 65 => .array .int
  | 66 => .boolean
  | 67 => .int
  | _ => .array .int
theorem nmX12 : ∀ a, a < 69 → ∀ b, b < 69 → a ≠ b → (TX12 a).2.1 ≠ (TX12 b).2.1 := by decide +kernel
theorem tyX12_ok : ∀ k, k < 69 → parseFieldDescriptor (TX12 k).2.2.1 = some (tyX12 k) := by decide +kernel
abbrev cX12_init : ByteArray := prog_14_method_1_code
def yX12_init : MethodName := ⟨RX12, "<init>", "()V"⟩
abbrev cX12_in : ByteArray := prog_14_method_3_code
def yX12_in : MethodName := ⟨RX12, "in", "(III)Z"⟩
abbrev cX12_refused : ByteArray := prog_14_method_4_code
def yX12_refused : MethodName := ⟨RX12, "refused", "(I)I"⟩
abbrev cX12_status : ByteArray := prog_14_method_5_code
def yX12_status : MethodName := ⟨RX12, "status", "(I)I"⟩
abbrev cX12_isPlace : ByteArray := prog_14_method_6_code
def yX12_isPlace : MethodName := ⟨RX12, "isPlace", "(I)Z"⟩
abbrev cX12_place : ByteArray := prog_14_method_7_code
def yX12_place : MethodName := ⟨RX12, "place", "(I)I"⟩
abbrev cX12_alley : ByteArray := prog_14_method_8_code
def yX12_alley : MethodName := ⟨RX12, "alley", "(III)I"⟩
abbrev cX12_other : ByteArray := prog_14_method_9_code
def yX12_other : MethodName := ⟨RX12, "other", "(II)I"⟩
abbrev cX12_walk : ByteArray := prog_14_method_10_code
def yX12_walk : MethodName := ⟨RX12, "walk", "(II)I"⟩
abbrev cX12_way : ByteArray := prog_14_method_11_code
def yX12_way : MethodName := ⟨RX12, "way", "(II)I"⟩
abbrev cX12_by : ByteArray := prog_14_method_12_code
def yX12_by : MethodName := ⟨RX12, "by", "(III)I"⟩
abbrev cX12_isFree : ByteArray := prog_14_method_13_code
def yX12_isFree : MethodName := ⟨RX12, "isFree", "(III)Z"⟩
abbrev cX12_mayBegin : ByteArray := prog_14_method_14_code
def yX12_mayBegin : MethodName := ⟨RX12, "mayBegin", "(I)Z"⟩
abbrev cX12_goes : ByteArray := prog_14_method_15_code
def yX12_goes : MethodName := ⟨RX12, "goes", "()I"⟩
abbrev cX12_isLot : ByteArray := prog_14_method_16_code
def yX12_isLot : MethodName := ⟨RX12, "isLot", "(I)Z"⟩
abbrev cX12_isMark : ByteArray := prog_14_method_17_code
def yX12_isMark : MethodName := ⟨RX12, "isMark", "(I)Z"⟩
abbrev cX12_isTaken : ByteArray := prog_14_method_18_code
def yX12_isTaken : MethodName := ⟨RX12, "isTaken", "(I)Z"⟩
abbrev cX12_comes : ByteArray := prog_14_method_19_code
def yX12_comes : MethodName := ⟨RX12, "comes", "(IIIIIII)I"⟩
abbrev cX12_lot : ByteArray := prog_14_method_20_code
def yX12_lot : MethodName := ⟨RX12, "lot", "(IIIII)I"⟩
abbrev cX12_isInPen : ByteArray := prog_14_method_21_code
def yX12_isInPen : MethodName := ⟨RX12, "isInPen", "(I)Z"⟩
abbrev cX12_sort : ByteArray := prog_14_method_22_code
def yX12_sort : MethodName := ⟨RX12, "sort", "(IIII)I"⟩
abbrev cX12_look : ByteArray := prog_14_method_23_code
def yX12_look : MethodName := ⟨RX12, "look", "(II)I"⟩
abbrev cX12_drive : ByteArray := prog_14_method_24_code
def yX12_drive : MethodName := ⟨RX12, "drive", "(II)I"⟩
abbrev cX12_water : ByteArray := prog_14_method_25_code
def yX12_water : MethodName := ⟨RX12, "water", "(I)I"⟩
abbrev cX12_hold : ByteArray := prog_14_method_26_code
def yX12_hold : MethodName := ⟨RX12, "hold", "(II)I"⟩
abbrev cX12_tries : ByteArray := prog_14_method_27_code
def yX12_tries : MethodName := ⟨RX12, "tries", "(IIII)V"⟩
abbrev cX12_bits : ByteArray := prog_14_method_28_code
def yX12_bits : MethodName := ⟨RX12, "bits", "(I)I"⟩
abbrev cX12_plan : ByteArray := prog_14_method_29_code
def yX12_plan : MethodName := ⟨RX12, "plan", "(II)I"⟩
abbrev cX12_planned : ByteArray := prog_14_method_30_code
def yX12_planned : MethodName := ⟨RX12, "planned", "(II)I"⟩
abbrev cX12_feed : ByteArray := prog_14_method_31_code
def yX12_feed : MethodName := ⟨RX12, "feed", "(II)I"⟩
abbrev cX12_wipe : ByteArray := prog_14_method_32_code
def yX12_wipe : MethodName := ⟨RX12, "wipe", "()I"⟩
abbrev cX12_here : ByteArray := prog_14_method_33_code
def yX12_here : MethodName := ⟨RX12, "here", "()I"⟩
abbrev cX12_one : ByteArray := prog_14_method_34_code
def yX12_one : MethodName := ⟨RX12, "one", "(I)V"⟩
abbrev cX12_letters : ByteArray := prog_14_method_35_code
def yX12_letters : MethodName := ⟨RX12, "letters", "(J)V"⟩
abbrev cX12_named : ByteArray := prog_14_method_36_code
def yX12_named : MethodName := ⟨RX12, "named", "(IIIIII)J"⟩
abbrev cX12_keyHere : ByteArray := prog_14_method_37_code
def yX12_keyHere : MethodName := ⟨RX12, "keyHere", "()I"⟩
abbrev cX12_fieldHere : ByteArray := prog_14_method_38_code
def yX12_fieldHere : MethodName := ⟨RX12, "fieldHere", "()I"⟩
abbrev cX12_numberHere : ByteArray := prog_14_method_39_code
def yX12_numberHere : MethodName := ⟨RX12, "numberHere", "()I"⟩
abbrev cX12_testHere : ByteArray := prog_14_method_40_code
def yX12_testHere : MethodName := ⟨RX12, "testHere", "()V"⟩
abbrev cX12_readRule : ByteArray := prog_14_method_41_code
def yX12_readRule : MethodName := ⟨RX12, "readRule", "()V"⟩
abbrev cX12_rule : ByteArray := prog_14_method_42_code
def yX12_rule : MethodName := ⟨RX12, "rule", "(II)I"⟩
abbrev cX12_valueOf : ByteArray := prog_14_method_43_code
def yX12_valueOf : MethodName := ⟨RX12, "valueOf", "(III)I"⟩
abbrev cX12_isSo : ByteArray := prog_14_method_44_code
def yX12_isSo : MethodName := ⟨RX12, "isSo", "(III)Z"⟩
abbrev cX12_holdsFor : ByteArray := prog_14_method_45_code
def yX12_holdsFor : MethodName := ⟨RX12, "holdsFor", "(III)Z"⟩
abbrev cX12_holds : ByteArray := prog_14_method_46_code
def yX12_holds : MethodName := ⟨RX12, "holds", "(III)I"⟩
abbrev cX12_saidBy : ByteArray := prog_14_method_47_code
def yX12_saidBy : MethodName := ⟨RX12, "saidBy", "(III)I"⟩
abbrev cX12_said : ByteArray := prog_14_method_48_code
def yX12_said : MethodName := ⟨RX12, "said", "(II)I"⟩
abbrev cX12_isBarred : ByteArray := prog_14_method_49_code
def yX12_isBarred : MethodName := ⟨RX12, "isBarred", "(II)Z"⟩
abbrev cX12_thirst : ByteArray := prog_14_method_50_code
def yX12_thirst : MethodName := ⟨RX12, "thirst", "(I)I"⟩
abbrev cX12_isDry : ByteArray := prog_14_method_51_code
def yX12_isDry : MethodName := ⟨RX12, "isDry", "(I)Z"⟩
abbrev cX12_isBuyer : ByteArray := prog_14_method_52_code
def yX12_isBuyer : MethodName := ⟨RX12, "isBuyer", "(I)Z"⟩
abbrev cX12_see : ByteArray := prog_14_method_53_code
def yX12_see : MethodName := ⟨RX12, "see", "(II)I"⟩
abbrev cX12_bid : ByteArray := prog_14_method_54_code
def yX12_bid : MethodName := ⟨RX12, "bid", "(III)I"⟩
abbrev cX12_sell : ByteArray := prog_14_method_55_code
def yX12_sell : MethodName := ⟨RX12, "sell", "(I)I"⟩
abbrev cX12_moneyFor : ByteArray := prog_14_method_56_code
def yX12_moneyFor : MethodName := ⟨RX12, "moneyFor", "(II)I"⟩
abbrev cX12_weigh : ByteArray := prog_14_method_57_code
def yX12_weigh : MethodName := ⟨RX12, "weigh", "(I)I"⟩
abbrev cX12_noScale : ByteArray := prog_14_method_58_code
def yX12_noScale : MethodName := ⟨RX12, "noScale", "(II)I"⟩
abbrev cX12_off : ByteArray := prog_14_method_59_code
def yX12_off : MethodName := ⟨RX12, "off", "(II)I"⟩
abbrev cX12_test : ByteArray := prog_14_method_60_code
def yX12_test : MethodName := ⟨RX12, "test", "(I)I"⟩
abbrev cX12_account : ByteArray := prog_14_method_61_code
def yX12_account : MethodName := ⟨RX12, "account", "(I)J"⟩
abbrev cX12_isNear : ByteArray := prog_14_method_62_code
def yX12_isNear : MethodName := ⟨RX12, "isNear", "(II)Z"⟩
abbrev cX12_find : ByteArray := prog_14_method_63_code
def yX12_find : MethodName := ⟨RX12, "find", "(I)I"⟩
abbrev cX12_isInDoubt : ByteArray := prog_14_method_64_code
def yX12_isInDoubt : MethodName := ⟨RX12, "isInDoubt", "(I)Z"⟩
abbrev cX12_write : ByteArray := prog_14_method_65_code
def yX12_write : MethodName := ⟨RX12, "write", "(II)I"⟩
abbrev cX12_whose : ByteArray := prog_14_method_66_code
def yX12_whose : MethodName := ⟨RX12, "whose", "(I)I"⟩
abbrev cX12_near : ByteArray := prog_14_method_67_code
def yX12_near : MethodName := ⟨RX12, "near", "(I)I"⟩
abbrev cX12_judge : ByteArray := prog_14_method_68_code
def yX12_judge : MethodName := ⟨RX12, "judge", "(II)I"⟩
abbrev cX12_forget : ByteArray := prog_14_method_69_code
def yX12_forget : MethodName := ⟨RX12, "forget", "()V"⟩
abbrev cX12_run : ByteArray := prog_14_method_70_code
def yX12_run : MethodName := ⟨RX12, "run", "(I)I"⟩
abbrev cX12_count : ByteArray := prog_14_method_71_code
def yX12_count : MethodName := ⟨RX12, "count", "(I)I"⟩
abbrev cX12_lay : ByteArray := prog_14_method_72_code
def yX12_lay : MethodName := ⟨RX12, "lay", "()I"⟩
abbrev cX12_tear : ByteArray := prog_14_method_73_code
def yX12_tear : MethodName := ⟨RX12, "tear", "()I"⟩
abbrev cX12_row : ByteArray := prog_14_method_74_code
def yX12_row : MethodName := ⟨RX12, "row", "(I)I"⟩
abbrev cX12_copy : ByteArray := prog_14_method_75_code
def yX12_copy : MethodName := ⟨RX12, "copy", "(III)I"⟩
def RJx145de : String := "java/io/Serializable"
def TJx145de : u_T := fun k => match k with
  | _ => ("", "", "", false)
def tyJx145de : Nat → FieldType := fun k => match k with
  | _ => .int
theorem nmJx145de : ∀ a, a < 0 → ∀ b, b < 0 → a ≠ b → (TJx145de a).2.1 ≠ (TJx145de b).2.1 := by decide +kernel
theorem tyJx145de_ok : ∀ k, k < 0 → parseFieldDescriptor (TJx145de k).2.2.1 = some (tyJx145de k) := by decide +kernel
def RJx8e188 : String := "java/lang/Cloneable"
def TJx8e188 : u_T := fun k => match k with
  | _ => ("", "", "", false)
def tyJx8e188 : Nat → FieldType := fun k => match k with
  | _ => .int
theorem nmJx8e188 : ∀ a, a < 0 → ∀ b, b < 0 → a ≠ b → (TJx8e188 a).2.1 ≠ (TJx8e188 b).2.1 := by decide +kernel
theorem tyJx8e188_ok : ∀ k, k < 0 → parseFieldDescriptor (TJx8e188 k).2.2.1 = some (tyJx8e188 k) := by decide +kernel
def RJ6 : String := "java/lang/Integer"
def TJ6 : u_T := fun k => match k with
  | _ => ("", "", "", false)
def tyJ6 : Nat → FieldType := fun k => match k with
  | _ => .int
theorem nmJ6 : ∀ a, a < 0 → ∀ b, b < 0 → a ≠ b → (TJ6 a).2.1 ≠ (TJ6 b).2.1 := by decide +kernel
theorem tyJ6_ok : ∀ k, k < 0 → parseFieldDescriptor (TJ6 k).2.2.1 = some (tyJ6 k) := by decide +kernel
abbrev cJ6_bitCount_0f7a4 : ByteArray := prog_17_method_49_code
def yJ6_bitCount_0f7a4 : MethodName := ⟨RJ6, "bitCount", "(I)I"⟩
def RJxab1ab : String := "java/lang/Iterable"
def TJxab1ab : u_T := fun k => match k with
  | _ => ("", "", "", false)
def tyJxab1ab : Nat → FieldType := fun k => match k with
  | _ => .int
theorem nmJxab1ab : ∀ a, a < 0 → ∀ b, b < 0 → a ≠ b → (TJxab1ab a).2.1 ≠ (TJxab1ab b).2.1 := by decide +kernel
theorem tyJxab1ab_ok : ∀ k, k < 0 → parseFieldDescriptor (TJxab1ab k).2.2.1 = some (tyJxab1ab k) := by decide +kernel
def RJ9 : String := "java/lang/Math"
def TJ9 : u_T := fun k => match k with
  | _ => ("", "", "", false)
def tyJ9 : Nat → FieldType := fun k => match k with
  | _ => .int
theorem nmJ9 : ∀ a, a < 0 → ∀ b, b < 0 → a ≠ b → (TJ9 a).2.1 ≠ (TJ9 b).2.1 := by decide +kernel
theorem tyJ9_ok : ∀ k, k < 0 → parseFieldDescriptor (TJ9 k).2.2.1 = some (tyJ9 k) := by decide +kernel
abbrev cJ9_max_7cf53 : ByteArray := prog_19_method_65_code
def yJ9_max_7cf53 : MethodName := ⟨RJ9, "max", "(II)I"⟩
abbrev cJ9_min_7cf53 : ByteArray := prog_19_method_69_code
def yJ9_min_7cf53 : MethodName := ⟨RJ9, "min", "(II)I"⟩
def RJ0 : String := "java/lang/String"
def TJ0 : u_T := fun k => match k with
  | _ => ("", "", "", false)
def tyJ0 : Nat → FieldType := fun k => match k with
  | _ => .int
theorem nmJ0 : ∀ a, a < 0 → ∀ b, b < 0 → a ≠ b → (TJ0 a).2.1 ≠ (TJ0 b).2.1 := by decide +kernel
theorem tyJ0_ok : ∀ k, k < 0 → parseFieldDescriptor (TJ0 k).2.2.1 = some (tyJ0 k) := by decide +kernel
abbrev cJ0_length_8abf5 : ByteArray := prog_20_method_54_code
def yJ0_length_8abf5 : MethodName := ⟨RJ0, "length", "()I"⟩
abbrev cJ0_charAt_5068e : ByteArray := prog_20_method_56_code
def yJ0_charAt_5068e : MethodName := ⟨RJ0, "charAt", "(I)C"⟩
abbrev cJ0_coder_7d493 : ByteArray := prog_20_method_152_code
def yJ0_coder_7d493 : MethodName := ⟨RJ0, "coder", "()B"⟩
abbrev cJ0_isLatin1_aae02 : ByteArray := prog_20_method_154_code
def yJ0_isLatin1_aae02 : MethodName := ⟨RJ0, "isLatin1", "()Z"⟩
abbrev cJ0_checkIndex_df160 : ByteArray := prog_20_method_155_code
def yJ0_checkIndex_df160 : MethodName := ⟨RJ0, "checkIndex", "(II)V"⟩
def RJ1 : String := "java/lang/StringLatin1"
def TJ1 : u_T := fun k => match k with
  | _ => ("", "", "", false)
def tyJ1 : Nat → FieldType := fun k => match k with
  | _ => .int
theorem nmJ1 : ∀ a, a < 0 → ∀ b, b < 0 → a ≠ b → (TJ1 a).2.1 ≠ (TJ1 b).2.1 := by decide +kernel
theorem tyJ1_ok : ∀ k, k < 0 → parseFieldDescriptor (TJ1 k).2.2.1 = some (tyJ1 k) := by decide +kernel
abbrev cJ1_charAt_3b067 : ByteArray := prog_21_method_2_code
def yJ1_charAt_3b067 : MethodName := ⟨RJ1, "charAt", "([BI)C"⟩
def RJ2 : String := "java/lang/StringUTF16"
def TJ2 : u_T := fun k => match k with
  | _ => ("", "", "", false)
def tyJ2 : Nat → FieldType := fun k => match k with
  | _ => .int
theorem nmJ2 : ∀ a, a < 0 → ∀ b, b < 0 → a ≠ b → (TJ2 a).2.1 ≠ (TJ2 b).2.1 := by decide +kernel
theorem tyJ2_ok : ∀ k, k < 0 → parseFieldDescriptor (TJ2 k).2.2.1 = some (tyJ2 k) := by decide +kernel
abbrev cJ2_getChar_3b067 : ByteArray := prog_22_method_5_code
def yJ2_getChar_3b067 : MethodName := ⟨RJ2, "getChar", "([BI)C"⟩
abbrev cJ2_length_9d52b : ByteArray := prog_22_method_6_code
def yJ2_length_9d52b : MethodName := ⟨RJ2, "length", "([B)I"⟩
abbrev cJ2_charAt_3b067 : ByteArray := prog_22_method_83_code
def yJ2_charAt_3b067 : MethodName := ⟨RJ2, "charAt", "([BI)C"⟩
abbrev cJ2_checkIndex_2214a : ByteArray := prog_22_method_91_code
def yJ2_checkIndex_2214a : MethodName := ⟨RJ2, "checkIndex", "(I[B)V"⟩
def RJ10 : String := "java/lang/System"
def TJ10 : u_T := fun k => match k with
  | _ => ("", "", "", false)
def tyJ10 : Nat → FieldType := fun k => match k with
  | _ => .int
theorem nmJ10 : ∀ a, a < 0 → ∀ b, b < 0 → a ≠ b → (TJ10 a).2.1 ≠ (TJ10 b).2.1 := by decide +kernel
theorem tyJ10_ok : ∀ k, k < 0 → parseFieldDescriptor (TJ10 k).2.2.1 = some (tyJ10 k) := by decide +kernel
def RJxa1e45 : String := "java/util/AbstractCollection"
def TJxa1e45 : u_T := fun k => match k with
  | _ => ("", "", "", false)
def tyJxa1e45 : Nat → FieldType := fun k => match k with
  | _ => .int
theorem nmJxa1e45 : ∀ a, a < 0 → ∀ b, b < 0 → a ≠ b → (TJxa1e45 a).2.1 ≠ (TJxa1e45 b).2.1 := by decide +kernel
theorem tyJxa1e45_ok : ∀ k, k < 0 → parseFieldDescriptor (TJxa1e45 k).2.2.1 = some (tyJxa1e45 k) := by decide +kernel
abbrev cJxa1e45_init_da8c8 : ByteArray := prog_24_method_1_code
def yJxa1e45_init_da8c8 : MethodName := ⟨RJxa1e45, "<init>", "()V"⟩
def RJxc12de : String := "java/util/AbstractList"
def TJxc12de : u_T := fun k => match k with
  | _ => ("", "", "", false)
def tyJxc12de : Nat → FieldType := fun k => match k with
  | _ => .int
theorem nmJxc12de : ∀ a, a < 0 → ∀ b, b < 0 → a ≠ b → (TJxc12de a).2.1 ≠ (TJxc12de b).2.1 := by decide +kernel
theorem tyJxc12de_ok : ∀ k, k < 0 → parseFieldDescriptor (TJxc12de k).2.2.1 = some (tyJxc12de k) := by decide +kernel
abbrev cJxc12de_init_da8c8 : ByteArray := prog_25_method_1_code
def yJxc12de_init_da8c8 : MethodName := ⟨RJxc12de, "<init>", "()V"⟩
def RJx4a65c : String := "java/util/ArrayList"
def TJx4a65c : u_T := fun k => match k with
  | 0 => ("java/util/AbstractList", "modCount", "I", false)
  | 1 => ("java/util/ArrayList", "elementData", "[Ljava/lang/Object;", false)
  | _ => ("java/util/ArrayList", "size", "I", false)
def tyJx4a65c : Nat → FieldType := fun k => match k with
  | 0 => .int
  | 1 => .array (.object "java/lang/Object")
  | _ => .int
theorem nmJx4a65c : ∀ a, a < 3 → ∀ b, b < 3 → a ≠ b → (TJx4a65c a).2.1 ≠ (TJx4a65c b).2.1 := by decide +kernel
theorem tyJx4a65c_ok : ∀ k, k < 3 → parseFieldDescriptor (TJx4a65c k).2.2.1 = some (tyJx4a65c k) := by decide +kernel
abbrev cJx4a65c_init_da8c8 : ByteArray := prog_26_method_2_code
def yJx4a65c_init_da8c8 : MethodName := ⟨RJx4a65c, "<init>", "()V"⟩
abbrev cJx4a65c_grow_92f84 : ByteArray := prog_26_method_6_code
def yJx4a65c_grow_92f84 : MethodName := ⟨RJx4a65c, "grow", "(I)[Ljava/lang/Object;"⟩
abbrev cJx4a65c_grow_d5877 : ByteArray := prog_26_method_7_code
def yJx4a65c_grow_d5877 : MethodName := ⟨RJx4a65c, "grow", "()[Ljava/lang/Object;"⟩
abbrev cJx4a65c_size_8abf5 : ByteArray := prog_26_method_8_code
def yJx4a65c_size_8abf5 : MethodName := ⟨RJx4a65c, "size", "()I"⟩
abbrev cJx4a65c_elementData_915e3 : ByteArray := prog_26_method_18_code
def yJx4a65c_elementData_915e3 : MethodName := ⟨RJx4a65c, "elementData", "(I)Ljava/lang/Object;"⟩
abbrev cJx4a65c_get_915e3 : ByteArray := prog_26_method_20_code
def yJx4a65c_get_915e3 : MethodName := ⟨RJx4a65c, "get", "(I)Ljava/lang/Object;"⟩
abbrev cJx4a65c_add_72be8 : ByteArray := prog_26_method_24_code
def yJx4a65c_add_72be8 : MethodName := ⟨RJx4a65c, "add", "(Ljava/lang/Object;[Ljava/lang/Object;I)V"⟩
abbrev cJx4a65c_add_9ea2d : ByteArray := prog_26_method_25_code
def yJx4a65c_add_9ea2d : MethodName := ⟨RJx4a65c, "add", "(Ljava/lang/Object;)Z"⟩
def RJ7 : String := "java/util/Arrays"
def TJ7 : u_T := fun k => match k with
  | _ => ("", "", "", false)
def tyJ7 : Nat → FieldType := fun k => match k with
  | _ => .int
theorem nmJ7 : ∀ a, a < 0 → ∀ b, b < 0 → a ≠ b → (TJ7 a).2.1 ≠ (TJ7 b).2.1 := by decide +kernel
theorem tyJ7_ok : ∀ k, k < 0 → parseFieldDescriptor (TJ7 k).2.2.1 = some (tyJ7 k) := by decide +kernel
abbrev cJ7_copyOf_1904c : ByteArray := prog_27_method_119_code
def yJ7_copyOf_1904c : MethodName := ⟨RJ7, "copyOf", "([Ljava/lang/Object;I)[Ljava/lang/Object;"⟩
abbrev cJ7_copyOf_6403c : ByteArray := prog_27_method_120_code
def yJ7_copyOf_6403c : MethodName := ⟨RJ7, "copyOf", "([Ljava/lang/Object;ILjava/lang/Class;)[Ljava/lang/Object;"⟩
def RJx5ef63 : String := "java/util/Collection"
def TJx5ef63 : u_T := fun k => match k with
  | _ => ("", "", "", false)
def tyJx5ef63 : Nat → FieldType := fun k => match k with
  | _ => .int
theorem nmJx5ef63 : ∀ a, a < 0 → ∀ b, b < 0 → a ≠ b → (TJx5ef63 a).2.1 ≠ (TJx5ef63 b).2.1 := by decide +kernel
theorem tyJx5ef63_ok : ∀ k, k < 0 → parseFieldDescriptor (TJx5ef63 k).2.2.1 = some (tyJx5ef63 k) := by decide +kernel
def RJxbd725 : String := "java/util/List"
def TJxbd725 : u_T := fun k => match k with
  | _ => ("", "", "", false)
def tyJxbd725 : Nat → FieldType := fun k => match k with
  | _ => .int
theorem nmJxbd725 : ∀ a, a < 0 → ∀ b, b < 0 → a ≠ b → (TJxbd725 a).2.1 ≠ (TJxbd725 b).2.1 := by decide +kernel
theorem tyJxbd725_ok : ∀ k, k < 0 → parseFieldDescriptor (TJxbd725 k).2.2.1 = some (tyJxbd725 k) := by decide +kernel
def RJ15 : String := "java/util/Objects"
def TJ15 : u_T := fun k => match k with
  | _ => ("", "", "", false)
def tyJ15 : Nat → FieldType := fun k => match k with
  | _ => .int
theorem nmJ15 : ∀ a, a < 0 → ∀ b, b < 0 → a ≠ b → (TJ15 a).2.1 ≠ (TJ15 b).2.1 := by decide +kernel
theorem tyJ15_ok : ∀ k, k < 0 → parseFieldDescriptor (TJ15 k).2.2.1 = some (tyJ15 k) := by decide +kernel
abbrev cJ15_checkIndex_7cf53 : ByteArray := prog_30_method_17_code
def yJ15_checkIndex_7cf53 : MethodName := ⟨RJ15, "checkIndex", "(II)I"⟩
def RJxf0a74 : String := "java/util/RandomAccess"
def TJxf0a74 : u_T := fun k => match k with
  | _ => ("", "", "", false)
def tyJxf0a74 : Nat → FieldType := fun k => match k with
  | _ => .int
theorem nmJxf0a74 : ∀ a, a < 0 → ∀ b, b < 0 → a ≠ b → (TJxf0a74 a).2.1 ≠ (TJxf0a74 b).2.1 := by decide +kernel
theorem tyJxf0a74_ok : ∀ k, k < 0 → parseFieldDescriptor (TJxf0a74 k).2.2.1 = some (tyJxf0a74 k) := by decide +kernel
def RJxa66e6 : String := "java/util/SequencedCollection"
def TJxa66e6 : u_T := fun k => match k with
  | _ => ("", "", "", false)
def tyJxa66e6 : Nat → FieldType := fun k => match k with
  | _ => .int
theorem nmJxa66e6 : ∀ a, a < 0 → ∀ b, b < 0 → a ≠ b → (TJxa66e6 a).2.1 ≠ (TJxa66e6 b).2.1 := by decide +kernel
theorem tyJxa66e6_ok : ∀ k, k < 0 → parseFieldDescriptor (TJxa66e6 k).2.2.1 = some (tyJxa66e6 k) := by decide +kernel
def RJ8 : String := "jdk/internal/util/ArraysSupport"
def TJ8 : u_T := fun k => match k with
  | _ => ("", "", "", false)
def tyJ8 : Nat → FieldType := fun k => match k with
  | _ => .int
theorem nmJ8 : ∀ a, a < 0 → ∀ b, b < 0 → a ≠ b → (TJ8 a).2.1 ≠ (TJ8 b).2.1 := by decide +kernel
theorem tyJ8_ok : ∀ k, k < 0 → parseFieldDescriptor (TJ8 k).2.2.1 = some (tyJ8 k) := by decide +kernel
abbrev cJ8_newLength_cabcc : ByteArray := prog_33_method_27_code
def yJ8_newLength_cabcc : MethodName := ⟨RJ8, "newLength", "(III)I"⟩
abbrev cJ8_hugeLength_7cf53 : ByteArray := prog_33_method_28_code
def yJ8_hugeLength_7cf53 : MethodName := ⟨RJ8, "hugeLength", "(II)I"⟩
def RJ3 : String := "jdk/internal/util/Preconditions"
def TJ3 : u_T := fun k => match k with
  | _ => ("", "", "", false)
def tyJ3 : Nat → FieldType := fun k => match k with
  | _ => .int
theorem nmJ3 : ∀ a, a < 0 → ∀ b, b < 0 → a ≠ b → (TJ3 a).2.1 ≠ (TJ3 b).2.1 := by decide +kernel
theorem tyJ3_ok : ∀ k, k < 0 → parseFieldDescriptor (TJ3 k).2.2.1 = some (tyJ3 k) := by decide +kernel
abbrev cJ3_checkIndex_8e157 : ByteArray := prog_34_method_11_code
def yJ3_checkIndex_8e157 : MethodName := ⟨RJ3, "checkIndex", "(IILjava/util/function/BiFunction;)I"⟩
def RL : String := "StockYardLaw"
abbrev cL_law : ByteArray := code
def yL_law : MethodName := ⟨RL, "law", "([I)Z"⟩
end
section
/-! abstract values, worlds: a cell is (tag, number of its kind); ints and references by place; how many of a tag there are; an array's length -/
abbrev AV : Type := Int32 ⊕ (Int64 ⊕ Option (Nat × Nat))
abbrev Wd : Type := (Nat → Nat → Nat → Int32) × ((Nat → Nat → Nat → Option (Nat × Nat)) × ((Nat → Nat) × (Nat → Nat → Nat)))
def wI (w : Wd) : Nat → Nat → Nat → Int32 := w.1
def wR (w : Wd) : Nat → Nat → Nat → Option (Nat × Nat) := w.2.1
def wC (w : Wd) : Nat → Nat := w.2.2.1
def wN (w : Wd) : Nat → Nat → Nat := w.2.2.2
def sI (w : Wd) (t k i : Nat) (v : Int32) : Wd := (fun t' k' i' => if t' = t ∧ k' = k ∧ i' = i then v else w.1 t' k' i', w.2)
def sR (w : Wd) (t k i : Nat) (v : Option (Nat × Nat)) : Wd := (w.1, fun t' k' i' => if t' = t ∧ k' = k ∧ i' = i then v else w.2.1 t' k' i', w.2.2)
def nC (w : Wd) (t n : Nat) : Wd := (fun t' k' i' => if t' = t ∧ k' = w.2.2.1 t then 0 else w.1 t' k' i', fun t' k' i' => if t' = t ∧ k' = w.2.2.1 t then none else w.2.1 t' k' i', fun t' => if t' = t then w.2.2.1 t + 1 else w.2.2.1 t', fun t' k' => if t' = t ∧ k' = w.2.2.1 t then n else w.2.2.2 t' k')
theorem wI_sI (w : Wd) (t k i : Nat) (v : Int32) (t' k' i' : Nat) : wI (sI w t k i v) t' k' i' = if t' = t ∧ k' = k ∧ i' = i then v else wI w t' k' i' := rfl
theorem wR_sI (w : Wd) (t k i : Nat) (v : Int32) : wR (sI w t k i v) = wR w := rfl
theorem wC_sI (w : Wd) (t k i : Nat) (v : Int32) : wC (sI w t k i v) = wC w := rfl
theorem wN_sI (w : Wd) (t k i : Nat) (v : Int32) : wN (sI w t k i v) = wN w := rfl
theorem wR_sR (w : Wd) (t k i : Nat) (v : Option (Nat × Nat)) (t' k' i' : Nat) : wR (sR w t k i v) t' k' i' = if t' = t ∧ k' = k ∧ i' = i then v else wR w t' k' i' := rfl
theorem wI_sR (w : Wd) (t k i : Nat) (v : Option (Nat × Nat)) : wI (sR w t k i v) = wI w := rfl
theorem wC_sR (w : Wd) (t k i : Nat) (v : Option (Nat × Nat)) : wC (sR w t k i v) = wC w := rfl
theorem wN_sR (w : Wd) (t k i : Nat) (v : Option (Nat × Nat)) : wN (sR w t k i v) = wN w := rfl
theorem wI_nC (w : Wd) (t n : Nat) (t' k' i' : Nat) : wI (nC w t n) t' k' i' = if t' = t ∧ k' = wC w t then 0 else wI w t' k' i' := rfl
theorem wR_nC (w : Wd) (t n : Nat) (t' k' i' : Nat) : wR (nC w t n) t' k' i' = if t' = t ∧ k' = wC w t then none else wR w t' k' i' := rfl
theorem wC_nC (w : Wd) (t n : Nat) (t' : Nat) : wC (nC w t n) t' = if t' = t then wC w t + 1 else wC w t' := rfl
theorem wN_nC (w : Wd) (t n : Nat) (t' k' : Nat) : wN (nC w t n) t' k' = if t' = t ∧ k' = wC w t then n else wN w t' k' := rfl
/-! the classes, by their tags -/
abbrev cls : List vw_C := [(RX11, TX11, 10), (RX10, TX10, 5), (RJx4a65c, TJx4a65c, 3), (RX8, TX8, 3), (RX6, TX6, 1), (RX2, TX2, 3), (RX3, TX3, 15), (RX4, TX4, 3), (RX9, TX9, 4), (RX0, TX0, 5), (RX1, TX1, 11), (RX7, TX7, 11), (RX5, TX5, 9), (RX12, TX12, 69)]
def clsN : Nat → String × u_T × Nat := fun c => (cls[c]?).getD ("", TX11, 0)
def cTy (c : Nat) : Nat → FieldType := match c with
  | 0 => tyX11 | 1 => tyX10 | 2 => tyJx4a65c | 3 => tyX8 | 4 => tyX6 | 5 => tyX2 | 6 => tyX3 | 7 => tyX4 | 8 => tyX9 | 9 => tyX0 | 10 => tyX1 | 11 => tyX7 | 12 => tyX5 | _ => tyX12
def rTy : FieldType → Bool
  | .object _ => true
  | .array _ => true
  | _ => false
def ak (t : Nat) : Nat := if t < 200 then 0 else if t < 300 then 1 else if t = 300 then 2 else if t = 301 then 3 else 4
def eTk (a : Nat) : FieldType := match a with
  | 0 => .int | 1 => .boolean | 2 => .object "java/lang/Object" | 3 => .object "StockYard$Way" | _ => .array .int
def eTy (t : Nat) : FieldType := eTk (ak t)
def rp (t i : Nat) : Bool := if t < 20 then rTy (cTy t i) else rTy (eTy t)
/-- the launch's own numbers: classes, slots, array classes, the heap at the start, what stands outside the world, the script -/
abbrev Gc : Type := (Nat → ClassId) × ((Nat → Nat → Nat) × ((Nat → ClassId) × (Heap × ((Nat → Nat → Nat) × (Nat × (Nat → Int32))))))
def gC (G : Gc) : Nat → ClassId := G.1
def gI (G : Gc) : Nat → Nat → Nat := G.2.1
def gA (G : Gc) : Nat → ClassId := G.2.2.1
def gH (G : Gc) : Heap := G.2.2.2.1
def gX (G : Gc) : Nat → Nat → Nat := G.2.2.2.2.1
def gL (G : Gc) : Nat := G.2.2.2.2.2.1
def gS (G : Gc) : Nat → Int32 := G.2.2.2.2.2.2
def n0 (G : Gc) : Nat := (gH G).size
abbrev tysG (G : Gc) : List (ClassId × FieldType) := [(gA G 0, eTk 0), (gA G 1, eTk 1), (gA G 2, eTk 2), (gA G 3, eTk 3), (gA G 4, eTk 4)]
def renR (ad : Nat → Nat → Nat) : Option (Nat × Nat) → Value
  | none => .null
  | some q => .ref (ad q.1 q.2)
def renV (ad : Nat → Nat → Nat) : AV → Value
  | .inl x => .int x
  | .inr (.inl x) => .long x
  | .inr (.inr r) => renR ad r
def vAt (ad : Nat → Nat → Nat) (w : Wd) (t k i : Nat) : Value := if rp t i = true then renR ad (wR w t k i) else .int (wI w t k i)
def cOk (G : Gc) (t a n : Nat) (V : Nat → Value) (H : Heap) : Prop :=
  if t < 20 then ∃ r : vw_C, cls[t]? = some r ∧ t_OB a (gC G t) r.2.2 (gI G t) H V else H[a]? = some (arrV (gA G (ak t)) n V)
def clq (w : Wd) (q : Nat × Nat) : Prop := 900 ≤ q.1 ∨ q.2 < wC w q.1
def clV (w : Wd) : AV → Prop
  | .inr (.inr (some q)) => clq w q
  | _ => True
def Rel (G : Gc) (ad : Nat → Nat → Nat) (w : Wd) (H : Heap) : Prop :=
  (∀ t k, t < 900 → k < wC w t → cOk G t (ad t k) (wN w t k) (vAt ad w t k) H ∧ n0 G ≤ ad t k) ∧
  (∀ t k t' k', t < 900 → t' < 900 → k < wC w t → k' < wC w t' → ad t k = ad t' k' → t = t' ∧ k = k') ∧
  (∀ t k i q, k < wC w t → wR w t k i = some q → clq w q) ∧
  (∀ t k, 900 ≤ t → ad t k = gX G t k) ∧ n0 G ≤ H.size ∧ ∀ q, q < n0 G → H[q]? = (gH G)[q]?
/-! strings of the tape -/
def sLen : List Nat := [4, 3, 5, 3, 4, 5, 5, 6, 5, 4, 4]
def sByt : List (List Int32) := [[100, 111, 99, 107], [102, 101, 101], [119, 97, 116, 101, 114], [98, 97, 114], [107, 105, 110, 100], [111, 119, 110, 101, 114], [104, 101, 97, 100, 115], [116, 104, 105, 114, 115, 116], [98, 117, 121, 101, 114], [32, 105, 102, 32], [32, 111, 114, 32]]
def nestW : List Cond := lw_tbl.filter (fun w => match w with | .methodLinkNest .. => true | _ => false)
abbrev gOut (G : Gc) : Nat → Prop := fun q => n0 G ≤ q
def goodT : List Cond := lw_tbl.filter goodWord
def sKey : List Nat := [83, 85, 87, 89, 91, 93, 95, 97, 99, 42, 55]
def sTxt : List String := ["dock", "fee", "water", "bar", "kind", "owner", "heads", "thirst", "buyer", " if ", " or "]
/-- what stands outside the world, and never changes -/
def Ext (G : Gc) (U : State) : Prop :=
  va_Z "java/util/ArrayList" "DEFAULTCAPACITY_EMPTY_ELEMENTDATA" "[Ljava/lang/Object;" (.ref (gX G 900 0)) (gOut G) U (gH G) ∧
  va_T (.object "java/lang/Object") (gX G 900 0) 0 (fun _ => .null) (gOut G) U (gH G) ∧
  va_Z "java/lang/String" "COMPACT_STRINGS" "Z" (.int 1) (gOut G) U (gH G) ∧
  vk_S 11 sLen sByt (gX G 902) (gX G 903) (gOut G) U (gH G) ∧
  (∀ i : Nat, i < 11 → vk_R "StockYard$Tape" (sKey.getD i 0) (sTxt.getD i "") (gX G 902 i) U) ∧
  va_Mi "[Ljava/lang/Object;" (gX G 904 0) U ∧ va_Dc U ∧ va_AO "java/lang/Object" U ∧ va_AO "StockYard$Way" U ∧
  va_X (gX G 901 0) (gL G) (gS G) U (gH G)
theorem Ext.warm {G : Gc} {s U : State} (hW : s.WarmedH U.vm) (h : Ext G s) : Ext G U := by
  obtain ⟨h1, h2, h3, h4, h5, h6, h7, h8, h9, h10⟩ := h
  exact ⟨h1.moved hW.alike, h2.moved hW.alike, h3.moved hW.alike, h4.moved hW.alike, fun i hi => (h5 i hi).warm hW, h6.moved hW.alike, h7.moved hW.alike, h8.moved hW.alike, h9.moved hW.alike, h10.moved hW.alike⟩
def KK (G : Gc) (U : State) : Prop := va_K (gC G, gI G) cls (tysG G) U ∧ (∀ w ∈ nestW, va_Nw w U) ∧ Ext G U
theorem nestW_spec {w : Cond} (h : w ∈ nestW) : ∃ a i x b, w = .methodLinkNest a i x b := by
  have h2 := (List.mem_filter.mp h).2
  cases w <;> first | exact ⟨_, _, _, _, rfl⟩ | (simp at h2)
theorem KK.warm {G : Gc} {s U : State} (hW : s.WarmedH U.vm) (h : KK G s) : KK G U := by
  refine ⟨h.1.moved hW.alike, fun w hw => ?_, h.2.2.warm hW⟩
  obtain ⟨a, i, x, b, rfl⟩ := nestW_spec hw
  exact va_Nw.warmM hW (h.2.1 _ hw)
theorem KK.same {G : Gc} {s U : State} (hv : s.vm = U.vm) (h : KK G s) : KK G U := KK.warm (by rw [← hv]; exact State.WarmedH.refl s) h
/-! methods -/
abbrev MI : Type := String × (MethodName × (ByteArray × (Nat × Option FieldType)))
def mOwn (M : MI) : String := M.1
def mY (M : MI) : MethodName := M.2.1
def mB (M : MI) : ByteArray := M.2.2.1
def mL (M : MI) : Nat := M.2.2.2.1
def mR (M : MI) : Option FieldType := M.2.2.2.2
def wsY (M : MI) : List Cond := .code (mY M) (mB M) (mL M) (mR M) :: goodT
def rml (n mc ms : Nat) : Room := { frames := n, cells := mc, slots := ms, locals := 40 * n }
def Exd (ad0 : Nat → Nat → Nat) (w0 : Wd) (ad : Nat → Nat → Nat) (w : Wd) : Prop := (∀ t k, k < wC w0 t → ad t k = ad0 t k) ∧ ∀ t, wC w0 t ≤ wC w t
def SemPc (G : Gc) (ad : Nat → Nat → Nat) (as : List AV) (w : Wd) : Array Value → State → Prop := fun v U => v = (as.map (renV ad)).toArray ∧ Rel G ad w U.heap ∧ KK G U ∧ ∀ a ∈ as, clV w a
def SemQc (G : Gc) (ad : Nat → Nat → Nat) (w : Wd) (Q : Option AV → Wd → Prop) : Array Value → State → Outcome → State → Prop := fun _ _ o t =>
  ∃ (r : Option AV) (w' : Wd) (ad' : Nat → Nat → Nat), o = .returned (r.map (renV ad')) ∧ Rel G ad' w' t.heap ∧ Exd ad w ad' w' ∧ (∀ a, r = some a → clV w' a) ∧ Q r w'
/-- the method, called with these values in this world, comes back with Q -/
def Sem (l : Launch) (G : Gc) (M : MI) (n mc ms : Nat) (as : List AV) (w : Wd) (Q : Option AV → Wd → Prop) : Prop :=
  ∀ ad, Met l (mY M) (wsY M) (rml n mc ms) (SemPc G ad as w) (SemQc G ad w Q) mc ms (gOut G)
theorem Sem.mono {l : Launch} {G : Gc} {M : MI} {n mc ms : Nat} {as : List AV} {w : Wd} {Q Q' : Option AV → Wd → Prop} (h : Sem l G M n mc ms as w Q) (hq : ∀ r w', Q r w' → Q' r w') : Sem l G M n mc ms as w Q' := by
  intro ad p e h1 h2 h3 s m args below hf ha hP hT
  obtain ⟨k, o, g1, g2, g3, ⟨r, w', ad', q1, q2, q3, q4, q5⟩, g5⟩ := h ad p e h1 h2 h3 s m args below hf ha hP hT
  exact ⟨k, o, g1, g2, g3, ⟨r, w', ad', q1, q2, q3, q4, hq r w' q5⟩, g5⟩
/-! locals -/
def lg : List (Option AV) → Nat → Option AV
  | [], _ => none
  | a :: _, 0 => a
  | _ :: l, n + 1 => lg l n
def lset : List (Option AV) → Nat → Option AV → List (Option AV)
  | [], _, _ => []
  | _ :: l, 0, v => v :: l
  | a :: l, n + 1, v => a :: lset l n v
def isL : Option AV → Bool
  | some (.inr (.inl _)) => true
  | _ => false
def kil (L : List (Option AV)) : Nat → List (Option AV)
  | 0 => L
  | i + 1 => if isL (lg L i) = true then lset L i none else L
def st1 (L : List (Option AV)) (i : Nat) (v : AV) : List (Option AV) := lset (kil L i) i (some v)
def st2 (L : List (Option AV)) (i : Nat) (v : AV) : List (Option AV) := lset (lset (kil L i) i (some v)) (i + 1) none
theorem lset_len : ∀ (L : List (Option AV)) (i : Nat) (v : Option AV), (lset L i v).length = L.length
  | [], _, _ => rfl
  | _ :: _, 0, _ => rfl
  | _ :: l, n + 1, v => congrArg (· + 1) (lset_len l n v)
theorem lg_lset : ∀ (L : List (Option AV)) (i : Nat) (v : Option AV) (j : Nat), lg (lset L i v) j = if j = i ∧ j < L.length then v else lg L j
  | [], _, _, j => by simp [lset, lg]
  | a :: l, 0, v, j => by cases j <;> simp [lset, lg]
  | a :: l, n + 1, v, 0 => by simp [lset, lg]
  | a :: l, n + 1, v, j + 1 => by simp [lset, lg, lg_lset l n v j]
theorem lg_lt : ∀ {L : List (Option AV)} {i : Nat} {v : AV}, lg L i = some v → i < L.length
  | [], _, _, h => by simp [lg] at h
  | _ :: _, 0, _, _ => by simp
  | _ :: l, n + 1, v, h => by have := lg_lt (L := l) (i := n) h; simp; omega
theorem kil_len (L : List (Option AV)) (i : Nat) : (kil L i).length = L.length := by
  cases i with
  | zero => rfl
  | succ i => simp only [kil]; split <;> simp [lset_len]
theorem lg_kil {L : List (Option AV)} {i j : Nat} {v : AV} (h : lg (kil L i) j = some v) : lg L j = some v ∧ (j + 1 = i → isL (some v) = false) := by
  cases i with
  | zero => exact ⟨h, by omega⟩
  | succ i =>
    simp only [kil] at h
    split at h
    · rw [lg_lset] at h
      split at h
      · cases h
      · rename_i h1 h2
        refine ⟨h, fun e => ?_⟩
        exact absurd ⟨by omega, lg_lt h⟩ h2
    · rename_i h1
      refine ⟨h, fun e => ?_⟩
      have : j = i := by omega
      subst this
      rw [← h]
      simpa using h1
def LsR (ad : Nat → Nat → Nat) (nL : Nat) (L : List (Option AV)) (ls : Array Slot) : Prop := ls.size = nL ∧ L.length = nL ∧ lv_wf ls ∧ ∀ i v, lg L i = some v → ls[i]? = some (.val (renV ad v))
def lpr (ad : Nat → Nat → Nat) (L : List (Option AV)) : List (Nat × Value) := (List.range L.length).filterMap (fun j => (lg L j).map (fun v => (j, renV ad v)))
theorem lpr_mem {ad : Nat → Nat → Nat} {L : List (Option AV)} {j : Nat} {x : Value} : (j, x) ∈ lpr ad L ↔ ∃ v, lg L j = some v ∧ x = renV ad v := by
  simp only [lpr, List.mem_filterMap, List.mem_range, Option.map_eq_some_iff, Prod.mk.injEq]
  constructor
  · rintro ⟨a, ha, v, hv, rfl, rfl⟩
    exact ⟨v, hv, rfl⟩
  · rintro ⟨v, hv, rfl⟩
    exact ⟨j, lg_lt hv, v, hv, rfl, rfl⟩
theorem LsR.has {ad : Nat → Nat → Nat} {nL : Nat} {L : List (Option AV)} {ls : Array Slot} (h : LsR ad nL L ls) : lv_has ls nL (lpr ad L) := by
  refine ⟨h.1, h.2.2.1, fun q hq => ?_⟩
  obtain ⟨v, hv, hx⟩ := lpr_mem.mp (show (q.1, q.2) ∈ lpr ad L from hq)
  rw [hx]
  exact h.2.2.2 _ _ hv
theorem cat_ren (ad : Nat → Nat → Nat) (v : AV) : (renV ad v).category = if isL (some v) = true then 2 else 1 := by
  rcases v with x | x | x
  · rfl
  · rfl
  · cases x <;> rfl
theorem lsr_st1 {ad : Nat → Nat → Nat} {nL : Nat} {L : List (Option AV)} {ls ls' : Array Slot} {i : Nat} {v : AV} (h : LsR ad nL L ls) (hl : lv_has ls' nL ((i, renV ad v) :: (lpr ad L).filter (fun q => !(q.1 == i) && !(q.1 + 1 == i && q.2.category == 2)))) : LsR ad nL (st1 L i v) ls' := by
  refine ⟨hl.1, by rw [st1, lset_len, kil_len]; exact h.2.1, hl.2.1, fun j x hx => ?_⟩
  rw [st1, lg_lset] at hx
  split at hx
  · rename_i hj
    cases hx
    rw [hj.1]
    exact hl.2.2 _ List.mem_cons_self
  · rename_i hj
    obtain ⟨h1, h2⟩ := lg_kil hx
    have hji : j ≠ i := fun e => hj ⟨e, by rw [kil_len]; exact lg_lt h1⟩
    refine hl.2.2 (j, renV ad x) (List.mem_cons_of_mem _ (List.mem_filter.mpr ⟨lpr_mem.mpr ⟨x, h1, rfl⟩, ?_⟩))
    by_cases e : j + 1 = i
    · simp [hji, cat_ren, h2 e]
    · simp [hji, e]
theorem lsr_st2 {ad : Nat → Nat → Nat} {nL : Nat} {L : List (Option AV)} {ls ls' : Array Slot} {i : Nat} {v : AV} (h : LsR ad nL L ls) (hl : lv_has ls' nL ((i, renV ad v) :: (lpr ad L).filter (fun q => !(q.1 == i) && (!(q.1 == i + 1) && !(q.1 + 1 == i && q.2.category == 2))))) : LsR ad nL (st2 L i v) ls' := by
  refine ⟨hl.1, by rw [st2, lset_len, lset_len, kil_len]; exact h.2.1, hl.2.1, fun j x hx => ?_⟩
  rw [st2, lg_lset] at hx
  split at hx
  · cases hx
  · rename_i hj1
    rw [lset_len, kil_len] at hj1
    rw [lg_lset] at hx
    split at hx
    · rename_i hj
      cases hx
      rw [hj.1]
      exact hl.2.2 _ List.mem_cons_self
    · rename_i hj
      obtain ⟨h1, h2⟩ := lg_kil hx
      have hji : j ≠ i := fun e => hj ⟨e, by rw [kil_len]; exact lg_lt h1⟩
      have hji1 : j ≠ i + 1 := fun e => hj1 ⟨e, lg_lt h1⟩
      refine hl.2.2 (j, renV ad x) (List.mem_cons_of_mem _ (List.mem_filter.mpr ⟨lpr_mem.mpr ⟨x, h1, rfl⟩, ?_⟩))
      by_cases e : j + 1 = i
      · simp [hji, hji1, cat_ren, h2 e]
      · simp [hji, hji1, e]
end
section
/-! the abstract machine: WP, and one instruction of it (stp) -/
/-- what holds of a method's frame -/
def Fx (G : Gc) (M : MI) (p : Program) (s : State) (m : MethodId) (args : Array Value) (meth : Method) (c : Code) : Prop :=
  p.tables.exec = Jvm.exec ∧ c.code = mB M ∧ meth.sig.returnType = mR M ∧ c.maxLocals = mL M ∧ s.vm.findClass (mOwn M) = some m.cls ∧ (∀ w ∈ goodT, w.before args s = true) ∧ KK G s ∧ meth.locks = false ∧ meth.name = (mY M).name
def nar (ret : Option FieldType) (v : Int32) : Prop := match ret with
  | some .int => True
  | some .boolean => v = 0 ∨ v = 1
  | some .char => 0 ≤ v ∧ v ≤ 255
  | some .byte => v = 0
  | _ => False
def retI (M : MI) (pc : Nat) (r : Option AV) : Prop :=
  (∃ v, r = some (.inl v) ∧ decode (mB M) pc = .ok (.ireturn, 1) ∧ nar (mR M) v) ∨ (∃ v, r = some (.inr (.inl v)) ∧ decode (mB M) pc = .ok (.lreturn, 1) ∧ mR M = some .long) ∨
  (∃ v, r = some (.inr (.inr v)) ∧ decode (mB M) pc = .ok (.areturn, 1) ∧ ∃ ty, mR M = some ty ∧ rTy ty = true) ∨ (r = none ∧ decode (mB M) pc = .ok (.return_, 1) ∧ mR M = none)
def locsOk (G : Gc) (locs : List Loc) : Prop := ∀ q ∈ locs, gOut G q.base
def clL (w : Wd) (L : List (Option AV)) : Prop := ∀ i v, lg L i = some v → clV w v
def clS (w : Wd) (S : List AV) : Prop := ∀ v ∈ S, clV w v
def WP (l : Launch) (G : Gc) (M : MI) (n mc ms : Nat) (Q : Option AV → Wd → Prop) (pc : Nat) (L : List (Option AV)) (S : List AV) (w : Wd) (cu su : Nat) : Prop :=
  ∀ (p : Program) (e : Env) (s : State) (m : MethodId) (args : Array Value) (below : List Frame) (meth : Method) (c : Code) (Z : State → Prop) (ad0 : Nat → Nat → Nat) (w0 : Wd), Fx G M p s m args meth c →
    (∀ r w' ad' H' locs' pc' ls' cu' su', Q r w' → Rel G ad' w' H' → Exd ad0 w0 ad' w' → (∀ a, r = some a → clV w' a) → locsOk G locs' → cu' ≤ mc → su' ≤ ms → retI M pc' r → W p l e (rml n mc ms) s m args below meth c H' locs' cu' su' Z (F0 m pc' ls' (r.toList.map (renV ad')))) →
    ∀ (ad : Nat → Nat → Nat) (H : Heap) (locs : List Loc) (ls : Array Slot), Rel G ad w H → Exd ad0 w0 ad w → LsR ad (mL M) L ls → clL w L → clS w S → locsOk G locs → cu ≤ mc → su ≤ ms →
    W p l e (rml n mc ms) s m args below meth c H locs cu su Z (F0 m pc ls (S.map (renV ad)))
/-! constants of a class: fields, callees, numbers, casts -/
def alk {α : Type} : List (Nat × α) → Nat → Option α
  | [], _ => none
  | (a, b) :: l, k => if a = k then some b else alk l k
theorem alk_mem {α : Type} {l : List (Nat × α)} {k : Nat} {b : α} (h : alk l k = some b) : (k, b) ∈ l := by
  induction l with
  | nil => cases h
  | cons q l ih =>
    obtain ⟨a, c⟩ := q
    simp only [alk] at h
    split at h
    · rename_i e
      cases h
      rw [e]
      exact List.mem_cons_self
    · exact List.mem_cons_of_mem _ (ih h)
/-- a callee: the method, its parameters, the kind of the call (0 virtual, 1 static, 2 a constructor; 3, 4, 5 the same of a nest mate), its exact working where it is known -/
abbrev Cal : Type := MI × (Nat × Nat)
abbrev CE : Type := (Nat → Option (Nat × Nat)) × ((Nat → Option Cal) × ((Nat → Option AV) × (Nat → Option Nat)))
def ceF (C : CE) : Nat → Option (Nat × Nat) := C.1
def ceM (C : CE) : Nat → Option Cal := C.2.1
def ceK (C : CE) : Nat → Option AV := C.2.2.1
def ceT (C : CE) : Nat → Option Nat := C.2.2.2
/-- how a callee works, where that is a function: its level, and what it answers -/
abbrev FS : Type := List AV → Wd → Option (Option AV × Wd)
abbrev XE : Type := Nat → Option (Nat × FS)
def spl : Nat → List AV → List AV → Option (List AV × List AV)
  | 0, acc, S => some (acc, S)
  | n + 1, acc, v :: S => spl n (v :: acc) S
  | _ + 1, _, [] => none
def catS : List AV → Nat
  | [] => 0
  | v :: S => (if isL (some v) = true then 2 else 1) + catS S
def jmp (pc : Nat) (off : Int) (K : Nat → Prop) : Prop := 0 ≤ (pc : Int) + off ∧ K ((pc : Int) + off).toNat
/-- a call -/
def cll (l : Launch) (G : Gc) (n mc ms : Nat) (c : Cal) (x : Option (Nat × FS)) (as : List AV) (S : List AV) (w : Wd) (cu su : Nat) (K : List AV → Wd → Prop) (Kc : List AV → Wd → Nat → Nat → Prop) : Prop :=
  catS S ≤ 8 ∧ match x with
  | some (n', f) => n' < n ∧ match f as w with
    | some (r, w') => K (r.toList ++ S) w'
    | none => False
  | none => ∃ n' mc' ms', n' < n ∧ cu + mc' ≤ mc ∧ su + ms' ≤ ms ∧ Sem l G c.1 n' mc' ms' as w (fun r w' => Kc (r.toList ++ S) w' (cu + mc') (su + ms'))
abbrev KT : Type := Nat → List (Option AV) → List AV → Wd → Nat → Nat → Prop
def stp (l : Launch) (G : Gc) (M : MI) (C : CE) (X : XE) (n mc ms : Nat) (Q : Option AV → Wd → Prop) (K Kc : KT) (pc : Nat) (ins : Instr) (L : List (Option AV)) (S : List AV) (w : Wd) (cu su : Nat) : Prop :=
  match ins with
  | .iconst k => K (pc + 1) L (.inl (Int32.ofInt k) :: S) w cu su
  | .bipush k => K (pc + 2) L (.inl (Int8.ofInt k).toInt32 :: S) w cu su
  | .sipush k => K (pc + 3) L (.inl (Int16.ofInt k).toInt32 :: S) w cu su
  | .aconst_null => K (pc + 1) L (.inr (.inr none) :: S) w cu su
  | .iload i => match lg L i with | some (.inl x) => K (pc + 2) L (.inl x :: S) w cu su | _ => False
  | .iload_n i => match lg L i with | some (.inl x) => K (pc + 1) L (.inl x :: S) w cu su | _ => False
  | .lload i => match lg L i with | some (.inr (.inl x)) => K (pc + 2) L (.inr (.inl x) :: S) w cu su | _ => False
  | .lload_n i => match lg L i with | some (.inr (.inl x)) => K (pc + 1) L (.inr (.inl x) :: S) w cu su | _ => False
  | .aload i => match lg L i with | some (.inr (.inr x)) => K (pc + 2) L (.inr (.inr x) :: S) w cu su | _ => False
  | .aload_n i => match lg L i with | some (.inr (.inr x)) => K (pc + 1) L (.inr (.inr x) :: S) w cu su | _ => False
  | .istore i => match S with | .inl x :: S' => i < L.length ∧ K (pc + 2) (st1 L i (.inl x)) S' w cu su | _ => False
  | .istore_n i => match S with | .inl x :: S' => (i : Nat) < L.length ∧ K (pc + 1) (st1 L i (.inl x)) S' w cu su | _ => False
  | .lstore i => match S with | .inr (.inl x) :: S' => i + 1 < L.length ∧ K (pc + 2) (st2 L i (.inr (.inl x))) S' w cu su | _ => False
  | .lstore_n i => match S with | .inr (.inl x) :: S' => (i : Nat) + 1 < L.length ∧ K (pc + 1) (st2 L i (.inr (.inl x))) S' w cu su | _ => False
  | .astore i => match S with | .inr (.inr x) :: S' => i < L.length ∧ K (pc + 2) (st1 L i (.inr (.inr x))) S' w cu su | _ => False
  | .astore_n i => match S with | .inr (.inr x) :: S' => (i : Nat) < L.length ∧ K (pc + 1) (st1 L i (.inr (.inr x))) S' w cu su | _ => False
  | .iinc i k => match lg L i with | some (.inl x) => i < L.length ∧ K (pc + 3) (st1 L i (.inl (x + Int32.ofInt k))) S w cu su | _ => False
  | .iadd => match S with | .inl y :: .inl x :: S' => K (pc + 1) L (.inl (x + y) :: S') w cu su | _ => False
  | .isub => match S with | .inl y :: .inl x :: S' => K (pc + 1) L (.inl (x - y) :: S') w cu su | _ => False
  | .imul => match S with | .inl y :: .inl x :: S' => K (pc + 1) L (.inl (x * y) :: S') w cu su | _ => False
  | .iand => match S with | .inl y :: .inl x :: S' => K (pc + 1) L (.inl (x &&& y) :: S') w cu su | _ => False
  | .ior => match S with | .inl y :: .inl x :: S' => K (pc + 1) L (.inl (x ||| y) :: S') w cu su | _ => False
  | .ixor => match S with | .inl y :: .inl x :: S' => K (pc + 1) L (.inl (x ^^^ y) :: S') w cu su | _ => False
  | .ishl => match S with | .inl y :: .inl x :: S' => K (pc + 1) L (.inl (x <<< (y &&& 31)) :: S') w cu su | _ => False
  | .ishr => match S with | .inl y :: .inl x :: S' => K (pc + 1) L (.inl (x >>> (y &&& 31)) :: S') w cu su | _ => False
  | .iushr => match S with | .inl y :: .inl x :: S' => K (pc + 1) L (.inl (x.toUInt32 >>> (y.toUInt32 &&& Int32.toUInt32 31)).toInt32 :: S') w cu su | _ => False
  | .idiv => match S with | .inl y :: .inl x :: S' => ¬ y = 0 ∧ K (pc + 1) L (.inl (x / y) :: S') w cu su | _ => False
  | .irem => match S with | .inl y :: .inl x :: S' => ¬ y = 0 ∧ K (pc + 1) L (.inl (x - x / y * y) :: S') w cu su | _ => False
  | .ineg => match S with | .inl x :: S' => K (pc + 1) L (.inl (-x) :: S') w cu su | _ => False
  | .ladd => match S with | .inr (.inl y) :: .inr (.inl x) :: S' => K (pc + 1) L (.inr (.inl (x + y)) :: S') w cu su | _ => False
  | .lmul => match S with | .inr (.inl y) :: .inr (.inl x) :: S' => K (pc + 1) L (.inr (.inl (x * y)) :: S') w cu su | _ => False
  | .land => match S with | .inr (.inl y) :: .inr (.inl x) :: S' => K (pc + 1) L (.inr (.inl (x &&& y)) :: S') w cu su | _ => False
  | .ldiv => match S with | .inr (.inl y) :: .inr (.inl x) :: S' => ¬ y = 0 ∧ K (pc + 1) L (.inr (.inl (x / y)) :: S') w cu su | _ => False
  | .lshr => match S with | .inl y :: .inr (.inl x) :: S' => K (pc + 1) L (.inr (.inl (x >>> (y.toInt64 &&& 63))) :: S') w cu su | _ => False
  | .i2l => match S with | .inl x :: S' => K (pc + 1) L (.inr (.inl x.toInt64) :: S') w cu su | _ => False
  | .l2i => match S with | .inr (.inl x) :: S' => K (pc + 1) L (.inl x.toInt32 :: S') w cu su | _ => False
  | .lcmp => match S with | .inr (.inl y) :: .inr (.inl x) :: S' => K (pc + 1) L (.inl (lg_cmp x y) :: S') w cu su | _ => False
  | .lconst k => K (pc + 1) L (.inr (.inl (Int64.ofNat k)) :: S) w cu su
  | .dup => match S with | v :: S' => isL (some v) = false ∧ K (pc + 1) L (v :: v :: S') w cu su | _ => False
  | .pop => match S with | v :: S' => isL (some v) = false ∧ K (pc + 1) L S' w cu su | _ => False
  | .dup_x1 => match S with | v :: u :: S' => isL (some v) = false ∧ isL (some u) = false ∧ K (pc + 1) L (v :: u :: v :: S') w cu su | _ => False
  | .dup2 => match S with | v :: u :: S' => isL (some v) = false ∧ isL (some u) = false ∧ K (pc + 1) L (v :: u :: v :: u :: S') w cu su | _ => False
  | .ifCond .eq off => match S with | .inl x :: S' => 0 ≤ (pc : Int) + off ∧ (x = 0 → K ((pc : Int) + off).toNat L S' w cu su) ∧ (¬ x = 0 → K (pc + 3) L S' w cu su) | _ => False
  | .ifCond .ne off => match S with | .inl x :: S' => 0 ≤ (pc : Int) + off ∧ (¬ x = 0 → K ((pc : Int) + off).toNat L S' w cu su) ∧ (x = 0 → K (pc + 3) L S' w cu su) | _ => False
  | .ifCond .lt off => match S with | .inl x :: S' => 0 ≤ (pc : Int) + off ∧ (x < 0 → K ((pc : Int) + off).toNat L S' w cu su) ∧ (¬ x < 0 → K (pc + 3) L S' w cu su) | _ => False
  | .ifCond .ge off => match S with | .inl x :: S' => 0 ≤ (pc : Int) + off ∧ (0 ≤ x → K ((pc : Int) + off).toNat L S' w cu su) ∧ (¬ 0 ≤ x → K (pc + 3) L S' w cu su) | _ => False
  | .ifCond .gt off => match S with | .inl x :: S' => 0 ≤ (pc : Int) + off ∧ (0 < x → K ((pc : Int) + off).toNat L S' w cu su) ∧ (¬ 0 < x → K (pc + 3) L S' w cu su) | _ => False
  | .ifCond .le off => match S with | .inl x :: S' => 0 ≤ (pc : Int) + off ∧ (x ≤ 0 → K ((pc : Int) + off).toNat L S' w cu su) ∧ (¬ x ≤ 0 → K (pc + 3) L S' w cu su) | _ => False
  | .if_icmp .eq off => match S with | .inl y :: .inl x :: S' => 0 ≤ (pc : Int) + off ∧ (x = y → K ((pc : Int) + off).toNat L S' w cu su) ∧ (¬ x = y → K (pc + 3) L S' w cu su) | _ => False
  | .if_icmp .ne off => match S with | .inl y :: .inl x :: S' => 0 ≤ (pc : Int) + off ∧ (¬ x = y → K ((pc : Int) + off).toNat L S' w cu su) ∧ (x = y → K (pc + 3) L S' w cu su) | _ => False
  | .if_icmp .lt off => match S with | .inl y :: .inl x :: S' => 0 ≤ (pc : Int) + off ∧ (x < y → K ((pc : Int) + off).toNat L S' w cu su) ∧ (¬ x < y → K (pc + 3) L S' w cu su) | _ => False
  | .if_icmp .ge off => match S with | .inl y :: .inl x :: S' => 0 ≤ (pc : Int) + off ∧ (y ≤ x → K ((pc : Int) + off).toNat L S' w cu su) ∧ (¬ y ≤ x → K (pc + 3) L S' w cu su) | _ => False
  | .if_icmp .gt off => match S with | .inl y :: .inl x :: S' => 0 ≤ (pc : Int) + off ∧ (y < x → K ((pc : Int) + off).toNat L S' w cu su) ∧ (¬ y < x → K (pc + 3) L S' w cu su) | _ => False
  | .if_icmp .le off => match S with | .inl y :: .inl x :: S' => 0 ≤ (pc : Int) + off ∧ (x ≤ y → K ((pc : Int) + off).toNat L S' w cu su) ∧ (¬ x ≤ y → K (pc + 3) L S' w cu su) | _ => False
  | .ifnull off => match S with | .inr (.inr none) :: S' => jmp pc off (fun p => K p L S' w cu su) | .inr (.inr (some _)) :: S' => K (pc + 3) L S' w cu su | _ => False
  | .ifnonnull off => match S with | .inr (.inr none) :: S' => K (pc + 3) L S' w cu su | .inr (.inr (some _)) :: S' => jmp pc off (fun p => K p L S' w cu su) | _ => False
  | .goto off => jmp pc off (fun p => K p L S w cu su)
  | .tableswitch d lo hi offs => match S with
    | .inl x :: S' => if x.toInt < lo ∨ hi < x.toInt then jmp pc d (fun p => K p L S' w cu su) else (match offs[(x.toInt - lo).toNat]? with | some off => jmp pc off (fun p => K p L S' w cu su) | none => False)
    | _ => False
  | .lookupswitch d ps => match S with
    | .inl x :: S' => (ps.toList.zip (ps.toList.drop 1)).all (fun (a, next) => a.1 < next.1) = true ∧ jmp pc (Op.lookupswitch.offset ps.toList d x.toInt) (fun p => K p L S' w cu su)
    | _ => False
  | .getfield idx => match ceF C idx with
    | some (ci, k) => (match S with
      | .inr (.inr (some (t, j))) :: S' => t = ci ∧ j < wC w ci ∧ K (pc + 3) L ((if rp ci k = true then .inr (.inr (wR w ci j k)) else .inl (wI w ci j k)) :: S') w cu su
      | _ => False)
    | none => False
  | .putfield idx => match ceF C idx with
    | some (ci, k) => (match S with
      | .inl x :: .inr (.inr (some (t, j))) :: S' => t = ci ∧ j < wC w ci ∧ rp ci k = false ∧ ((clsN ci).2.1 k).2.2.2 = false ∧ nar (some (cTy ci k)) x ∧ K (pc + 3) L S' (sI w ci j k x) cu su
      | _ => False)
    | none => False
  | .iaload => match S with
    | .inl i :: .inr (.inr (some (t, j))) :: S' => if t = 901 then j = 0 ∧ vp_in i (gL G) ∧ K (pc + 1) L (.inl (gS G i.toNatClampNeg) :: S') w cu su else 20 ≤ t ∧ t < 200 ∧ j < wC w t ∧ vp_in i (wN w t j) ∧ K (pc + 1) L (.inl (wI w t j i.toNatClampNeg) :: S') w cu su
    | _ => False
  | .baload => match S with
    | .inl i :: .inr (.inr (some (t, j))) :: S' => 200 ≤ t ∧ t < 300 ∧ j < wC w t ∧ vp_in i (wN w t j) ∧ K (pc + 1) L (.inl (wI w t j i.toNatClampNeg) :: S') w cu su
    | _ => False
  | .aaload => match S with
    | .inl i :: .inr (.inr (some (t, j))) :: S' => 300 ≤ t ∧ t < 900 ∧ j < wC w t ∧ vp_in i (wN w t j) ∧ K (pc + 1) L (.inr (.inr (wR w t j i.toNatClampNeg)) :: S') w cu su
    | _ => False
  | .iastore => match S with
    | .inl x :: .inl i :: .inr (.inr (some (t, j))) :: S' => 20 ≤ t ∧ t < 200 ∧ j < wC w t ∧ vp_in i (wN w t j) ∧ K (pc + 1) L S' (sI w t j i.toNatClampNeg x) cu su
    | _ => False
  | .bastore => match S with
    | .inl x :: .inl i :: .inr (.inr (some (t, j))) :: S' => 200 ≤ t ∧ t < 300 ∧ j < wC w t ∧ vp_in i (wN w t j) ∧ (x = 0 ∨ x = 1) ∧ K (pc + 1) L S' (sI w t j i.toNatClampNeg x) cu su
    | _ => False
  | .arraylength => match S with
    | .inr (.inr (some (t, j))) :: S' => if t = 901 then j = 0 ∧ K (pc + 1) L (.inl (Int32.ofNat (gL G)) :: S') w cu su else 20 ≤ t ∧ t < 900 ∧ j < wC w t ∧ K (pc + 1) L (.inl (Int32.ofNat (wN w t j)) :: S') w cu su
    | _ => False
  | .ldc idx => match ceK C idx with | some (.inl x) => K (pc + 2) L (.inl x :: S) w cu su | _ => False
  | .ldc2_w idx => match ceK C idx with | some (.inr (.inl x)) => K (pc + 3) L (.inr (.inl x) :: S) w cu su | _ => False
  | .checkcast idx => match ceT C idx with
    | some ci => (match S with
      | .inr (.inr (some (t, j))) :: S' => t = ci ∧ ci < 14 ∧ j < wC w ci ∧ K (pc + 3) L (.inr (.inr (some (t, j))) :: S') w cu su
      | _ => False)
    | none => False
  | .invokevirtual idx => match ceM C idx with
    | some c => (match spl c.2.1 [] S with
      | some (as, .inr (.inr (some (t, j))) :: S') => (c.2.2 = 0 ∨ c.2.2 = 3) ∧ t < 14 ∧ (clsN t).1 = (mY c.1).cls ∧ j < wC w t ∧ cll l G n mc ms c (X idx) (.inr (.inr (some (t, j))) :: as) S' w cu su (fun S2 w2 => K (pc + 3) L S2 w2 cu su) (fun S2 w2 cu2 su2 => Kc (pc + 3) L S2 w2 cu2 su2)
      | _ => False)
    | none => False
  | .invokestatic idx => match ceM C idx with
    | some c => (match spl c.2.1 [] S with
      | some (as, S') => (c.2.2 = 1 ∨ c.2.2 = 4) ∧ cll l G n mc ms c (X idx) as S' w cu su (fun S2 w2 => K (pc + 3) L S2 w2 cu su) (fun S2 w2 cu2 su2 => Kc (pc + 3) L S2 w2 cu2 su2)
      | _ => False)
    | none => False
  | .invokespecial idx => match ceM C idx with
    | some c => (match spl c.2.1 [] S with
      | some (as, .inr (.inr (some (t, j))) :: S') => (c.2.2 = 2 ∨ c.2.2 = 5) ∧ t < 14 ∧ cll l G n mc ms c (X idx) (.inr (.inr (some (t, j))) :: as) S' w cu su (fun S2 w2 => K (pc + 3) L S2 w2 cu su) (fun S2 w2 cu2 su2 => Kc (pc + 3) L S2 w2 cu2 su2)
      | _ => False)
    | none => False
  | .ireturn => match S with | [.inl v] => nar (mR M) v ∧ Q (some (.inl v)) w | _ => False
  | .lreturn => match S with | [.inr (.inl v)] => mR M = some .long ∧ Q (some (.inr (.inl v))) w | _ => False
  | .areturn => match S with | [.inr (.inr v)] => (mR M).any rTy = true ∧ Q (some (.inr (.inr v))) w | _ => False
  | .return_ => match S with | [] => mR M = none ∧ Q none w | _ => False
  | _ => False
end
section
/-! instructions that touch no heap: each is what the machine does -/
theorem clS_c {w : Wd} {v : AV} {S : List AV} (h : clV w v) (hS : clS w S) : clS w (v :: S) := fun u hu => by
  rcases List.mem_cons.mp hu with rfl | h1
  · exact h
  · exact hS u h1
theorem clS_t {w : Wd} {v : AV} {S : List AV} (h : clS w (v :: S)) : clS w S := fun u hu => h u (List.mem_cons_of_mem _ hu)
theorem clS_h {w : Wd} {v : AV} {S : List AV} (h : clS w (v :: S)) : clV w v := h v List.mem_cons_self
theorem clL_set {w : Wd} {L : List (Option AV)} {i : Nat} {v : AV} (h : clL w L) (hv : clV w v) : clL w (st1 L i v) := fun j x hx => by
  rw [st1, lg_lset] at hx
  split at hx
  · cases hx; exact hv
  · exact h j x (lg_kil hx).1
theorem clL_set2 {w : Wd} {L : List (Option AV)} {i : Nat} {v : AV} (h : clL w L) (hv : clV w v) : clL w (st2 L i v) := fun j x hx => by
  rw [st2, lg_lset] at hx
  split at hx
  · cases hx
  · rw [lg_lset] at hx
    split at hx
    · cases hx; exact hv
    · exact h j x (lg_kil hx).1
theorem jmp_go {pc : Nat} {off : Int} {K : Nat → Prop} (h : jmp pc off K) : ∃ t : Nat, (pc : Int) + off = (t : Int) ∧ K t := ⟨_, (Int.toNat_of_nonneg h.1).symm, h.2⟩
abbrev stW (l : Launch) (G : Gc) (M : MI) (C : CE) (X : XE) (n mc ms : Nat) (Q : Option AV → Wd → Prop) (pc : Nat) (ins : Instr) (L : List (Option AV)) (S : List AV) (w : Wd) (cu su : Nat) : Prop :=
  stp l G M C X n mc ms Q (WP l G M n mc ms Q) (WP l G M n mc ms Q) pc ins L S w cu su
section S1
variable {l : Launch} {G : Gc} {M : MI} {C : CE} {X : XE} {n mc ms : Nat} {Q : Option AV → Wd → Prop} {pc : Nat} {L : List (Option AV)} {S : List AV} {w : Wd} {cu su : Nat}
theorem s_iconst {k : Int} (hd : decode (mB M) pc = .ok (.iconst k, 1)) (hs : stW l G M C X n mc ms Q pc (.iconst k) L S w cu su) : WP l G M n mc ms Q pc L S w cu su := by
  intro p e s m args below meth c Z ad0 w0 hF hc ad H locs ls hR hE hL hl hS ho h1 h2
  obtain ⟨hx, hb, -⟩ := id hF
  simp only [stW, stp] at hs
  exact lv_iconst hx hb hd rfl (hs p e s m args below meth c Z ad0 w0 hF hc ad H locs ls hR hE hL hl (clS_c trivial hS) ho h1 h2)
theorem s_bipush {k : Int} (hd : decode (mB M) pc = .ok (.bipush k, 2)) (hs : stW l G M C X n mc ms Q pc (.bipush k) L S w cu su) : WP l G M n mc ms Q pc L S w cu su := by
  intro p e s m args below meth c Z ad0 w0 hF hc ad H locs ls hR hE hL hl hS ho h1 h2
  obtain ⟨hx, hb, -⟩ := id hF
  simp only [stW, stp] at hs
  exact lv_bipush hx hb hd rfl (hs p e s m args below meth c Z ad0 w0 hF hc ad H locs ls hR hE hL hl (clS_c trivial hS) ho h1 h2)
theorem s_sipush {k : Int} (hd : decode (mB M) pc = .ok (.sipush k, 3)) (hs : stW l G M C X n mc ms Q pc (.sipush k) L S w cu su) : WP l G M n mc ms Q pc L S w cu su := by
  intro p e s m args below meth c Z ad0 w0 hF hc ad H locs ls hR hE hL hl hS ho h1 h2
  obtain ⟨hx, hb, -⟩ := id hF
  simp only [stW, stp] at hs
  exact lv_sipush hx hb hd rfl (hs p e s m args below meth c Z ad0 w0 hF hc ad H locs ls hR hE hL hl (clS_c trivial hS) ho h1 h2)
theorem s_lconst {k : Fin 2} (hd : decode (mB M) pc = .ok (.lconst k, 1)) (hs : stW l G M C X n mc ms Q pc (.lconst k) L S w cu su) : WP l G M n mc ms Q pc L S w cu su := by
  intro p e s m args below meth c Z ad0 w0 hF hc ad H locs ls hR hE hL hl hS ho h1 h2
  obtain ⟨hx, hb, -⟩ := id hF
  simp only [stW, stp] at hs
  exact lv_lconst hx hb hd rfl (hs p e s m args below meth c Z ad0 w0 hF hc ad H locs ls hR hE hL hl (clS_c trivial hS) ho h1 h2)
theorem s_null (hd : decode (mB M) pc = .ok (.aconst_null, 1)) (hs : stW l G M C X n mc ms Q pc (.aconst_null) L S w cu su) : WP l G M n mc ms Q pc L S w cu su := by
  intro p e s m args below meth c Z ad0 w0 hF hc ad H locs ls hR hE hL hl hS ho h1 h2
  obtain ⟨hx, hb, -⟩ := id hF
  simp only [stW, stp] at hs
  exact lv_null hx hb hd (hs p e s m args below meth c Z ad0 w0 hF hc ad H locs ls hR hE hL hl (clS_c trivial hS) ho h1 h2)
theorem s_iload {i : Nat} (hd : decode (mB M) pc = .ok (.iload i, 2)) (hs : stW l G M C X n mc ms Q pc (.iload i) L S w cu su) : WP l G M n mc ms Q pc L S w cu su := by
  intro p e s m args below meth c Z ad0 w0 hF hc ad H locs ls hR hE hL hl hS ho h1 h2
  obtain ⟨hx, hb, -⟩ := id hF
  simp only [stW, stp] at hs
  split at hs
  · rename_i x hg
    exact lv_iload hx hb hd (hL.2.2.2 _ _ hg) (hs p e s m args below meth c Z ad0 w0 hF hc ad H locs ls hR hE hL hl (clS_c trivial hS) ho h1 h2)
  · exact hs.elim
theorem s_iload_n {i : Fin 4} (hd : decode (mB M) pc = .ok (.iload_n i, 1)) (hs : stW l G M C X n mc ms Q pc (.iload_n i) L S w cu su) : WP l G M n mc ms Q pc L S w cu su := by
  intro p e s m args below meth c Z ad0 w0 hF hc ad H locs ls hR hE hL hl hS ho h1 h2
  obtain ⟨hx, hb, -⟩ := id hF
  simp only [stW, stp] at hs
  split at hs
  · rename_i x hg
    exact lv_iload_n hx hb hd rfl (hL.2.2.2 _ _ hg) (hs p e s m args below meth c Z ad0 w0 hF hc ad H locs ls hR hE hL hl (clS_c trivial hS) ho h1 h2)
  · exact hs.elim
theorem s_lload {i : Nat} (hd : decode (mB M) pc = .ok (.lload i, 2)) (hs : stW l G M C X n mc ms Q pc (.lload i) L S w cu su) : WP l G M n mc ms Q pc L S w cu su := by
  intro p e s m args below meth c Z ad0 w0 hF hc ad H locs ls hR hE hL hl hS ho h1 h2
  obtain ⟨hx, hb, -⟩ := id hF
  simp only [stW, stp] at hs
  split at hs
  · rename_i x hg
    exact lv_lload hx hb hd (hL.2.2.2 _ _ hg) (hs p e s m args below meth c Z ad0 w0 hF hc ad H locs ls hR hE hL hl (clS_c trivial hS) ho h1 h2)
  · exact hs.elim
theorem s_lload_n {i : Fin 4} (hd : decode (mB M) pc = .ok (.lload_n i, 1)) (hs : stW l G M C X n mc ms Q pc (.lload_n i) L S w cu su) : WP l G M n mc ms Q pc L S w cu su := by
  intro p e s m args below meth c Z ad0 w0 hF hc ad H locs ls hR hE hL hl hS ho h1 h2
  obtain ⟨hx, hb, -⟩ := id hF
  simp only [stW, stp] at hs
  split at hs
  · rename_i x hg
    exact lv_lload_n hx hb hd rfl (hL.2.2.2 _ _ hg) (hs p e s m args below meth c Z ad0 w0 hF hc ad H locs ls hR hE hL hl (clS_c trivial hS) ho h1 h2)
  · exact hs.elim
theorem s_aload {i : Nat} (hd : decode (mB M) pc = .ok (.aload i, 2)) (hs : stW l G M C X n mc ms Q pc (.aload i) L S w cu su) : WP l G M n mc ms Q pc L S w cu su := by
  intro p e s m args below meth c Z ad0 w0 hF hc ad H locs ls hR hE hL hl hS ho h1 h2
  obtain ⟨hx, hb, -⟩ := id hF
  simp only [stW, stp] at hs
  split at hs
  · rename_i x hg
    have hv := hl _ _ hg
    have hq := hL.2.2.2 _ _ hg
    cases x with
    | none => exact lv_aloadN hx hb hd hq (hs p e s m args below meth c Z ad0 w0 hF hc ad H locs ls hR hE hL hl (clS_c trivial hS) ho h1 h2)
    | some q => exact lv_aload hx hb hd hq (hs p e s m args below meth c Z ad0 w0 hF hc ad H locs ls hR hE hL hl (clS_c hv hS) ho h1 h2)
  · exact hs.elim
theorem s_istore {i : Nat} (hd : decode (mB M) pc = .ok (.istore i, 2)) (hs : stW l G M C X n mc ms Q pc (.istore i) L S w cu su) : WP l G M n mc ms Q pc L S w cu su := by
  intro p e s m args below meth c Z ad0 w0 hF hc ad H locs ls hR hE hL hl hS ho h1 h2
  obtain ⟨hx, hb, -⟩ := id hF
  simp only [stW, stp] at hs
  split at hs
  · rename_i x S2
    exact lv_istore hx hb hd hL.has (by rw [← hL.2.1]; exact hs.1) rfl (fun ls2 h3 => (hs.2 p e s m args below meth c Z ad0 w0 hF hc ad H locs ls2 hR hE (lsr_st1 hL h3) (clL_set hl trivial) (clS_t hS) ho h1 h2))
  · exact hs.elim
theorem s_lstore {i : Nat} (hd : decode (mB M) pc = .ok (.lstore i, 2)) (hs : stW l G M C X n mc ms Q pc (.lstore i) L S w cu su) : WP l G M n mc ms Q pc L S w cu su := by
  intro p e s m args below meth c Z ad0 w0 hF hc ad H locs ls hR hE hL hl hS ho h1 h2
  obtain ⟨hx, hb, -⟩ := id hF
  simp only [stW, stp] at hs
  split at hs
  · rename_i x S2
    exact lv_lstore hx hb hd hL.has (by rw [← hL.2.1]; exact hs.1) rfl (fun ls2 h3 => (hs.2 p e s m args below meth c Z ad0 w0 hF hc ad H locs ls2 hR hE (lsr_st2 hL h3) (clL_set2 hl trivial) (clS_t hS) ho h1 h2))
  · exact hs.elim
theorem s_astore {i : Nat} (hd : decode (mB M) pc = .ok (.astore i, 2)) (hs : stW l G M C X n mc ms Q pc (.astore i) L S w cu su) : WP l G M n mc ms Q pc L S w cu su := by
  intro p e s m args below meth c Z ad0 w0 hF hc ad H locs ls hR hE hL hl hS ho h1 h2
  obtain ⟨hx, hb, -⟩ := id hF
  simp only [stW, stp] at hs
  split at hs
  · rename_i x S2
    cases x with
    | none => exact lv_astoreN hx hb hd hL.has (by rw [← hL.2.1]; exact hs.1) rfl (fun ls2 h3 => (hs.2 p e s m args below meth c Z ad0 w0 hF hc ad H locs ls2 hR hE (lsr_st1 hL h3) (clL_set hl (clS_h hS)) (clS_t hS) ho h1 h2))
    | some q => exact lv_astore hx hb hd hL.has (by rw [← hL.2.1]; exact hs.1) rfl (fun ls2 h3 => (hs.2 p e s m args below meth c Z ad0 w0 hF hc ad H locs ls2 hR hE (lsr_st1 hL h3) (clL_set hl (clS_h hS)) (clS_t hS) ho h1 h2))
  · exact hs.elim
theorem s_aload_n {i : Fin 4} (hd : decode (mB M) pc = .ok (.aload_n i, 1)) (hs : stW l G M C X n mc ms Q pc (.aload_n i) L S w cu su) : WP l G M n mc ms Q pc L S w cu su := by
  intro p e s m args below meth c Z ad0 w0 hF hc ad H locs ls hR hE hL hl hS ho h1 h2
  obtain ⟨hx, hb, -⟩ := id hF
  simp only [stW, stp] at hs
  split at hs
  · rename_i x hg
    have hv := hl _ _ hg
    have hq := hL.2.2.2 _ _ hg
    cases x with
    | none => exact lv_aload_nN hx hb hd rfl hq (hs p e s m args below meth c Z ad0 w0 hF hc ad H locs ls hR hE hL hl (clS_c trivial hS) ho h1 h2)
    | some q => exact lv_aload_n hx hb hd rfl hq (hs p e s m args below meth c Z ad0 w0 hF hc ad H locs ls hR hE hL hl (clS_c hv hS) ho h1 h2)
  · exact hs.elim
theorem s_istore_n {i : Fin 4} (hd : decode (mB M) pc = .ok (.istore_n i, 1)) (hs : stW l G M C X n mc ms Q pc (.istore_n i) L S w cu su) : WP l G M n mc ms Q pc L S w cu su := by
  intro p e s m args below meth c Z ad0 w0 hF hc ad H locs ls hR hE hL hl hS ho h1 h2
  obtain ⟨hx, hb, -⟩ := id hF
  simp only [stW, stp] at hs
  split at hs
  · rename_i x S2
    exact lv_istore_n hx hb hd rfl hL.has (by rw [← hL.2.1]; exact hs.1) rfl (fun ls2 h3 => (hs.2 p e s m args below meth c Z ad0 w0 hF hc ad H locs ls2 hR hE (lsr_st1 hL h3) (clL_set hl trivial) (clS_t hS) ho h1 h2))
  · exact hs.elim
theorem s_lstore_n {i : Fin 4} (hd : decode (mB M) pc = .ok (.lstore_n i, 1)) (hs : stW l G M C X n mc ms Q pc (.lstore_n i) L S w cu su) : WP l G M n mc ms Q pc L S w cu su := by
  intro p e s m args below meth c Z ad0 w0 hF hc ad H locs ls hR hE hL hl hS ho h1 h2
  obtain ⟨hx, hb, -⟩ := id hF
  simp only [stW, stp] at hs
  split at hs
  · rename_i x S2
    exact lv_lstore_n hx hb hd rfl hL.has (by rw [← hL.2.1]; exact hs.1) rfl (fun ls2 h3 => (hs.2 p e s m args below meth c Z ad0 w0 hF hc ad H locs ls2 hR hE (lsr_st2 hL h3) (clL_set2 hl trivial) (clS_t hS) ho h1 h2))
  · exact hs.elim
theorem s_astore_n {i : Fin 4} (hd : decode (mB M) pc = .ok (.astore_n i, 1)) (hs : stW l G M C X n mc ms Q pc (.astore_n i) L S w cu su) : WP l G M n mc ms Q pc L S w cu su := by
  intro p e s m args below meth c Z ad0 w0 hF hc ad H locs ls hR hE hL hl hS ho h1 h2
  obtain ⟨hx, hb, -⟩ := id hF
  simp only [stW, stp] at hs
  split at hs
  · rename_i x S2
    cases x with
    | none => exact lv_astore_nN hx hb hd rfl hL.has (by rw [← hL.2.1]; exact hs.1) rfl (fun ls2 h3 => (hs.2 p e s m args below meth c Z ad0 w0 hF hc ad H locs ls2 hR hE (lsr_st1 hL h3) (clL_set hl (clS_h hS)) (clS_t hS) ho h1 h2))
    | some q => exact lv_astore_n hx hb hd rfl hL.has (by rw [← hL.2.1]; exact hs.1) rfl (fun ls2 h3 => (hs.2 p e s m args below meth c Z ad0 w0 hF hc ad H locs ls2 hR hE (lsr_st1 hL h3) (clL_set hl (clS_h hS)) (clS_t hS) ho h1 h2))
  · exact hs.elim
theorem s_iinc {i : Nat} {k : Int} (hd : decode (mB M) pc = .ok (.iinc i k, 3)) (hs : stW l G M C X n mc ms Q pc (.iinc i k) L S w cu su) : WP l G M n mc ms Q pc L S w cu su := by
  intro p e s m args below meth c Z ad0 w0 hF hc ad H locs ls hR hE hL hl hS ho h1 h2
  obtain ⟨hx, hb, -⟩ := id hF
  simp only [stW, stp] at hs
  split at hs
  · rename_i x hg
    obtain ⟨kk, hkk⟩ := List.getElem?_of_mem (lpr_mem (ad := ad).mpr ⟨_, hg, rfl⟩)
    exact lv_iinc hx hb hd hL.has hkk rfl (by rw [← hL.2.1]; exact hs.1) rfl (fun ls2 h3 => (hs.2 p e s m args below meth c Z ad0 w0 hF hc ad H locs ls2 hR hE (lsr_st1 hL h3) (clL_set hl trivial) hS ho h1 h2))
  · exact hs.elim
theorem s_iadd (hd : decode (mB M) pc = .ok (.iadd, 1)) (hs : stW l G M C X n mc ms Q pc (.iadd) L S w cu su) : WP l G M n mc ms Q pc L S w cu su := by
  intro p e s m args below meth c Z ad0 w0 hF hc ad H locs ls hR hE hL hl hS ho h1 h2
  obtain ⟨hx, hb, -⟩ := id hF
  simp only [stW, stp] at hs
  split at hs
  · exact lv_iadd hx hb hd (hs p e s m args below meth c Z ad0 w0 hF hc ad H locs ls hR hE hL hl (clS_c trivial (clS_t (clS_t hS))) ho h1 h2)
  · exact hs.elim
theorem s_isub (hd : decode (mB M) pc = .ok (.isub, 1)) (hs : stW l G M C X n mc ms Q pc (.isub) L S w cu su) : WP l G M n mc ms Q pc L S w cu su := by
  intro p e s m args below meth c Z ad0 w0 hF hc ad H locs ls hR hE hL hl hS ho h1 h2
  obtain ⟨hx, hb, -⟩ := id hF
  simp only [stW, stp] at hs
  split at hs
  · exact lv_isub hx hb hd (hs p e s m args below meth c Z ad0 w0 hF hc ad H locs ls hR hE hL hl (clS_c trivial (clS_t (clS_t hS))) ho h1 h2)
  · exact hs.elim
theorem s_imul (hd : decode (mB M) pc = .ok (.imul, 1)) (hs : stW l G M C X n mc ms Q pc (.imul) L S w cu su) : WP l G M n mc ms Q pc L S w cu su := by
  intro p e s m args below meth c Z ad0 w0 hF hc ad H locs ls hR hE hL hl hS ho h1 h2
  obtain ⟨hx, hb, -⟩ := id hF
  simp only [stW, stp] at hs
  split at hs
  · exact lv_imul hx hb hd (hs p e s m args below meth c Z ad0 w0 hF hc ad H locs ls hR hE hL hl (clS_c trivial (clS_t (clS_t hS))) ho h1 h2)
  · exact hs.elim
theorem s_iand (hd : decode (mB M) pc = .ok (.iand, 1)) (hs : stW l G M C X n mc ms Q pc (.iand) L S w cu su) : WP l G M n mc ms Q pc L S w cu su := by
  intro p e s m args below meth c Z ad0 w0 hF hc ad H locs ls hR hE hL hl hS ho h1 h2
  obtain ⟨hx, hb, -⟩ := id hF
  simp only [stW, stp] at hs
  split at hs
  · exact lv_iand hx hb hd (hs p e s m args below meth c Z ad0 w0 hF hc ad H locs ls hR hE hL hl (clS_c trivial (clS_t (clS_t hS))) ho h1 h2)
  · exact hs.elim
theorem s_ior (hd : decode (mB M) pc = .ok (.ior, 1)) (hs : stW l G M C X n mc ms Q pc (.ior) L S w cu su) : WP l G M n mc ms Q pc L S w cu su := by
  intro p e s m args below meth c Z ad0 w0 hF hc ad H locs ls hR hE hL hl hS ho h1 h2
  obtain ⟨hx, hb, -⟩ := id hF
  simp only [stW, stp] at hs
  split at hs
  · exact lv_ior hx hb hd (hs p e s m args below meth c Z ad0 w0 hF hc ad H locs ls hR hE hL hl (clS_c trivial (clS_t (clS_t hS))) ho h1 h2)
  · exact hs.elim
theorem s_ixor (hd : decode (mB M) pc = .ok (.ixor, 1)) (hs : stW l G M C X n mc ms Q pc (.ixor) L S w cu su) : WP l G M n mc ms Q pc L S w cu su := by
  intro p e s m args below meth c Z ad0 w0 hF hc ad H locs ls hR hE hL hl hS ho h1 h2
  obtain ⟨hx, hb, -⟩ := id hF
  simp only [stW, stp] at hs
  split at hs
  · exact lv_ixor hx hb hd (hs p e s m args below meth c Z ad0 w0 hF hc ad H locs ls hR hE hL hl (clS_c trivial (clS_t (clS_t hS))) ho h1 h2)
  · exact hs.elim
theorem s_ishl (hd : decode (mB M) pc = .ok (.ishl, 1)) (hs : stW l G M C X n mc ms Q pc (.ishl) L S w cu su) : WP l G M n mc ms Q pc L S w cu su := by
  intro p e s m args below meth c Z ad0 w0 hF hc ad H locs ls hR hE hL hl hS ho h1 h2
  obtain ⟨hx, hb, -⟩ := id hF
  simp only [stW, stp] at hs
  split at hs
  · exact lv_ishl hx hb hd (hs p e s m args below meth c Z ad0 w0 hF hc ad H locs ls hR hE hL hl (clS_c trivial (clS_t (clS_t hS))) ho h1 h2)
  · exact hs.elim
theorem s_ishr (hd : decode (mB M) pc = .ok (.ishr, 1)) (hs : stW l G M C X n mc ms Q pc (.ishr) L S w cu su) : WP l G M n mc ms Q pc L S w cu su := by
  intro p e s m args below meth c Z ad0 w0 hF hc ad H locs ls hR hE hL hl hS ho h1 h2
  obtain ⟨hx, hb, -⟩ := id hF
  simp only [stW, stp] at hs
  split at hs
  · exact lv_ishr hx hb hd (hs p e s m args below meth c Z ad0 w0 hF hc ad H locs ls hR hE hL hl (clS_c trivial (clS_t (clS_t hS))) ho h1 h2)
  · exact hs.elim
theorem s_ladd (hd : decode (mB M) pc = .ok (.ladd, 1)) (hs : stW l G M C X n mc ms Q pc (.ladd) L S w cu su) : WP l G M n mc ms Q pc L S w cu su := by
  intro p e s m args below meth c Z ad0 w0 hF hc ad H locs ls hR hE hL hl hS ho h1 h2
  obtain ⟨hx, hb, -⟩ := id hF
  simp only [stW, stp] at hs
  split at hs
  · exact lv_ladd hx hb hd (hs p e s m args below meth c Z ad0 w0 hF hc ad H locs ls hR hE hL hl (clS_c trivial (clS_t (clS_t hS))) ho h1 h2)
  · exact hs.elim
theorem s_lmul (hd : decode (mB M) pc = .ok (.lmul, 1)) (hs : stW l G M C X n mc ms Q pc (.lmul) L S w cu su) : WP l G M n mc ms Q pc L S w cu su := by
  intro p e s m args below meth c Z ad0 w0 hF hc ad H locs ls hR hE hL hl hS ho h1 h2
  obtain ⟨hx, hb, -⟩ := id hF
  simp only [stW, stp] at hs
  split at hs
  · exact lv_lmul hx hb hd (hs p e s m args below meth c Z ad0 w0 hF hc ad H locs ls hR hE hL hl (clS_c trivial (clS_t (clS_t hS))) ho h1 h2)
  · exact hs.elim
theorem s_land (hd : decode (mB M) pc = .ok (.land, 1)) (hs : stW l G M C X n mc ms Q pc (.land) L S w cu su) : WP l G M n mc ms Q pc L S w cu su := by
  intro p e s m args below meth c Z ad0 w0 hF hc ad H locs ls hR hE hL hl hS ho h1 h2
  obtain ⟨hx, hb, -⟩ := id hF
  simp only [stW, stp] at hs
  split at hs
  · exact lv_land hx hb hd (hs p e s m args below meth c Z ad0 w0 hF hc ad H locs ls hR hE hL hl (clS_c trivial (clS_t (clS_t hS))) ho h1 h2)
  · exact hs.elim
theorem s_lcmp (hd : decode (mB M) pc = .ok (.lcmp, 1)) (hs : stW l G M C X n mc ms Q pc (.lcmp) L S w cu su) : WP l G M n mc ms Q pc L S w cu su := by
  intro p e s m args below meth c Z ad0 w0 hF hc ad H locs ls hR hE hL hl hS ho h1 h2
  obtain ⟨hx, hb, -⟩ := id hF
  simp only [stW, stp] at hs
  split at hs
  · exact W.lcmp hx hb hd (hs p e s m args below meth c Z ad0 w0 hF hc ad H locs ls hR hE hL hl (clS_c trivial (clS_t (clS_t hS))) ho h1 h2)
  · exact hs.elim
theorem s_iushr (hd : decode (mB M) pc = .ok (.iushr, 1)) (hs : stW l G M C X n mc ms Q pc (.iushr) L S w cu su) : WP l G M n mc ms Q pc L S w cu su := by
  intro p e s m args below meth c Z ad0 w0 hF hc ad H locs ls hR hE hL hl hS ho h1 h2
  obtain ⟨hx, hb, -⟩ := id hF
  simp only [stW, stp] at hs
  split at hs
  · exact lv_iushr hx hb hd rfl (hs p e s m args below meth c Z ad0 w0 hF hc ad H locs ls hR hE hL hl (clS_c trivial (clS_t (clS_t hS))) ho h1 h2)
  · exact hs.elim
theorem s_lshr (hd : decode (mB M) pc = .ok (.lshr, 1)) (hs : stW l G M C X n mc ms Q pc (.lshr) L S w cu su) : WP l G M n mc ms Q pc L S w cu su := by
  intro p e s m args below meth c Z ad0 w0 hF hc ad H locs ls hR hE hL hl hS ho h1 h2
  obtain ⟨hx, hb, -⟩ := id hF
  simp only [stW, stp] at hs
  split at hs
  · exact lv_lshr hx hb hd rfl (hs p e s m args below meth c Z ad0 w0 hF hc ad H locs ls hR hE hL hl (clS_c trivial (clS_t (clS_t hS))) ho h1 h2)
  · exact hs.elim
theorem s_idiv (hd : decode (mB M) pc = .ok (.idiv, 1)) (hs : stW l G M C X n mc ms Q pc (.idiv) L S w cu su) : WP l G M n mc ms Q pc L S w cu su := by
  intro p e s m args below meth c Z ad0 w0 hF hc ad H locs ls hR hE hL hl hS ho h1 h2
  obtain ⟨hx, hb, -⟩ := id hF
  simp only [stW, stp] at hs
  split at hs
  · exact lv_idiv hx hb hd hs.1 (hs.2 p e s m args below meth c Z ad0 w0 hF hc ad H locs ls hR hE hL hl (clS_c trivial (clS_t (clS_t hS))) ho h1 h2)
  · exact hs.elim
theorem s_irem (hd : decode (mB M) pc = .ok (.irem, 1)) (hs : stW l G M C X n mc ms Q pc (.irem) L S w cu su) : WP l G M n mc ms Q pc L S w cu su := by
  intro p e s m args below meth c Z ad0 w0 hF hc ad H locs ls hR hE hL hl hS ho h1 h2
  obtain ⟨hx, hb, -⟩ := id hF
  simp only [stW, stp] at hs
  split at hs
  · exact lv_irem hx hb hd hs.1 (hs.2 p e s m args below meth c Z ad0 w0 hF hc ad H locs ls hR hE hL hl (clS_c trivial (clS_t (clS_t hS))) ho h1 h2)
  · exact hs.elim
theorem s_ldiv (hd : decode (mB M) pc = .ok (.ldiv, 1)) (hs : stW l G M C X n mc ms Q pc (.ldiv) L S w cu su) : WP l G M n mc ms Q pc L S w cu su := by
  intro p e s m args below meth c Z ad0 w0 hF hc ad H locs ls hR hE hL hl hS ho h1 h2
  obtain ⟨hx, hb, -⟩ := id hF
  simp only [stW, stp] at hs
  split at hs
  · exact lv_ldiv hx hb hd hs.1 (hs.2 p e s m args below meth c Z ad0 w0 hF hc ad H locs ls hR hE hL hl (clS_c trivial (clS_t (clS_t hS))) ho h1 h2)
  · exact hs.elim
theorem s_ineg (hd : decode (mB M) pc = .ok (.ineg, 1)) (hs : stW l G M C X n mc ms Q pc (.ineg) L S w cu su) : WP l G M n mc ms Q pc L S w cu su := by
  intro p e s m args below meth c Z ad0 w0 hF hc ad H locs ls hR hE hL hl hS ho h1 h2
  obtain ⟨hx, hb, -⟩ := id hF
  simp only [stW, stp] at hs
  split at hs
  · exact lv_ineg hx hb hd (hs p e s m args below meth c Z ad0 w0 hF hc ad H locs ls hR hE hL hl (clS_c trivial (clS_t hS)) ho h1 h2)
  · exact hs.elim
theorem s_i2l (hd : decode (mB M) pc = .ok (.i2l, 1)) (hs : stW l G M C X n mc ms Q pc (.i2l) L S w cu su) : WP l G M n mc ms Q pc L S w cu su := by
  intro p e s m args below meth c Z ad0 w0 hF hc ad H locs ls hR hE hL hl hS ho h1 h2
  obtain ⟨hx, hb, -⟩ := id hF
  simp only [stW, stp] at hs
  split at hs
  · exact lv_i2l hx hb hd rfl (hs p e s m args below meth c Z ad0 w0 hF hc ad H locs ls hR hE hL hl (clS_c trivial (clS_t hS)) ho h1 h2)
  · exact hs.elim
theorem s_l2i (hd : decode (mB M) pc = .ok (.l2i, 1)) (hs : stW l G M C X n mc ms Q pc (.l2i) L S w cu su) : WP l G M n mc ms Q pc L S w cu su := by
  intro p e s m args below meth c Z ad0 w0 hF hc ad H locs ls hR hE hL hl hS ho h1 h2
  obtain ⟨hx, hb, -⟩ := id hF
  simp only [stW, stp] at hs
  split at hs
  · exact lv_l2i hx hb hd rfl (hs p e s m args below meth c Z ad0 w0 hF hc ad H locs ls hR hE hL hl (clS_c trivial (clS_t hS)) ho h1 h2)
  · exact hs.elim
theorem s_dup (hd : decode (mB M) pc = .ok (.dup, 1)) (hs : stW l G M C X n mc ms Q pc (.dup) L S w cu su) : WP l G M n mc ms Q pc L S w cu su := by
  intro p e s m args below meth c Z ad0 w0 hF hc ad H locs ls hR hE hL hl hS ho h1 h2
  obtain ⟨hx, hb, -⟩ := id hF
  simp only [stW, stp] at hs
  split at hs
  · exact lv_dup hx hb hd (by rw [cat_ren, hs.1]; rfl) (hs.2 p e s m args below meth c Z ad0 w0 hF hc ad H locs ls hR hE hL hl (clS_c (clS_h hS) hS) ho h1 h2)
  · exact hs.elim
theorem s_pop (hd : decode (mB M) pc = .ok (.pop, 1)) (hs : stW l G M C X n mc ms Q pc (.pop) L S w cu su) : WP l G M n mc ms Q pc L S w cu su := by
  intro p e s m args below meth c Z ad0 w0 hF hc ad H locs ls hR hE hL hl hS ho h1 h2
  obtain ⟨hx, hb, -⟩ := id hF
  simp only [stW, stp] at hs
  split at hs
  · exact lv_pop hx hb hd (by rw [cat_ren, hs.1]; rfl) (hs.2 p e s m args below meth c Z ad0 w0 hF hc ad H locs ls hR hE hL hl (clS_t hS) ho h1 h2)
  · exact hs.elim
theorem s_dup_x1 (hd : decode (mB M) pc = .ok (.dup_x1, 1)) (hs : stW l G M C X n mc ms Q pc (.dup_x1) L S w cu su) : WP l G M n mc ms Q pc L S w cu su := by
  intro p e s m args below meth c Z ad0 w0 hF hc ad H locs ls hR hE hL hl hS ho h1 h2
  obtain ⟨hx, hb, -⟩ := id hF
  simp only [stW, stp] at hs
  split at hs
  · exact lv_dup_x1 hx hb hd (by rw [cat_ren, hs.1]; rfl) (by rw [cat_ren, hs.2.1]; rfl) (hs.2.2 p e s m args below meth c Z ad0 w0 hF hc ad H locs ls hR hE hL hl (clS_c (clS_h hS) (clS_c (clS_h (clS_t hS)) (clS_c (clS_h hS) (clS_t (clS_t hS))))) ho h1 h2)
  · exact hs.elim
theorem s_dup2 (hd : decode (mB M) pc = .ok (.dup2, 1)) (hs : stW l G M C X n mc ms Q pc (.dup2) L S w cu su) : WP l G M n mc ms Q pc L S w cu su := by
  intro p e s m args below meth c Z ad0 w0 hF hc ad H locs ls hR hE hL hl hS ho h1 h2
  obtain ⟨hx, hb, -⟩ := id hF
  simp only [stW, stp] at hs
  split at hs
  · exact lv_dup2_11 hx hb hd (by rw [cat_ren, hs.1]; rfl) (by rw [cat_ren, hs.2.1]; rfl) (hs.2.2 p e s m args below meth c Z ad0 w0 hF hc ad H locs ls hR hE hL hl (clS_c (clS_h hS) (clS_c (clS_h (clS_t hS)) hS)) ho h1 h2)
  · exact hs.elim
theorem s_if_eq {off : Int} (hd : decode (mB M) pc = .ok (.ifCond .eq off, 3)) (hs : stW l G M C X n mc ms Q pc (.ifCond .eq off) L S w cu su) : WP l G M n mc ms Q pc L S w cu su := by
  intro p e s m args below meth c Z ad0 w0 hF hc ad H locs ls hR hE hL hl hS ho h1 h2
  obtain ⟨hx, hb, -⟩ := id hF
  simp only [stW, stp] at hs
  split at hs
  · rename_i x S2
    exact lv_if_eq hx hb hd (Int.toNat_of_nonneg hs.1).symm (fun z => ((hs.2.1 z) p e s m args below meth c Z ad0 w0 hF hc ad H locs ls hR hE hL hl (clS_t hS) ho h1 h2)) (fun z => ((hs.2.2 z) p e s m args below meth c Z ad0 w0 hF hc ad H locs ls hR hE hL hl (clS_t hS) ho h1 h2))
  · exact hs.elim
theorem s_icmp_eq {off : Int} (hd : decode (mB M) pc = .ok (.if_icmp .eq off, 3)) (hs : stW l G M C X n mc ms Q pc (.if_icmp .eq off) L S w cu su) : WP l G M n mc ms Q pc L S w cu su := by
  intro p e s m args below meth c Z ad0 w0 hF hc ad H locs ls hR hE hL hl hS ho h1 h2
  obtain ⟨hx, hb, -⟩ := id hF
  simp only [stW, stp] at hs
  split at hs
  · rename_i y x S2
    exact lv_icmp_eq hx hb hd (Int.toNat_of_nonneg hs.1).symm (fun z => ((hs.2.1 z) p e s m args below meth c Z ad0 w0 hF hc ad H locs ls hR hE hL hl (clS_t (clS_t hS)) ho h1 h2)) (fun z => ((hs.2.2 z) p e s m args below meth c Z ad0 w0 hF hc ad H locs ls hR hE hL hl (clS_t (clS_t hS)) ho h1 h2))
  · exact hs.elim
theorem s_if_ne {off : Int} (hd : decode (mB M) pc = .ok (.ifCond .ne off, 3)) (hs : stW l G M C X n mc ms Q pc (.ifCond .ne off) L S w cu su) : WP l G M n mc ms Q pc L S w cu su := by
  intro p e s m args below meth c Z ad0 w0 hF hc ad H locs ls hR hE hL hl hS ho h1 h2
  obtain ⟨hx, hb, -⟩ := id hF
  simp only [stW, stp] at hs
  split at hs
  · rename_i x S2
    exact lv_if_ne hx hb hd (Int.toNat_of_nonneg hs.1).symm (fun z => ((hs.2.1 z) p e s m args below meth c Z ad0 w0 hF hc ad H locs ls hR hE hL hl (clS_t hS) ho h1 h2)) (fun z => ((hs.2.2 z) p e s m args below meth c Z ad0 w0 hF hc ad H locs ls hR hE hL hl (clS_t hS) ho h1 h2))
  · exact hs.elim
theorem s_icmp_ne {off : Int} (hd : decode (mB M) pc = .ok (.if_icmp .ne off, 3)) (hs : stW l G M C X n mc ms Q pc (.if_icmp .ne off) L S w cu su) : WP l G M n mc ms Q pc L S w cu su := by
  intro p e s m args below meth c Z ad0 w0 hF hc ad H locs ls hR hE hL hl hS ho h1 h2
  obtain ⟨hx, hb, -⟩ := id hF
  simp only [stW, stp] at hs
  split at hs
  · rename_i y x S2
    exact lv_icmp_ne hx hb hd (Int.toNat_of_nonneg hs.1).symm (fun z => ((hs.2.1 z) p e s m args below meth c Z ad0 w0 hF hc ad H locs ls hR hE hL hl (clS_t (clS_t hS)) ho h1 h2)) (fun z => ((hs.2.2 z) p e s m args below meth c Z ad0 w0 hF hc ad H locs ls hR hE hL hl (clS_t (clS_t hS)) ho h1 h2))
  · exact hs.elim
theorem s_if_lt {off : Int} (hd : decode (mB M) pc = .ok (.ifCond .lt off, 3)) (hs : stW l G M C X n mc ms Q pc (.ifCond .lt off) L S w cu su) : WP l G M n mc ms Q pc L S w cu su := by
  intro p e s m args below meth c Z ad0 w0 hF hc ad H locs ls hR hE hL hl hS ho h1 h2
  obtain ⟨hx, hb, -⟩ := id hF
  simp only [stW, stp] at hs
  split at hs
  · rename_i x S2
    exact lv_if_lt hx hb hd (Int.toNat_of_nonneg hs.1).symm (fun z => ((hs.2.1 z) p e s m args below meth c Z ad0 w0 hF hc ad H locs ls hR hE hL hl (clS_t hS) ho h1 h2)) (fun z => ((hs.2.2 z) p e s m args below meth c Z ad0 w0 hF hc ad H locs ls hR hE hL hl (clS_t hS) ho h1 h2))
  · exact hs.elim
theorem s_icmp_lt {off : Int} (hd : decode (mB M) pc = .ok (.if_icmp .lt off, 3)) (hs : stW l G M C X n mc ms Q pc (.if_icmp .lt off) L S w cu su) : WP l G M n mc ms Q pc L S w cu su := by
  intro p e s m args below meth c Z ad0 w0 hF hc ad H locs ls hR hE hL hl hS ho h1 h2
  obtain ⟨hx, hb, -⟩ := id hF
  simp only [stW, stp] at hs
  split at hs
  · rename_i y x S2
    exact lv_icmp_lt hx hb hd (Int.toNat_of_nonneg hs.1).symm (fun z => ((hs.2.1 z) p e s m args below meth c Z ad0 w0 hF hc ad H locs ls hR hE hL hl (clS_t (clS_t hS)) ho h1 h2)) (fun z => ((hs.2.2 z) p e s m args below meth c Z ad0 w0 hF hc ad H locs ls hR hE hL hl (clS_t (clS_t hS)) ho h1 h2))
  · exact hs.elim
theorem s_if_ge {off : Int} (hd : decode (mB M) pc = .ok (.ifCond .ge off, 3)) (hs : stW l G M C X n mc ms Q pc (.ifCond .ge off) L S w cu su) : WP l G M n mc ms Q pc L S w cu su := by
  intro p e s m args below meth c Z ad0 w0 hF hc ad H locs ls hR hE hL hl hS ho h1 h2
  obtain ⟨hx, hb, -⟩ := id hF
  simp only [stW, stp] at hs
  split at hs
  · rename_i x S2
    exact lv_if_ge hx hb hd (Int.toNat_of_nonneg hs.1).symm (fun z => ((hs.2.1 z) p e s m args below meth c Z ad0 w0 hF hc ad H locs ls hR hE hL hl (clS_t hS) ho h1 h2)) (fun z => ((hs.2.2 z) p e s m args below meth c Z ad0 w0 hF hc ad H locs ls hR hE hL hl (clS_t hS) ho h1 h2))
  · exact hs.elim
theorem s_icmp_ge {off : Int} (hd : decode (mB M) pc = .ok (.if_icmp .ge off, 3)) (hs : stW l G M C X n mc ms Q pc (.if_icmp .ge off) L S w cu su) : WP l G M n mc ms Q pc L S w cu su := by
  intro p e s m args below meth c Z ad0 w0 hF hc ad H locs ls hR hE hL hl hS ho h1 h2
  obtain ⟨hx, hb, -⟩ := id hF
  simp only [stW, stp] at hs
  split at hs
  · rename_i y x S2
    exact lv_icmp_ge hx hb hd (Int.toNat_of_nonneg hs.1).symm (fun z => ((hs.2.1 z) p e s m args below meth c Z ad0 w0 hF hc ad H locs ls hR hE hL hl (clS_t (clS_t hS)) ho h1 h2)) (fun z => ((hs.2.2 z) p e s m args below meth c Z ad0 w0 hF hc ad H locs ls hR hE hL hl (clS_t (clS_t hS)) ho h1 h2))
  · exact hs.elim
theorem s_if_gt {off : Int} (hd : decode (mB M) pc = .ok (.ifCond .gt off, 3)) (hs : stW l G M C X n mc ms Q pc (.ifCond .gt off) L S w cu su) : WP l G M n mc ms Q pc L S w cu su := by
  intro p e s m args below meth c Z ad0 w0 hF hc ad H locs ls hR hE hL hl hS ho h1 h2
  obtain ⟨hx, hb, -⟩ := id hF
  simp only [stW, stp] at hs
  split at hs
  · rename_i x S2
    exact lv_if_gt hx hb hd (Int.toNat_of_nonneg hs.1).symm (fun z => ((hs.2.1 z) p e s m args below meth c Z ad0 w0 hF hc ad H locs ls hR hE hL hl (clS_t hS) ho h1 h2)) (fun z => ((hs.2.2 z) p e s m args below meth c Z ad0 w0 hF hc ad H locs ls hR hE hL hl (clS_t hS) ho h1 h2))
  · exact hs.elim
theorem s_icmp_gt {off : Int} (hd : decode (mB M) pc = .ok (.if_icmp .gt off, 3)) (hs : stW l G M C X n mc ms Q pc (.if_icmp .gt off) L S w cu su) : WP l G M n mc ms Q pc L S w cu su := by
  intro p e s m args below meth c Z ad0 w0 hF hc ad H locs ls hR hE hL hl hS ho h1 h2
  obtain ⟨hx, hb, -⟩ := id hF
  simp only [stW, stp] at hs
  split at hs
  · rename_i y x S2
    exact lv_icmp_gt hx hb hd (Int.toNat_of_nonneg hs.1).symm (fun z => ((hs.2.1 z) p e s m args below meth c Z ad0 w0 hF hc ad H locs ls hR hE hL hl (clS_t (clS_t hS)) ho h1 h2)) (fun z => ((hs.2.2 z) p e s m args below meth c Z ad0 w0 hF hc ad H locs ls hR hE hL hl (clS_t (clS_t hS)) ho h1 h2))
  · exact hs.elim
theorem s_if_le {off : Int} (hd : decode (mB M) pc = .ok (.ifCond .le off, 3)) (hs : stW l G M C X n mc ms Q pc (.ifCond .le off) L S w cu su) : WP l G M n mc ms Q pc L S w cu su := by
  intro p e s m args below meth c Z ad0 w0 hF hc ad H locs ls hR hE hL hl hS ho h1 h2
  obtain ⟨hx, hb, -⟩ := id hF
  simp only [stW, stp] at hs
  split at hs
  · rename_i x S2
    exact lv_if_le hx hb hd (Int.toNat_of_nonneg hs.1).symm (fun z => ((hs.2.1 z) p e s m args below meth c Z ad0 w0 hF hc ad H locs ls hR hE hL hl (clS_t hS) ho h1 h2)) (fun z => ((hs.2.2 z) p e s m args below meth c Z ad0 w0 hF hc ad H locs ls hR hE hL hl (clS_t hS) ho h1 h2))
  · exact hs.elim
theorem s_icmp_le {off : Int} (hd : decode (mB M) pc = .ok (.if_icmp .le off, 3)) (hs : stW l G M C X n mc ms Q pc (.if_icmp .le off) L S w cu su) : WP l G M n mc ms Q pc L S w cu su := by
  intro p e s m args below meth c Z ad0 w0 hF hc ad H locs ls hR hE hL hl hS ho h1 h2
  obtain ⟨hx, hb, -⟩ := id hF
  simp only [stW, stp] at hs
  split at hs
  · rename_i y x S2
    exact lv_icmp_le hx hb hd (Int.toNat_of_nonneg hs.1).symm (fun z => ((hs.2.1 z) p e s m args below meth c Z ad0 w0 hF hc ad H locs ls hR hE hL hl (clS_t (clS_t hS)) ho h1 h2)) (fun z => ((hs.2.2 z) p e s m args below meth c Z ad0 w0 hF hc ad H locs ls hR hE hL hl (clS_t (clS_t hS)) ho h1 h2))
  · exact hs.elim
theorem s_goto {off : Int} (hd : decode (mB M) pc = .ok (.goto off, 3)) (hs : stW l G M C X n mc ms Q pc (.goto off) L S w cu su) : WP l G M n mc ms Q pc L S w cu su := by
  intro p e s m args below meth c Z ad0 w0 hF hc ad H locs ls hR hE hL hl hS ho h1 h2
  obtain ⟨hx, hb, -⟩ := id hF
  simp only [stW, stp] at hs
  obtain ⟨t, ht, hk⟩ := jmp_go hs
  exact lv_goto hx hb hd ht (hk p e s m args below meth c Z ad0 w0 hF hc ad H locs ls hR hE hL hl hS ho h1 h2)
end S1
end
section
/-! the classes in the tables -/
theorem gT_at {i : Nat} {w : Cond} (h : lw_tbl[i]? = some w) (hg : goodWord w = true) : w ∈ goodT := List.mem_filter.mpr ⟨List.mem_of_getElem? h, hg⟩
theorem gT_in (ws : List Cond) (ps : List Nat) (hp : ws = ps.filterMap (fun i => lw_tbl[i]?)) (hg : ws.all goodWord = true) : ∀ w ∈ ws, w ∈ goodT := by
  intro w hw
  have h1 := List.all_eq_true.mp hg w hw
  rw [hp] at hw
  obtain ⟨i, -, hi⟩ := List.mem_filterMap.mp hw
  exact gT_at hi h1
set_option maxRecDepth 100000 in
theorem clsIn_0 : ∀ w ∈ u_ws RX11 TX11 10, w ∈ goodT := gT_in _ [314, 316, 318, 320, 322, 324, 326, 328, 330, 332] (by decide +kernel) (by decide +kernel)
set_option maxRecDepth 100000 in
theorem clsIn_1 : ∀ w ∈ u_ws RX10 TX10 5, w ∈ goodT := gT_in _ [143, 145, 147, 149, 151] (by decide +kernel) (by decide +kernel)
set_option maxRecDepth 100000 in
theorem clsIn_2 : ∀ w ∈ u_ws RJx4a65c TJx4a65c 3, w ∈ goodT := gT_in _ [131, 127, 129] (by decide +kernel) (by decide +kernel)
set_option maxRecDepth 100000 in
theorem clsIn_3 : ∀ w ∈ u_ws RX8 TX8 3, w ∈ goodT := gT_in _ [168, 170, 172] (by decide +kernel) (by decide +kernel)
set_option maxRecDepth 100000 in
theorem clsIn_4 : ∀ w ∈ u_ws RX6 TX6 1, w ∈ goodT := gT_in _ [185] (by decide +kernel) (by decide +kernel)
set_option maxRecDepth 100000 in
theorem clsIn_5 : ∀ w ∈ u_ws RX2 TX2 3, w ∈ goodT := gT_in _ [198, 200, 202] (by decide +kernel) (by decide +kernel)
set_option maxRecDepth 100000 in
theorem clsIn_6 : ∀ w ∈ u_ws RX3 TX3 15, w ∈ goodT := gT_in _ [253, 255, 257, 259, 261, 263, 265, 267, 269, 271, 273, 275, 277, 279, 281] (by decide +kernel) (by decide +kernel)
set_option maxRecDepth 100000 in
theorem clsIn_7 : ∀ w ∈ u_ws RX4 TX4 3, w ∈ goodT := gT_in _ [295, 297, 299] (by decide +kernel) (by decide +kernel)
set_option maxRecDepth 100000 in
theorem clsIn_8 : ∀ w ∈ u_ws RX9 TX9 4, w ∈ goodT := gT_in _ [227, 229, 231, 233] (by decide +kernel) (by decide +kernel)
set_option maxRecDepth 100000 in
theorem clsIn_9 : ∀ w ∈ u_ws RX0 TX0 5, w ∈ goodT := gT_in _ [379, 381, 383, 385, 387] (by decide +kernel) (by decide +kernel)
set_option maxRecDepth 100000 in
theorem clsIn_10 : ∀ w ∈ u_ws RX1 TX1 11, w ∈ goodT := gT_in _ [608, 610, 612, 614, 616, 618, 620, 622, 624, 626, 628] (by decide +kernel) (by decide +kernel)
set_option maxRecDepth 100000 in
theorem clsIn_11 : ∀ w ∈ u_ws RX7 TX7 11, w ∈ goodT := gT_in _ [560, 562, 564, 566, 568, 570, 572, 574, 576, 578, 580] (by decide +kernel) (by decide +kernel)
set_option maxRecDepth 100000 in
theorem clsIn_12 : ∀ w ∈ u_ws RX5 TX5 9, w ∈ goodT := gT_in _ [871, 873, 875, 877, 879, 881, 883, 885, 887] (by decide +kernel) (by decide +kernel)
set_option maxRecDepth 100000 in
theorem clsIn_13 : ∀ w ∈ u_ws RX12 TX12 69, w ∈ goodT := gT_in _ [1264, 1266, 1268, 1270, 1272, 1274, 1276, 1278, 1280, 1282, 1284, 1286, 1288, 1290, 1292, 1294, 1296, 1298, 1300, 1302, 1304, 1306, 1308, 1310, 1312, 1314, 1316, 1318, 1320, 1322, 1324, 1326, 1328, 1330, 1332, 1334, 1336, 1338, 1340, 1342, 1344, 1346, 1348, 1350, 1352, 1354, 1356, 1358, 1360, 1362, 1364, 1366, 1368, 1370, 1372, 1374, 1376, 1378, 1380, 1382, 1384, 1386, 1388, 1390, 1392, 1394, 1396, 1398, 1400] (by decide +kernel) (by decide +kernel)
theorem clsIn {ci : Nat} (h : ci < 14) : ∀ w ∈ u_ws (clsN ci).1 (clsN ci).2.1 (clsN ci).2.2, w ∈ goodT := by
  match ci, h with
  | 0, _ => exact clsIn_0
  | 1, _ => exact clsIn_1
  | 2, _ => exact clsIn_2
  | 3, _ => exact clsIn_3
  | 4, _ => exact clsIn_4
  | 5, _ => exact clsIn_5
  | 6, _ => exact clsIn_6
  | 7, _ => exact clsIn_7
  | 8, _ => exact clsIn_8
  | 9, _ => exact clsIn_9
  | 10, _ => exact clsIn_10
  | 11, _ => exact clsIn_11
  | 12, _ => exact clsIn_12
  | 13, _ => exact clsIn_13
theorem clsTy {ci : Nat} (h : ci < 14) : ∀ k, k < (clsN ci).2.2 → parseFieldDescriptor ((clsN ci).2.1 k).2.2.1 = some (cTy ci k) := by
  match ci, h with
  | 0, _ => exact tyX11_ok
  | 1, _ => exact tyX10_ok
  | 2, _ => exact tyJx4a65c_ok
  | 3, _ => exact tyX8_ok
  | 4, _ => exact tyX6_ok
  | 5, _ => exact tyX2_ok
  | 6, _ => exact tyX3_ok
  | 7, _ => exact tyX4_ok
  | 8, _ => exact tyX9_ok
  | 9, _ => exact tyX0_ok
  | 10, _ => exact tyX1_ok
  | 11, _ => exact tyX7_ok
  | 12, _ => exact tyX5_ok
  | 13, _ => exact tyX12_ok
theorem clsNm {ci : Nat} (h : ci < 14) : ∀ a, a < (clsN ci).2.2 → ∀ b, b < (clsN ci).2.2 → a ≠ b → ((clsN ci).2.1 a).2.1 ≠ ((clsN ci).2.1 b).2.1 := by
  match ci, h with
  | 0, _ => exact nmX11
  | 1, _ => exact nmX10
  | 2, _ => exact nmJx4a65c
  | 3, _ => exact nmX8
  | 4, _ => exact nmX6
  | 5, _ => exact nmX2
  | 6, _ => exact nmX3
  | 7, _ => exact nmX4
  | 8, _ => exact nmX9
  | 9, _ => exact nmX0
  | 10, _ => exact nmX1
  | 11, _ => exact nmX7
  | 12, _ => exact nmX5
  | 13, _ => exact nmX12
theorem clsAt {ci : Nat} (h : ci < 14) : cls[ci]? = some (clsN ci) := by
  match ci, h with
  | 0, _ => rfl
  | 1, _ => rfl
  | 2, _ => rfl
  | 3, _ => rfl
  | 4, _ => rfl
  | 5, _ => rfl
  | 6, _ => rfl
  | 7, _ => rfl
  | 8, _ => rfl
  | 9, _ => rfl
  | 10, _ => rfl
  | 11, _ => rfl
  | 12, _ => rfl
  | 13, _ => rfl
end
section
/-! instructions on cells of the world -/
theorem cOk_kept {G : Gc} {t a n : Nat} {V : Nat → Value} {H H' : Heap} (h : cOk G t a n V H) (hq : H'[a]? = H[a]?) : cOk G t a n V H' := by
  unfold cOk at h ⊢
  split at h
  · rename_i ht
    rw [if_pos ht]
    obtain ⟨r, h1, h2⟩ := h
    exact ⟨r, h1, h2.kept hq⟩
  · rename_i ht
    rw [if_neg ht, hq]
    exact h
theorem cOk_lt {G : Gc} {t a n : Nat} {V : Nat → Value} {H : Heap} (h : cOk G t a n V H) : a < H.size := by
  unfold cOk at h
  split at h
  · obtain ⟨r, h1, cell, h2, -⟩ := h
    exact (Array.getElem?_eq_some_iff.mp h2).1
  · exact (Array.getElem?_eq_some_iff.mp h).1
theorem vAt_sI_ne {ad : Nat → Nat → Nat} {w : Wd} {t k i t' k' : Nat} {v : Int32} (h : ¬ (t' = t ∧ k' = k)) : vAt ad (sI w t k i v) t' k' = vAt ad w t' k' := by
  funext j
  simp only [vAt, wR_sI, wI_sI]
  rw [if_neg (show ¬ (t' = t ∧ k' = k ∧ j = i) from fun q => h ⟨q.1, q.2.1⟩)]
theorem vAt_sR_ne {ad : Nat → Nat → Nat} {w : Wd} {t k i t' k' : Nat} {v : Option (Nat × Nat)} (h : ¬ (t' = t ∧ k' = k)) : vAt ad (sR w t k i v) t' k' = vAt ad w t' k' := by
  funext j
  simp only [vAt, wI_sR, wR_sR]
  rw [if_neg (show ¬ (t' = t ∧ k' = k ∧ j = i) from fun q => h ⟨q.1, q.2.1⟩)]
theorem vAt_sI_at {ad : Nat → Nat → Nat} {w : Wd} {t k i : Nat} {v : Int32} (h : rp t i = false) (j : Nat) : updV (vAt ad w t k) i (.int v) j = vAt ad (sI w t k i v) t k j := by
  simp only [updV, vAt, wI_sI, wR_sI]
  by_cases e : j = i
  · subst e
    simp [h]
  · simp [e]
theorem vAt_sR_at {ad : Nat → Nat → Nat} {w : Wd} {t k i : Nat} {v : Option (Nat × Nat)} (h : rp t i = true) (j : Nat) : updV (vAt ad w t k) i (renR ad v) j = vAt ad (sR w t k i v) t k j := by
  simp only [updV, vAt, wI_sR, wR_sR]
  by_cases e : j = i
  · subst e
    simp [h]
  · simp [e]
theorem Rel_sI {G : Gc} {ad : Nat → Nat → Nat} {w : Wd} {H H' : Heap} {t k i : Nat} {v : Int32} (hR : Rel G ad w H) (ht : t < 900) (hk : k < wC w t) (hc : cOk G t (ad t k) (wN w t k) (vAt ad (sI w t k i v) t k) H') (hz : H'.size = H.size) (oq : ∀ q, q ≠ ad t k → H'[q]? = H[q]?) : Rel G ad (sI w t k i v) H' := by
  obtain ⟨r1, r2, r3, r4, r5, r6⟩ := hR
  refine ⟨fun t' k' h1 h2 => ?_, r2, r3, r4, by rw [hz]; exact r5, fun q hq => ?_⟩
  · by_cases e : t' = t ∧ k' = k
    · obtain ⟨rfl, rfl⟩ := e
      exact ⟨hc, (r1 _ _ ht hk).2⟩
    · rw [vAt_sI_ne e]
      refine ⟨cOk_kept (r1 t' k' h1 h2).1 (oq _ (fun z => e ?_)), (r1 t' k' h1 h2).2⟩
      exact r2 t' k' t k h1 ht h2 hk z
  · rw [oq q (fun z => ?_)]
    · exact r6 q hq
    · have := (r1 t k ht hk).2
      omega
theorem Rel_sR {G : Gc} {ad : Nat → Nat → Nat} {w : Wd} {H H' : Heap} {t k i : Nat} {v : Option (Nat × Nat)} (hR : Rel G ad w H) (ht : t < 900) (hk : k < wC w t) (hv : clV w (.inr (.inr v))) (hc : cOk G t (ad t k) (wN w t k) (vAt ad (sR w t k i v) t k) H') (hz : H'.size = H.size) (oq : ∀ q, q ≠ ad t k → H'[q]? = H[q]?) : Rel G ad (sR w t k i v) H' := by
  obtain ⟨r1, r2, r3, r4, r5, r6⟩ := hR
  refine ⟨fun t' k' h1 h2 => ?_, r2, fun t' k' j q h1 h2 => ?_, r4, by rw [hz]; exact r5, fun q hq => ?_⟩
  · by_cases e : t' = t ∧ k' = k
    · obtain ⟨rfl, rfl⟩ := e
      exact ⟨hc, (r1 _ _ ht hk).2⟩
    · rw [vAt_sR_ne e]
      refine ⟨cOk_kept (r1 t' k' h1 h2).1 (oq _ (fun z => e ?_)), (r1 t' k' h1 h2).2⟩
      exact r2 t' k' t k h1 ht h2 hk z
  · rw [wR_sR] at h2
    split at h2
    · subst h2
      exact hv
    · exact r3 t' k' j q h1 h2
  · rw [oq q (fun z => ?_)]
    · exact r6 q hq
    · have := (r1 t k ht hk).2
      omega
theorem Exd_sI {ad0 ad : Nat → Nat → Nat} {w0 w : Wd} {t k i : Nat} {v : Int32} (h : Exd ad0 w0 ad w) : Exd ad0 w0 ad (sI w t k i v) := h
theorem Exd_sR {ad0 ad : Nat → Nat → Nat} {w0 w : Wd} {t k i : Nat} {v : Option (Nat × Nat)} (h : Exd ad0 w0 ad w) : Exd ad0 w0 ad (sR w t k i v) := h
theorem locs_app {G : Gc} {locs : List Loc} {q : Loc} (h : locsOk G locs) (hq : gOut G q.base) : locsOk G (locs ++ [q]) := fun x hx => by
  rcases List.mem_append.mp hx with h1 | h1
  · exact h x h1
  · rw [List.mem_singleton.mp h1]; exact hq
/-- a field of the class's constants, linked -/
def fldOk (own : String) (idx ci k : Nat) : Prop := ci < 14 ∧ k < (clsN ci).2.2 ∧ ∃ ref, Cond.fieldLink own idx ref ((clsN ci).2.1 k).2.1 ((clsN ci).2.1 k).2.2.1 ∈ goodT ∧ (ref = ((clsN ci).2.1 k).1 ∨ Cond.sameField ref ((clsN ci).2.1 k).1 ((clsN ci).2.1 k).2.1 ((clsN ci).2.1 k).2.2.1 ∈ goodT)
theorem rp_lt {t i : Nat} (h : t < 14) : rp t i = rTy (cTy t i) := by simp [rp, show t < 20 by omega]
theorem eTy_int {t : Nat} (h : t < 200) : ak t = 0 := by simp [ak, h]
theorem eTy_bool {t : Nat} (h : 200 ≤ t) (h2 : t < 300) : ak t = 1 := by simp [ak, show ¬ t < 200 by omega, h2]
theorem ak_in (t : Nat) : ak t < 5 := by unfold ak; split <;> (try split) <;> (try split) <;> (try split) <;> omega
theorem KK_arr {G : Gc} {s : State} (h : KK G s) (a : Nat) (ha : a < 5) : ArrOfT s (gA G a) (eTk a) := by
  match a, ha with
  | 0, _ => exact (h.1.2 0 _ rfl).1
  | 1, _ => exact (h.1.2 1 _ rfl).1
  | 2, _ => exact (h.1.2 2 _ rfl).1
  | 3, _ => exact (h.1.2 3 _ rfl).1
  | 4, _ => exact (h.1.2 4 _ rfl).1
theorem nar_narrow {ty : FieldType} {v : Int32} (h : nar (some ty) v) : narrow ty (.int v) = .int v ∧ fits ty (.int v) = true := by
  cases ty <;> simp only [nar] at h <;> try exact h.elim
  · exact ⟨by rw [show narrow .byte (.int v) = .int v.toInt8.toInt32 from rfl, h]; rfl, by rw [h]; decide⟩
  · obtain ⟨j, hj, rfl⟩ := nI_of2 (M := 255) (n := 255) (x := v) rfl (by exact Int32.not_lt.mpr h.1) h.2
    exact pk_charN (by omega)
  · exact ⟨rfl, rfl⟩
  · rcases h with rfl | rfl <;> decide
section S2
variable {l : Launch} {G : Gc} {M : MI} {C : CE} {X : XE} {n mc ms : Nat} {Q : Option AV → Wd → Prop} {pc : Nat} {L : List (Option AV)} {S : List AV} {w : Wd} {cu su : Nat}
theorem s_ifnull {off : Int} (hd : decode (mB M) pc = .ok (.ifnull off, 3)) (hs : stW l G M C X n mc ms Q pc (.ifnull off) L S w cu su) : WP l G M n mc ms Q pc L S w cu su := by
  intro p e s m args below meth c Z ad0 w0 hF hc ad H locs ls hR hE hL hl hS ho h1 h2
  obtain ⟨hx, hb, -⟩ := id hF
  simp only [stW, stp] at hs
  split at hs
  · obtain ⟨t, ht, hk⟩ := jmp_go hs
    exact lv_ifnullN hx hb hd ht (hk p e s m args below meth c Z ad0 w0 hF hc ad H locs ls hR hE hL hl (clS_t hS) ho h1 h2)
  · exact lv_ifnull hx hb hd (hs p e s m args below meth c Z ad0 w0 hF hc ad H locs ls hR hE hL hl (clS_t hS) ho h1 h2)
  · exact hs.elim
theorem s_ifnonnull {off : Int} (hd : decode (mB M) pc = .ok (.ifnonnull off, 3)) (hs : stW l G M C X n mc ms Q pc (.ifnonnull off) L S w cu su) : WP l G M n mc ms Q pc L S w cu su := by
  intro p e s m args below meth c Z ad0 w0 hF hc ad H locs ls hR hE hL hl hS ho h1 h2
  obtain ⟨hx, hb, -⟩ := id hF
  simp only [stW, stp] at hs
  split at hs
  · exact lv_ifnonnullN hx hb hd (hs p e s m args below meth c Z ad0 w0 hF hc ad H locs ls hR hE hL hl (clS_t hS) ho h1 h2)
  · obtain ⟨t, ht, hk⟩ := jmp_go hs
    exact lv_ifnonnull hx hb hd ht (hk p e s m args below meth c Z ad0 w0 hF hc ad H locs ls hR hE hL hl (clS_t hS) ho h1 h2)
  · exact hs.elim
theorem s_table {d lo hi : Int} {offs : Array Int} {len : Nat} (hd : decode (mB M) pc = .ok (.tableswitch d lo hi offs, len)) (hs : stW l G M C X n mc ms Q pc (.tableswitch d lo hi offs) L S w cu su) : WP l G M n mc ms Q pc L S w cu su := by
  intro p e s m args below meth c Z ad0 w0 hF hc ad H locs ls hR hE hL hl hS ho h1 h2
  obtain ⟨hx, hb, -⟩ := id hF
  simp only [stW, stp] at hs
  split at hs
  · rename_i x S2
    split at hs
    · rename_i hq
      obtain ⟨t, ht, hk⟩ := jmp_go hs
      exact lv_tableOut hx hb hd hq ht (hk p e s m args below meth c Z ad0 w0 hF hc ad H locs ls hR hE hL hl (clS_t hS) ho h1 h2)
    · rename_i hq
      split at hs
      · rename_i off hoff
        obtain ⟨t, ht, hk⟩ := jmp_go hs
        exact lv_tableIn hx hb hd (fun z => hq (Or.inl z)) (fun z => hq (Or.inr z)) hoff ht (hk p e s m args below meth c Z ad0 w0 hF hc ad H locs ls hR hE hL hl (clS_t hS) ho h1 h2)
      · exact hs.elim
  · exact hs.elim
theorem s_lookup {d : Int} {ps : Array (Int × Int)} {len : Nat} (hd : decode (mB M) pc = .ok (.lookupswitch d ps, len)) (hs : stW l G M C X n mc ms Q pc (.lookupswitch d ps) L S w cu su) : WP l G M n mc ms Q pc L S w cu su := by
  intro p e s m args below meth c Z ad0 w0 hF hc ad H locs ls hR hE hL hl hS ho h1 h2
  obtain ⟨hx, hb, -⟩ := id hF
  simp only [stW, stp] at hs
  split at hs
  · obtain ⟨t, ht, hk⟩ := jmp_go hs.2
    exact lv_lookup hx hb hd hs.1 rfl ht (hk p e s m args below meth c Z ad0 w0 hF hc ad H locs ls hR hE hL hl (clS_t hS) ho h1 h2)
  · exact hs.elim
theorem s_getfield {idx : Nat} (hf : ∀ ci k, ceF C idx = some (ci, k) → fldOk (mOwn M) idx ci k) (hd : decode (mB M) pc = .ok (.getfield idx, 3)) (hs : stW l G M C X n mc ms Q pc (.getfield idx) L S w cu su) : WP l G M n mc ms Q pc L S w cu su := by
  intro p e s m args below meth c Z ad0 w0 hF hc ad H locs ls hR hE hL hl hS ho h1 h2
  obtain ⟨hx, hb, hr, hml, hown, hts, hKK, hlk, hnm⟩ := id hF
  simp only [stW, stp] at hs
  split at hs
  · rename_i ci k hce
    split at hs
    · rename_i S0 t j S2
      obtain ⟨rfl, hj, hk⟩ := hs
      obtain ⟨c14, ck, ref, hlink, hsame⟩ := hf _ _ hce
      obtain ⟨hcell, -⟩ := hR.1 t j (by omega) hj
      rw [cOk, if_pos (by omega)] at hcell
      obtain ⟨r, hcr, cell, q1, q2, q3, q4⟩ := hcell
      have hr0 : r = clsN t := Option.some.inj (hcr.symm.trans (clsAt c14))
      subst hr0
      obtain ⟨hSl, hfc, kC, hkC, hkind⟩ := hKK.1.1 t _ (clsAt c14)
      obtain ⟨cf, kf, fi, f, hi, hsl⟩ := hSl k ck
      have hi2 : s.fieldFound? ref ((clsN t).2.1 k).2.1 ((clsN t).2.1 k).2.2.1 = some (cf, kf, fi, f) := by
        rcases hsame with h | h
        · rw [h]; exact hi
        · exact u_same (hts _ h) _ hi
      refine W.getf hx hb hown (hts _ hlink) hi2 (u_facts hfc hkC (u_lays hts (clsIn c14) ck) hi).1 q1 (by rw [q3]; exact fun h => by cases h) (v := vAt ad w t j k) (by rw [hsl]; exact q4 k ck) rfl rfl hd ?_
      have hv : vAt ad w t j k = renV ad (if rp t k = true then .inr (.inr (wR w t j k)) else .inl (wI w t j k)) := by
        unfold vAt
        split <;> rfl
      rw [hv]
      refine hk p e s m args below meth c Z ad0 w0 hF hc ad H locs ls hR hE hL hl (clS_c ?_ (clS_t hS)) ho h1 h2
      split
      · cases hw : wR w t j k with
        | none => trivial
        | some q => exact hR.2.2.1 _ _ _ _ hj hw
      · trivial
    · exact hs.elim
  · exact hs.elim
theorem s_putfield {idx : Nat} (hf : ∀ ci k, ceF C idx = some (ci, k) → fldOk (mOwn M) idx ci k) (hd : decode (mB M) pc = .ok (.putfield idx, 3)) (hs : stW l G M C X n mc ms Q pc (.putfield idx) L S w cu su) : WP l G M n mc ms Q pc L S w cu su := by
  intro p e s m args below meth c Z ad0 w0 hF hc ad H locs ls hR hE hL hl hS ho h1 h2
  obtain ⟨hx, hb, hr, hml, hown, hts, hKK, hlk, hnm⟩ := id hF
  simp only [stW, stp] at hs
  split at hs
  · rename_i ci k hce
    split at hs
    · rename_i S0 x t j S2
      obtain ⟨rfl, hj, hrp, hfin, hnar, hk⟩ := hs
      obtain ⟨c14, ck, ref, hlink, hsame⟩ := hf _ _ hce
      obtain ⟨hcell, hge⟩ := hR.1 t j (by omega) hj
      rw [cOk, if_pos (by omega)] at hcell
      obtain ⟨r, hcr, cell, q1, q2, q3, q4⟩ := hcell
      have hr0 : r = clsN t := Option.some.inj (hcr.symm.trans (clsAt c14))
      subst hr0
      obtain ⟨hSl, hfc, kC, hkC, hkind⟩ := hKK.1.1 t _ (clsAt c14)
      obtain ⟨cf, kf, fi, f, hi, hsl⟩ := hSl k ck
      have hi2 : s.fieldFound? ref ((clsN t).2.1 k).2.1 ((clsN t).2.1 k).2.2.1 = some (cf, kf, fi, f) := by
        rcases hsame with h | h
        · rw [h]; exact hi
        · exact u_same (hts _ h) _ hi
      have hlay := hts _ (clsIn c14 _ (u_in_lay ck))
      unfold u_lay at hlay
      rw [if_neg (by rw [hfin]; decide)] at hlay
      have hst := (u_facts hfc hkC (u_lays hts (clsIn c14) ck) hi).1
      obtain ⟨n1, n2⟩ := nar_narrow hnar
      have h6 := u_store hfc hkC hkind hlay hi (clsTy c14 k ck) n1 n2
      have hap := va_apart (own := mOwn M) hts (clsIn c14) (cTy t) (clsTy c14) (clsNm c14) hKK.1 (clsAt c14)
      refine W.putK hx hb (f := f) ⟨hown, hts _ hlink, ⟨_, _, _, hi2⟩, hst⟩ (by rw [q2]; exact h6) q1 q3 (by rw [hsl]; exact k2_hasslot (q4 k ck)) rfl rfl hd fun H' e1 e2 e3 => ?_
      rw [hsl] at e1 ⊢
      refine hk p e s m args below meth c Z ad0 w0 hF hc ad H' _ ls (Rel_sI hR (by omega) hj ?_ e2 e3) hE hL hl (clS_t (clS_t hS)) (locs_app ho hge) h1 h2
      rw [cOk, if_pos (by omega)]
      exact ⟨_, hcr, t_OB.to (V := updV (vAt ad w t j) k (.int x)) ⟨_, e1, q2, q3, t_set q4 hap ck _⟩ (fun i _ => vAt_sI_at hrp i)⟩
    · exact hs.elim
  · exact hs.elim
theorem arr_in {t : Nat} (h : 20 ≤ t) (h2 : t < 900) {w : Wd} {ad : Nat → Nat → Nat} {H : Heap} {j : Nat} (hR : Rel G ad w H) (hj : j < wC w t) : H[ad t j]? = some (arrV (gA G (ak t)) (wN w t j) (vAt ad w t j)) ∧ n0 G ≤ ad t j := by
  obtain ⟨h3, h4⟩ := hR.1 t j h2 hj
  rw [cOk, if_neg (by omega)] at h3
  exact ⟨h3, h4⟩
theorem rp_arr {t i : Nat} (h : 20 ≤ t) : rp t i = rTy (eTy t) := by simp [rp, show ¬ t < 20 by omega]
theorem s_iaload (hd : decode (mB M) pc = .ok (.iaload, 1)) (hs : stW l G M C X n mc ms Q pc (.iaload) L S w cu su) : WP l G M n mc ms Q pc L S w cu su := by
  intro p e s m args below meth c Z ad0 w0 hF hc ad H locs ls hR hE hL hl hS ho h1 h2
  obtain ⟨hx, hb, hr, hml, hown, hts, hKK, hlk, hnm⟩ := id hF
  simp only [stW, stp] at hs
  split at hs
  · rename_i S0 i t j S2
    split at hs
    · rename_i ht
      subst ht
      obtain ⟨rfl, hin, hk⟩ := hs
      obtain ⟨scr, x1, x2, x3, x4, x5⟩ := hKK.2.2.2.2.2.2.2.2.2.2.2
      have hbl : gX G 901 0 < n0 G := (Array.getElem?_eq_some_iff.mp x1).1
      have ha : ad 901 0 = gX G 901 0 := hR.2.2.2.1 901 0 (by omega)
      have hlt : i.toNatClampNeg < gL G := Nat.not_le.mp fun q => hin (Or.inr q)
      refine W.iald (v := .int (gS G i.toNatClampNeg)) hx hb (a := ad 901 0) (cell := scr) (by rw [ha, hR.2.2.2.2.2 _ hbl]; exact x1) x2 x3 (by rw [x4]; exact hin) (x5 _ hlt) rfl rfl hd ?_
      exact hk p e s m args below meth c Z ad0 w0 hF hc ad H locs ls hR hE hL hl (clS_c trivial (clS_t (clS_t hS))) ho h1 h2
    · obtain ⟨t1, t2, hj, hin, hk⟩ := hs
      obtain ⟨a1, a2⟩ := arr_in t1 (by omega) hR hj
      have hA := KK_arr hKK (ak t) (ak_in t)
      rw [eTy_int t2] at hA a1
      have hlt : i.toNatClampNeg < wN w t j := Nat.not_le.mp fun q => hin (Or.inr q)
      refine W.iald (v := vAt ad w t j i.toNatClampNeg) hx hb a1 (hA _ _) (fun q => by cases q) (by rw [arrV_size]; exact hin) (by rw [arrV_read _ _ hlt]) rfl rfl hd ?_
      have hv : vAt ad w t j i.toNatClampNeg = .int (wI w t j i.toNatClampNeg) := by rw [vAt, rp_arr t1, eTy, eTy_int t2]; rfl
      rw [hv]
      exact hk p e s m args below meth c Z ad0 w0 hF hc ad H locs ls hR hE hL hl (clS_c trivial (clS_t (clS_t hS))) ho h1 h2
  · exact hs.elim
theorem s_baload (hd : decode (mB M) pc = .ok (.baload, 1)) (hs : stW l G M C X n mc ms Q pc (.baload) L S w cu su) : WP l G M n mc ms Q pc L S w cu su := by
  intro p e s m args below meth c Z ad0 w0 hF hc ad H locs ls hR hE hL hl hS ho h1 h2
  obtain ⟨hx, hb, hr, hml, hown, hts, hKK, hlk, hnm⟩ := id hF
  simp only [stW, stp] at hs
  split at hs
  · rename_i S0 i t j S2
    obtain ⟨t1, t2, hj, hin, hk⟩ := hs
    obtain ⟨a1, a2⟩ := arr_in (by omega) (by omega) hR hj
    have hA := KK_arr hKK (ak t) (ak_in t)
    rw [eTy_bool t1 t2] at hA a1
    have hlt : i.toNatClampNeg < wN w t j := Nat.not_le.mp fun q => hin (Or.inr q)
    refine W.zald (v := vAt ad w t j i.toNatClampNeg) hx hb a1 (hA _ _) (fun q => by cases q) (by rw [arrV_size]; exact hin) (by rw [arrV_read _ _ hlt]) rfl rfl hd ?_
    have hv : vAt ad w t j i.toNatClampNeg = .int (wI w t j i.toNatClampNeg) := by rw [vAt, rp_arr (by omega), eTy, eTy_bool t1 t2]; rfl
    rw [hv]
    exact hk p e s m args below meth c Z ad0 w0 hF hc ad H locs ls hR hE hL hl (clS_c trivial (clS_t (clS_t hS))) ho h1 h2
  · exact hs.elim
theorem ref_arr {t : Nat} (h : 300 ≤ t) : rTy (eTy t) = true := by
  unfold eTy ak
  rw [if_neg (by omega), if_neg (by omega)]
  split
  · rfl
  · split <;> rfl
theorem ref_isRef {t : Nat} (h : 300 ≤ t) : (eTy t).isReference = true := by
  unfold eTy ak
  rw [if_neg (by omega), if_neg (by omega)]
  split
  · rfl
  · split <;> rfl
theorem s_aaload (hd : decode (mB M) pc = .ok (.aaload, 1)) (hs : stW l G M C X n mc ms Q pc (.aaload) L S w cu su) : WP l G M n mc ms Q pc L S w cu su := by
  intro p e s m args below meth c Z ad0 w0 hF hc ad H locs ls hR hE hL hl hS ho h1 h2
  obtain ⟨hx, hb, hr, hml, hown, hts, hKK, hlk, hnm⟩ := id hF
  simp only [stW, stp] at hs
  split at hs
  · rename_i S0 i t j S2
    obtain ⟨t1, t2, hj, hin, hk⟩ := hs
    obtain ⟨a1, a2⟩ := arr_in (by omega) (by omega) hR hj
    have hA := KK_arr hKK (ak t) (ak_in t)
    have hlt : i.toNatClampNeg < wN w t j := Nat.not_le.mp fun q => hin (Or.inr q)
    refine W.aald (v := vAt ad w t j i.toNatClampNeg) (ty := eTy t) hx hb a1 (hA _ _) (ref_isRef t1) (fun q => by cases q) (by rw [arrV_size]; exact hin) (by rw [arrV_read _ _ hlt]) rfl rfl hd ?_
    have hv : vAt ad w t j i.toNatClampNeg = renR ad (wR w t j i.toNatClampNeg) := by rw [vAt, rp_arr (by omega), ref_arr t1]; rfl
    rw [hv]
    refine hk p e s m args below meth c Z ad0 w0 hF hc ad H locs ls hR hE hL hl (clS_c ?_ (clS_t (clS_t hS))) ho h1 h2
    cases hw : wR w t j i.toNatClampNeg with
    | none => trivial
    | some q => exact hR.2.2.1 _ _ _ _ hj hw
  · exact hs.elim
theorem s_iastore (hd : decode (mB M) pc = .ok (.iastore, 1)) (hs : stW l G M C X n mc ms Q pc (.iastore) L S w cu su) : WP l G M n mc ms Q pc L S w cu su := by
  intro p e s m args below meth c Z ad0 w0 hF hc ad H locs ls hR hE hL hl hS ho h1 h2
  obtain ⟨hx, hb, hr, hml, hown, hts, hKK, hlk, hnm⟩ := id hF
  simp only [stW, stp] at hs
  split at hs
  · rename_i S0 x i t j S2
    obtain ⟨t1, t2, hj, hin, hk⟩ := hs
    obtain ⟨a1, a2⟩ := arr_in (by omega) (by omega) hR hj
    have hA := KK_arr hKK (ak t) (ak_in t)
    rw [eTy_int t2] at hA
    have a1' := a1
    rw [eTy_int t2] at a1'
    refine W.iast hx hb a1' (hA _ _) (fun q => by cases q) (by rw [arrV_size]; exact hin) rfl rfl hd fun H1 e1 z oq => ?_
    refine hk p e s m args below meth c Z ad0 w0 hF hc ad H1 _ ls (Rel_sI hR (by omega) hj ?_ z oq) hE hL hl (clS_t (clS_t (clS_t hS))) (locs_app ho a2) h1 h2
    rw [cOk, if_neg (by omega), e1, arrV_store, eTy_int t2]
    congr 2
    funext q
    exact vAt_sI_at (by rw [rp_arr t1, eTy, eTy_int t2]; rfl) q
  · exact hs.elim
theorem s_bastore (hd : decode (mB M) pc = .ok (.bastore, 1)) (hs : stW l G M C X n mc ms Q pc (.bastore) L S w cu su) : WP l G M n mc ms Q pc L S w cu su := by
  intro p e s m args below meth c Z ad0 w0 hF hc ad H locs ls hR hE hL hl hS ho h1 h2
  obtain ⟨hx, hb, hr, hml, hown, hts, hKK, hlk, hnm⟩ := id hF
  simp only [stW, stp] at hs
  split at hs
  · rename_i S0 x i t j S2
    obtain ⟨t1, t2, hj, hin, hv, hk⟩ := hs
    obtain ⟨a1, a2⟩ := arr_in (by omega) (by omega) hR hj
    have hA := KK_arr hKK (ak t) (ak_in t)
    rw [eTy_bool t1 t2] at hA
    have a1' := a1
    rw [eTy_bool t1 t2] at a1'
    refine W.zast hx hb a1' (hA _ _) (fun q => by cases q) (by rw [arrV_size]; exact hin) rfl rfl hd fun H1 e1 z oq => ?_
    refine hk p e s m args below meth c Z ad0 w0 hF hc ad H1 _ ls (Rel_sI hR (by omega) hj ?_ z oq) hE hL hl (clS_t (clS_t (clS_t hS))) (locs_app ho a2) h1 h2
    rw [(nar_narrow (ty := .boolean) hv).1] at e1
    rw [cOk, if_neg (by omega), e1, arrV_store, eTy_bool t1 t2]
    congr 2
    funext q
    exact vAt_sI_at (by rw [rp_arr (by omega), eTy, eTy_bool t1 t2]; rfl) q
  · exact hs.elim
theorem s_alen (hd : decode (mB M) pc = .ok (.arraylength, 1)) (hs : stW l G M C X n mc ms Q pc (.arraylength) L S w cu su) : WP l G M n mc ms Q pc L S w cu su := by
  intro p e s m args below meth c Z ad0 w0 hF hc ad H locs ls hR hE hL hl hS ho h1 h2
  obtain ⟨hx, hb, hr, hml, hown, hts, hKK, hlk, hnm⟩ := id hF
  simp only [stW, stp] at hs
  split at hs
  · rename_i S0 t j S2
    split at hs
    · rename_i ht
      subst ht
      obtain ⟨rfl, hk⟩ := hs
      obtain ⟨scr, x1, x2, x3, x4, x5⟩ := hKK.2.2.2.2.2.2.2.2.2.2.2
      have hbl : gX G 901 0 < n0 G := (Array.getElem?_eq_some_iff.mp x1).1
      have ha : ad 901 0 = gX G 901 0 := hR.2.2.2.1 901 0 (by omega)
      refine W.alen (n := Int32.ofNat (gL G)) hx hb (a := ad 901 0) (cell := scr) (by rw [ha, hR.2.2.2.2.2 _ hbl]; exact x1) x2 (by rw [x4] <;> rfl) rfl rfl hd ?_
      exact hk p e s m args below meth c Z ad0 w0 hF hc ad H locs ls hR hE hL hl (clS_c trivial (clS_t hS)) ho h1 h2
    · obtain ⟨t1, t2, hj, hk⟩ := hs
      obtain ⟨a1, a2⟩ := arr_in t1 t2 hR hj
      have hA := KK_arr hKK (ak t) (ak_in t)
      refine W.alen (n := Int32.ofNat (wN w t j)) hx hb a1 (hA _ _) (by rw [arrV_size] <;> rfl) rfl rfl hd ?_
      exact hk p e s m args below meth c Z ad0 w0 hF hc ad H locs ls hR hE hL hl (clS_c trivial (clS_t hS)) ho h1 h2
  · exact hs.elim
theorem s_ldc {idx : Nat} (hk0 : ∀ v, ceK C idx = some (.inl v) → Cond.constant (mOwn M) idx v ∈ goodT) (hd : decode (mB M) pc = .ok (.ldc idx, 2)) (hs : stW l G M C X n mc ms Q pc (.ldc idx) L S w cu su) : WP l G M n mc ms Q pc L S w cu su := by
  intro p e s m args below meth c Z ad0 w0 hF hc ad H locs ls hR hE hL hl hS ho h1 h2
  obtain ⟨hx, hb, hr, hml, hown, hts, hKK, hlk, hnm⟩ := id hF
  simp only [stW, stp] at hs
  split at hs
  · rename_i x hg
    exact lv_ldc hx hb hown (hts _ (hk0 _ hg)) hd (hs p e s m args below meth c Z ad0 w0 hF hc ad H locs ls hR hE hL hl (clS_c trivial hS) ho h1 h2)
  · exact hs.elim
theorem s_ldc2 {idx : Nat} (hk0 : ∀ v, ceK C idx = some (.inr (.inl v)) → Cond.constantLong (mOwn M) idx v ∈ goodT) (hd : decode (mB M) pc = .ok (.ldc2_w idx, 3)) (hs : stW l G M C X n mc ms Q pc (.ldc2_w idx) L S w cu su) : WP l G M n mc ms Q pc L S w cu su := by
  intro p e s m args below meth c Z ad0 w0 hF hc ad H locs ls hR hE hL hl hS ho h1 h2
  obtain ⟨hx, hb, hr, hml, hown, hts, hKK, hlk, hnm⟩ := id hF
  simp only [stW, stp] at hs
  split at hs
  · rename_i x hg
    exact lv_ldc2 hx hb hown (hts _ (hk0 _ hg)) hd (hs p e s m args below meth c Z ad0 w0 hF hc ad H locs ls hR hE hL hl (clS_c trivial hS) ho h1 h2)
  · exact hs.elim
theorem wd_recv {s : State} {ad : Nat → Nat → Nat} {H : Heap} {t j : Nat} (hKK : KK G s) (hR : Rel G ad w H) (h : t < 14) (hj : j < wC w t) : ∃ cell : Cell, H[ad t j]? = some cell ∧ cell.vm.isStatics = false ∧ s.vm.findClass (clsN t).1 = some cell.cls := by
  obtain ⟨hcell, -⟩ := hR.1 t j (by omega) hj
  rw [cOk, if_pos (by omega)] at hcell
  obtain ⟨r, hcr, cell, q1, q2, q3, q4⟩ := hcell
  exact ⟨cell, q1, by rw [q3]; rfl, by rw [q2]; exact (hKK.1.1 t _ (clsAt h)).2.1⟩
theorem s_cast {idx : Nat} (hk0 : ∀ ci, ceT C idx = some ci → Cond.classLink (mOwn M) idx (clsN ci).1 ∈ goodT) (hd : decode (mB M) pc = .ok (.checkcast idx, 3)) (hs : stW l G M C X n mc ms Q pc (.checkcast idx) L S w cu su) : WP l G M n mc ms Q pc L S w cu su := by
  intro p e s m args below meth c Z ad0 w0 hF hc ad H locs ls hR hE hL hl hS ho h1 h2
  obtain ⟨hx, hb, hr, hml, hown, hts, hKK, hlk, hnm⟩ := id hF
  simp only [stW, stp] at hs
  split at hs
  · rename_i ci hg
    split at hs
    · rename_i S0 t j S2
      obtain ⟨rfl, c14, hj, hk⟩ := hs
      exact va_castS hx hb hown (hts _ (hk0 _ hg)) (hKK.1.1 t _ (clsAt c14)).2 (wd_recv hKK hR c14 hj) hd (hk p e s m args below meth c Z ad0 w0 hF hc ad H locs ls hR hE hL hl hS ho h1 h2)
    · exact hs.elim
  · exact hs.elim
theorem s_ireturn (hd : decode (mB M) pc = .ok (.ireturn, 1)) (hs : stW l G M C X n mc ms Q pc (.ireturn) L S w cu su) : WP l G M n mc ms Q pc L S w cu su := by
  intro p e s m args below meth c Z ad0 w0 hF hc ad H locs ls hR hE hL hl hS ho h1 h2
  simp only [stW, stp] at hs
  split at hs
  · exact hc _ w ad H locs pc ls cu su hs.2 hR hE (fun a ha => by cases ha; trivial) ho h1 h2 (Or.inl ⟨_, rfl, hd, hs.1⟩)
  · exact hs.elim
theorem s_lreturn (hd : decode (mB M) pc = .ok (.lreturn, 1)) (hs : stW l G M C X n mc ms Q pc (.lreturn) L S w cu su) : WP l G M n mc ms Q pc L S w cu su := by
  intro p e s m args below meth c Z ad0 w0 hF hc ad H locs ls hR hE hL hl hS ho h1 h2
  simp only [stW, stp] at hs
  split at hs
  · exact hc _ w ad H locs pc ls cu su hs.2 hR hE (fun a ha => by cases ha; trivial) ho h1 h2 (Or.inr (Or.inl ⟨_, rfl, hd, hs.1⟩))
  · exact hs.elim
theorem s_areturn (hd : decode (mB M) pc = .ok (.areturn, 1)) (hs : stW l G M C X n mc ms Q pc (.areturn) L S w cu su) : WP l G M n mc ms Q pc L S w cu su := by
  intro p e s m args below meth c Z ad0 w0 hF hc ad H locs ls hR hE hL hl hS ho h1 h2
  simp only [stW, stp] at hs
  split at hs
  · obtain ⟨hr, hq⟩ := hs
    refine hc _ w ad H locs pc ls cu su hq hR hE (fun a ha => by cases ha; exact clS_h hS) ho h1 h2 (Or.inr (Or.inr (Or.inl ⟨_, rfl, hd, ?_⟩)))
    cases hm : mR M with
    | none => rw [hm] at hr; cases hr
    | some ty => rw [hm] at hr; exact ⟨ty, rfl, hr⟩
  · exact hs.elim
theorem s_vreturn (hd : decode (mB M) pc = .ok (.return_, 1)) (hs : stW l G M C X n mc ms Q pc (.return_) L S w cu su) : WP l G M n mc ms Q pc L S w cu su := by
  intro p e s m args below meth c Z ad0 w0 hF hc ad H locs ls hR hE hL hl hS ho h1 h2
  simp only [stW, stp] at hs
  split at hs
  · exact hc _ w ad H locs pc ls cu su hs.2 hR hE (fun a ha => by cases ha) ho h1 h2 (Or.inr (Or.inr (Or.inr ⟨rfl, hd, hs.1⟩)))
  · exact hs.elim
end S2
end
section
/-! calls; the step; a method's working out of its body -/
theorem ren_eq {G : Gc} {ad ad' : Nat → Nat → Nat} {w w' : Wd} {H H' : Heap} (hR : Rel G ad w H) (hR' : Rel G ad' w' H') (hE : Exd ad w ad' w') {v : AV} (h : clV w v) : renV ad' v = renV ad v := by
  rcases v with x | x | x
  · rfl
  · rfl
  · cases x with
    | none => rfl
    | some q =>
      show Value.ref (ad' q.1 q.2) = .ref (ad q.1 q.2)
      rcases h with h | h
      · rw [hR.2.2.2.1 _ _ h, hR'.2.2.2.1 _ _ h]
      · rw [hE.1 _ _ h]
theorem clV_mono {w w' : Wd} (hw : ∀ t, wC w t ≤ wC w' t) {v : AV} (h : clV w v) : clV w' v := by
  rcases v with x | x | x
  · trivial
  · trivial
  · cases x with
    | none => trivial
    | some q =>
      rcases h with h | h
      · exact Or.inl h
      · exact Or.inr (Nat.lt_of_lt_of_le h (hw _))
theorem Exd_trans {ad0 ad ad' : Nat → Nat → Nat} {w0 w w' : Wd} (h : Exd ad0 w0 ad w) (h' : Exd ad w ad' w') : Exd ad0 w0 ad' w' :=
  ⟨fun t k hk => (h'.1 t k (Nat.lt_of_lt_of_le hk (h.2 t))).trans (h.1 t k hk), fun t => Nat.le_trans (h.2 t) (h'.2 t)⟩
theorem spl_eq : ∀ (n : Nat) (acc S as S' : List AV), spl n acc S = some (as, S') → ∃ xs, S = xs ++ S' ∧ xs.length = n ∧ as = xs.reverse ++ acc
  | 0, acc, S, as, S', h => by
    simp only [spl, Option.some.injEq, Prod.mk.injEq] at h
    exact ⟨[], by simp [h.2], rfl, by simp [h.1]⟩
  | n + 1, acc, [], as, S', h => by simp [spl] at h
  | n + 1, acc, v :: S, as, S', h => by
    simp only [spl] at h
    obtain ⟨xs, h1, h2, h3⟩ := spl_eq n (v :: acc) S as S' h
    exact ⟨v :: xs, by rw [h1]; rfl, by simp [h2], by rw [h3]; simp⟩
theorem spl_S {n : Nat} {S as S' : List AV} (h : spl n [] S = some (as, S')) : S = as.reverse ++ S' ∧ as.length = n := by
  obtain ⟨xs, h1, h2, h3⟩ := spl_eq n [] S as S' h
  rw [List.append_nil] at h3
  subst h3
  exact ⟨by simp [h1], by simp [h2]⟩
theorem catS_eq (ad : Nat → Nat → Nat) (S : List AV) : ((S.map (renV ad)).map fun v => v.category).sum = catS S := by
  induction S with
  | nil => rfl
  | cons v S ih => simp only [List.map_cons, List.sum_cons, ih, cat_ren, catS]
/-- a callee's words -/
def calOk (own : String) (idx : Nat) (c : Cal) : Prop :=
  Cond.code (mY c.1) (mB c.1) (mL c.1) (mR c.1) ∈ goodT ∧ Cond.initialized (mY c.1).cls ∈ goodT ∧ ((mY c.1).cls ≠ "java/lang/invoke/MethodHandle" ∧ (mY c.1).cls ≠ "java/lang/invoke/VarHandle" ∧ (parseMethodDescriptor (mY c.1).desc).map (fun d => d.parameters.length) = some c.2.1) ∧ mL c.1 ≤ 20 ∧
  (c.2.2 < 3 → Cond.methodLink own idx (mY c.1) ∈ goodT) ∧ (3 ≤ c.2.2 → ∃ host, Cond.methodLinkNest own idx (mY c.1) host ∈ nestW) ∧
  ((c.2.2 = 0 ∨ c.2.2 = 3) → Cond.instanceMethod (mY c.1) ∈ goodT ∧ Cond.selects (mY c.1).cls (mY c.1) (mY c.1) ∈ goodT) ∧
  ((c.2.2 = 1 ∨ c.2.2 = 4) → Cond.static (mY c.1) ∈ goodT) ∧
  ((c.2.2 = 2 ∨ c.2.2 = 5) → Cond.instanceMethod (mY c.1) ∈ goodT ∧ (mY c.1).name = "<init>" ∧ mR c.1 = none)
def XOk (l : Launch) (G : Gc) (C : CE) (X : XE) : Prop := ∀ idx n' f c, X idx = some (n', f) → ceM C idx = some c → ∀ as w r w', f as w = some (r, w') → Sem l G c.1 n' 0 0 as w (fun r2 w2 => r2 = r ∧ w2 = w')
theorem good_in {M : MI} (h : Cond.code (mY M) (mB M) (mL M) (mR M) ∈ goodT) : GoodIn goodT (wsY M) := by
  intro w hw
  have hm : w ∈ goodT := by
    rcases List.mem_cons.mp hw with rfl | h1
    · exact h
    · exact h1
  exact ⟨hm, good_of_word (List.mem_filter.mp hm).2⟩
theorem blind {G : Gc} {ad : Nat → Nat → Nat} {as : List AV} {w : Wd} : FrameBlind (SemPc G ad as w) := fun a U g mk h => ⟨h.1, h.2.1, KK.same (s := U) rfl h.2.2.1, h.2.2.2⟩
section S3
variable {l : Launch} {G : Gc} {M : MI} {C : CE} {X : XE} {n mc ms : Nat} {Q : Option AV → Wd → Prop} {pc : Nat} {L : List (Option AV)} {S : List AV} {w : Wd} {cu su : Nat}
/-- a call, as it comes back -/
theorem call_back {p : Program} {e : Env} {s : State} {m : MethodId} {args : Array Value} {below : List Frame} {meth : Method} {c : Code} {Z : State → Prop} {ad0 : Nat → Nat → Nat} {w0 : Wd} (hF : Fx G M p s m args meth c)
    (hc : ∀ r w' ad' H' locs' pc' ls' cu' su', Q r w' → Rel G ad' w' H' → Exd ad0 w0 ad' w' → (∀ a, r = some a → clV w' a) → locsOk G locs' → cu' ≤ mc → su' ≤ ms → retI M pc' r → W p l e (rml n mc ms) s m args below meth c H' locs' cu' su' Z (F0 m pc' ls' (r.toList.map (renV ad'))))
    {ad : Nat → Nat → Nat} {H : Heap} {locs : List Loc} {ls : Array Slot} (hR : Rel G ad w H) (hE : Exd ad0 w0 ad w) (hL : LsR ad (mL M) L ls) (hl : clL w L) (hS : clS w S) (ho : locsOk G locs) {mc' ms' : Nat} (h1 : cu + mc' ≤ mc) (h2 : su + ms' ≤ ms) {st0 : List Value} {a : Array Value}
    (hr : va_Run p l e (rml n mc ms) s m args below meth c H locs cu su mc' ms' (F0 m pc ls st0) (S.map (renV ad)) (SemQc G ad w (fun r w' => WP l G M n mc ms Q (pc + 3) L (r.toList ++ S) w' (cu + mc') (su + ms')) a) (gOut G)) :
    W p l e (rml n mc ms) s m args below meth c H locs cu su Z (F0 m pc ls st0) := by
  intro T hT X
  obtain ⟨v, st₀, t, T', LL, g0, X', hLL, e1, e2, ⟨r, w', ad', hv, hR', hE', hcr, hk⟩, st⟩ := hr T hT X
  have hv' : v = r.map (renV ad') := by injection hv
  subst hv'
  rw [← e1] at hR'
  have hls : LsR ad' (mL M) L ls := ⟨hL.1, hL.2.1, hL.2.2.1, fun i v hi => by rw [ren_eq hR hR' hE' (hl i v hi)]; exact hL.2.2.2 i v hi⟩
  have hSS : S.map (renV ad) = S.map (renV ad') := List.map_congr_left fun v hv => (ren_eq hR hR' hE' (hS v hv)).symm
  have hcS : clS w' (r.toList ++ S) := fun v hv => by
    rcases List.mem_append.mp hv with h | h
    · exact hcr v (by simpa using h)
    · exact clV_mono hE'.2 (hS v h)
  obtain ⟨t2, a1, b1⟩ := hk p e s m args below meth c Z ad0 w0 hF hc ad' T'.heap (locs ++ LL) ls hR' (Exd_trans hE hE') hls (fun i v hi => clV_mono hE'.2 (hl i v hi)) hcS (fun q hq => by
    rcases List.mem_append.mp hq with h | h
    · exact ho q h
    · exact hLL q h) h1 h2 T' rfl X'
  refine ⟨t2, st t2 ?_, b1⟩
  have he : ((r.map (renV ad')).toList ++ S.map (renV ad)) = (r.toList ++ S).map (renV ad') := by
    rw [hSS]
    cases r <;> simp
  rw [he]
  exact a1
theorem cll_sem {c : Cal} {idx : Nat} {as : List AV} (hX : XOk l G C X) (hcal : ceM C idx = some c) (h1 : cu ≤ mc) (h2 : su ≤ ms) (h : cll l G n mc ms c (X idx) as S w cu su (fun S2 w2 => WP l G M n mc ms Q (pc + 3) L S2 w2 cu su) (fun S2 w2 cu2 su2 => WP l G M n mc ms Q (pc + 3) L S2 w2 cu2 su2)) :
    catS S ≤ 8 ∧ ∃ n' mc' ms', n' < n ∧ cu + mc' ≤ mc ∧ su + ms' ≤ ms ∧ Sem l G c.1 n' mc' ms' as w (fun r w' => WP l G M n mc ms Q (pc + 3) L (r.toList ++ S) w' (cu + mc') (su + ms')) := by
  obtain ⟨h3, h4⟩ := h
  refine ⟨h3, ?_⟩
  split at h4
  · rename_i n' f hx
    obtain ⟨hn, h5⟩ := h4
    split at h5
    · rename_i r w' hf
      exact ⟨n', 0, 0, hn, h1, h2, (hX idx n' f c hx hcal as w r w' hf).mono fun r2 w2 hq => by rw [hq.1, hq.2]; exact h5⟩
    · exact h5.elim
  · exact h4
theorem s_invokestatic {idx : Nat} (hX : XOk l G C X) (hm : ∀ c, ceM C idx = some c → calOk (mOwn M) idx c) (hd : decode (mB M) pc = .ok (.invokestatic idx, 3)) (hs : stW l G M C X n mc ms Q pc (.invokestatic idx) L S w cu su) : WP l G M n mc ms Q pc L S w cu su := by
  intro p e s m args below meth c Z ad0 w0 hF hc ad H locs ls hR hE hL hl hS ho h1 h2
  obtain ⟨hx, hb, hr, hml, hown, hts, hKK, hlk, hnm⟩ := id hF
  simp only [stW, stp] at hs
  split at hs
  · rename_i cal hcal
    split at hs
    · rename_i as S2 hsp
      obtain ⟨hk, hcl⟩ := hs
      obtain ⟨hSe, hlen⟩ := spl_S hsp
      obtain ⟨o1, o2, o3, o4, o5, o6, o7, o8, o9⟩ := hm _ hcal
      obtain ⟨h8, n', mc', ms', hn, hc1, hc2, hsem⟩ := cll_sem (M := M) (L := L) hX hcal h1 h2 hcl
      subst hSe
      have hS2 : clS w S2 := fun v hv => hS v (List.mem_append_right _ hv)
      have hpre : PreS s H (SemPc G ad as w) (as.map (renV ad)) := ⟨blind, fun U hU hW => ⟨rfl, by rw [hU]; exact hR, hKK.warm hW, fun a ha => hS a (List.mem_append_left _ (List.mem_reverse.mpr ha))⟩⟩
      have hroom : (rml n' mc' ms').frames + 1 ≤ (rml n mc ms).frames ∧ 8 + (mL cal.1 + 11) + (rml n' mc' ms').locals ≤ (rml n mc ms).locals := by
        constructor
        · exact hn
        · show 8 + (mL cal.1 + 11) + 40 * n' ≤ 40 * n
          omega
      refine call_back hF hc hR hE hL hl hS2 ho hc1 hc2 (a := (as.map (renV ad)).toArray) ?_
      rcases hk with hk | hk
      · refine va_runS (nL := mL M) (index := idx) (own := mOwn M) (Ts := goodT) ⟨hx, hb, hml, hown, hts⟩ (hsem ad) ⟨callB_of cal.2.1 hts (good_in o1) rfl rfl rfl (hts _ o2) (hts _ (o5 (by omega))) o3 hroom, hts _ (o8 (Or.inl hk))⟩ hpre rfl (by rw [List.length_map]; exact hlen) hL.1 (by simp) ?_ hd ⟨hc1, hc2⟩
        exact lv_room (by rw [catS_eq]; exact h8)
      · obtain ⟨host, hh⟩ := o6 (by omega)
        refine va_runSN (nL := mL M) (index := idx) (own := mOwn M) (Ts := goodT) ⟨hx, hb, hml, hown, hts⟩ (hsem ad) ⟨va_cnB cal.2.1 hts (good_in o1) rfl rfl rfl (hKK.2.1 _ hh) (hts _ o2) o3 hroom, hts _ (o8 (Or.inr hk)), trivial⟩ hpre rfl (by rw [List.length_map]; exact hlen) hL.1 (by simp) ?_ hd ⟨hc1, hc2⟩
        exact lv_room (by rw [catS_eq]; exact h8)
    · exact hs.elim
  · exact hs.elim
theorem s_invokevirtual {idx : Nat} (hX : XOk l G C X) (hm : ∀ c, ceM C idx = some c → calOk (mOwn M) idx c) (hd : decode (mB M) pc = .ok (.invokevirtual idx, 3)) (hs : stW l G M C X n mc ms Q pc (.invokevirtual idx) L S w cu su) : WP l G M n mc ms Q pc L S w cu su := by
  intro p e s m args below meth c Z ad0 w0 hF hc ad H locs ls hR hE hL hl hS ho h1 h2
  obtain ⟨hx, hb, hr, hml, hown, hts, hKK, hlk, hnm⟩ := id hF
  simp only [stW, stp] at hs
  split at hs
  · rename_i cal hcal
    split at hs
    · rename_i as t j S2 hsp
      obtain ⟨hk, t14, hcls, hj, hcl⟩ := hs
      obtain ⟨hSe, hlen⟩ := spl_S hsp
      obtain ⟨o1, o2, o3, o4, o5, o6, o7, o8, o9⟩ := hm _ hcal
      obtain ⟨h8, n', mc', ms', hn, hc1, hc2, hsem⟩ := cll_sem (M := M) (L := L) hX hcal h1 h2 hcl
      subst hSe
      have hS2 : clS w S2 := fun v hv => hS v (List.mem_append_right _ (List.mem_cons_of_mem _ hv))
      have hrv := wd_recv hKK hR t14 hj
      rw [hcls] at hrv
      have hpre : PreV s H (mY cal.1).cls (ad t j) (SemPc G ad (.inr (.inr (some (t, j))) :: as) w) (as.map (renV ad)) := ⟨blind, hrv, fun U hU hW => ⟨rfl, by rw [hU]; exact hR, hKK.warm hW, fun a ha => by
        rcases List.mem_cons.mp ha with rfl | ha
        · exact Or.inr hj
        · exact hS a (List.mem_append_left _ (List.mem_reverse.mpr ha))⟩⟩
      have hroom : (rml n' mc' ms').frames + 1 ≤ (rml n mc ms).frames ∧ 8 + (mL cal.1 + 11) + (rml n' mc' ms').locals ≤ (rml n mc ms).locals := by
        constructor
        · exact hn
        · show 8 + (mL cal.1 + 11) + 40 * n' ≤ 40 * n
          omega
      refine call_back hF hc hR hE hL hl hS2 ho hc1 hc2 (a := (Value.ref (ad t j) :: as.map (renV ad)).toArray) ?_
      rcases hk with hk | hk
      · refine va_runV (nL := mL M) (index := idx) (own := mOwn M) (Ts := goodT) ⟨hx, hb, hml, hown, hts⟩ (hsem ad) ⟨callB_of cal.2.1 hts (good_in o1) rfl rfl rfl (hts _ o2) (hts _ (o5 (by omega))) o3 hroom, hts _ (o7 (Or.inl hk)).1, hts _ (o7 (Or.inl hk)).2⟩ hpre rfl (by rw [List.length_map]; exact hlen) hL.1 (by simp [renV, renR]) ?_ hd ⟨hc1, hc2⟩
        exact lv_room (by rw [catS_eq]; exact h8)
      · obtain ⟨host, hh⟩ := o6 (by omega)
        refine va_runVN (nL := mL M) (index := idx) (own := mOwn M) (Ts := goodT) ⟨hx, hb, hml, hown, hts⟩ (hsem ad) ⟨va_cnB cal.2.1 hts (good_in o1) rfl rfl rfl (hKK.2.1 _ hh) (hts _ o2) o3 hroom, hts _ (o7 (Or.inr hk)).1, hts _ (o7 (Or.inr hk)).2⟩ hpre rfl (by rw [List.length_map]; exact hlen) hL.1 (by simp [renV, renR]) ?_ hd ⟨hc1, hc2⟩
        exact lv_room (by rw [catS_eq]; exact h8)
    · exact hs.elim
  · exact hs.elim
theorem s_invokespecial {idx : Nat} (hX : XOk l G C X) (hm : ∀ c, ceM C idx = some c → calOk (mOwn M) idx c) (hd : decode (mB M) pc = .ok (.invokespecial idx, 3)) (hs : stW l G M C X n mc ms Q pc (.invokespecial idx) L S w cu su) : WP l G M n mc ms Q pc L S w cu su := by
  intro p e s m args below meth c Z ad0 w0 hF hc ad H locs ls hR hE hL hl hS ho h1 h2
  obtain ⟨hx, hb, hr, hml, hown, hts, hKK, hlk, hnm⟩ := id hF
  simp only [stW, stp] at hs
  split at hs
  · rename_i cal hcal
    split at hs
    · rename_i as t j S2 hsp
      obtain ⟨hk, t14, hcl⟩ := hs
      obtain ⟨hSe, hlen⟩ := spl_S hsp
      obtain ⟨o1, o2, o3, o4, o5, o6, o7, o8, o9⟩ := hm _ hcal
      obtain ⟨h8, n', mc', ms', hn, hc1, hc2, hsem⟩ := cll_sem (M := M) (L := L) hX hcal h1 h2 hcl
      subst hSe
      have hS2 : clS w S2 := fun v hv => hS v (List.mem_append_right _ (List.mem_cons_of_mem _ hv))
      have hpre : PreS s H (SemPc G ad (.inr (.inr (some (t, j))) :: as) w) (.ref (ad t j) :: as.map (renV ad)) := ⟨blind, fun U hU hW => ⟨rfl, by rw [hU]; exact hR, hKK.warm hW, fun a ha => by
        rcases List.mem_cons.mp ha with rfl | ha
        · exact hS _ (List.mem_append_right _ List.mem_cons_self)
        · exact hS a (List.mem_append_left _ (List.mem_reverse.mpr ha))⟩⟩
      have hroom : (rml n' mc' ms').frames + 1 ≤ (rml n mc ms).frames ∧ 8 + (mL cal.1 + 11) + (rml n' mc' ms').locals ≤ (rml n mc ms).locals := by
        constructor
        · exact hn
        · show 8 + (mL cal.1 + 11) + 40 * n' ≤ 40 * n
          omega
      obtain ⟨oi, on, or⟩ := o9 hk
      refine call_back hF hc hR hE hL hl hS2 ho hc1 hc2 (a := (Value.ref (ad t j) :: as.map (renV ad)).toArray) ?_
      rcases hk with hk | hk
      · refine va_runI (nL := mL M) (index := idx) (own := mOwn M) (Ts := goodT) ⟨hx, hb, hml, hown, hts⟩ (hsem ad) ⟨callB_of cal.2.1 hts (good_in o1) (by rw [← or]; rfl) rfl rfl (hts _ o2) (hts _ (o5 (by omega))) o3 hroom, on, hts _ oi⟩ hpre rfl (by rw [List.length_map]; exact hlen) hL.1 (by simp [renV, renR]) ?_ hd ⟨hc1, hc2⟩
        exact lv_room (by rw [catS_eq]; exact h8)
      · obtain ⟨host, hh⟩ := o6 (by omega)
        refine va_runIN (nL := mL M) (index := idx) (own := mOwn M) (Ts := goodT) ⟨hx, hb, hml, hown, hts⟩ (hsem ad) ⟨va_cnB cal.2.1 hts (good_in o1) (by rw [← or]; rfl) rfl rfl (hKK.2.1 _ hh) (hts _ o2) o3 hroom, on, hts _ oi⟩ hpre rfl (by rw [List.length_map]; exact hlen) hL.1 (by simp [renV, renR]) ?_ hd ⟨hc1, hc2⟩
        exact lv_room (by rw [catS_eq]; exact h8)
    · exact hs.elim
  · exact hs.elim
end S3
end
section
/-! a step, many steps; a method's working out of its body -/
def envOk (own : String) (C : CE) : Prop :=
  (∀ idx ci k, ceF C idx = some (ci, k) → fldOk own idx ci k) ∧ (∀ idx c, ceM C idx = some c → calOk own idx c) ∧ (∀ idx v, ceK C idx = some (.inl v) → Cond.constant own idx v ∈ goodT) ∧ (∀ idx v, ceK C idx = some (.inr (.inl v)) → Cond.constantLong own idx v ∈ goodT) ∧ ∀ idx ci, ceT C idx = some ci → Cond.classLink own idx (clsN ci).1 ∈ goodT
/-- an instruction's length, where it is fixed -/
def ilen : Instr → Nat
  | .bipush _ | .iload _ | .lload _ | .aload _ | .istore _ | .lstore _ | .astore _ | .ldc _ => 2
  | .sipush _ | .iinc _ _ | .ifCond _ _ | .if_icmp _ _ | .ifnull _ | .ifnonnull _ | .goto _ | .getfield _ | .putfield _ | .ldc2_w _ | .checkcast _ | .invokevirtual _ | .invokestatic _ | .invokespecial _ => 3
  | _ => 1
def lenOk : Instr → Nat → Bool
  | .tableswitch .., _ => true
  | .lookupswitch .., _ => true
  | i, n => ilen i == n
abbrev TB : Type := List (Nat × (Instr × Nat))
def tbOk (b : ByteArray) (tb : TB) : Bool := tb.all (fun q => decide (decode b q.1 = .ok q.2) && lenOk q.2.1 q.2.2)
section S4
variable {l : Launch} {G : Gc} {M : MI} {C : CE} {X : XE} {n mc ms : Nat} {Q : Option AV → Wd → Prop} {pc : Nat} {L : List (Option AV)} {S : List AV} {w : Wd} {cu su : Nat}
set_option maxHeartbeats 4000000 in
theorem wp_step {ins : Instr} {len : Nat} (hE : envOk (mOwn M) C) (hX : XOk l G C X) (hd : decode (mB M) pc = .ok (ins, len)) (hl : lenOk ins len = true) (hs : stW l G M C X n mc ms Q pc ins L S w cu su) : WP l G M n mc ms Q pc L S w cu su := by
  have e0 : ∀ {k : Nat}, (k == len) = true → len = k := fun h => (eq_of_beq h).symm
  cases ins with
  | iconst k => cases e0 hl; exact s_iconst hd hs
  | bipush k => cases e0 hl; exact s_bipush hd hs
  | sipush k => cases e0 hl; exact s_sipush hd hs
  | lconst k => cases e0 hl; exact s_lconst hd hs
  | aconst_null => cases e0 hl; exact s_null hd hs
  | iload i => cases e0 hl; exact s_iload hd hs
  | iload_n i => cases e0 hl; exact s_iload_n hd hs
  | lload i => cases e0 hl; exact s_lload hd hs
  | lload_n i => cases e0 hl; exact s_lload_n hd hs
  | aload i => cases e0 hl; exact s_aload hd hs
  | aload_n i => cases e0 hl; exact s_aload_n hd hs
  | istore i => cases e0 hl; exact s_istore hd hs
  | istore_n i => cases e0 hl; exact s_istore_n hd hs
  | lstore i => cases e0 hl; exact s_lstore hd hs
  | lstore_n i => cases e0 hl; exact s_lstore_n hd hs
  | astore i => cases e0 hl; exact s_astore hd hs
  | astore_n i => cases e0 hl; exact s_astore_n hd hs
  | iinc i k => cases e0 hl; exact s_iinc hd hs
  | iadd => cases e0 hl; exact s_iadd hd hs
  | isub => cases e0 hl; exact s_isub hd hs
  | imul => cases e0 hl; exact s_imul hd hs
  | iand => cases e0 hl; exact s_iand hd hs
  | ior => cases e0 hl; exact s_ior hd hs
  | ixor => cases e0 hl; exact s_ixor hd hs
  | ishl => cases e0 hl; exact s_ishl hd hs
  | ishr => cases e0 hl; exact s_ishr hd hs
  | iushr => cases e0 hl; exact s_iushr hd hs
  | idiv => cases e0 hl; exact s_idiv hd hs
  | irem => cases e0 hl; exact s_irem hd hs
  | ineg => cases e0 hl; exact s_ineg hd hs
  | ladd => cases e0 hl; exact s_ladd hd hs
  | lmul => cases e0 hl; exact s_lmul hd hs
  | land => cases e0 hl; exact s_land hd hs
  | ldiv => cases e0 hl; exact s_ldiv hd hs
  | lshr => cases e0 hl; exact s_lshr hd hs
  | i2l => cases e0 hl; exact s_i2l hd hs
  | l2i => cases e0 hl; exact s_l2i hd hs
  | lcmp => cases e0 hl; exact s_lcmp hd hs
  | dup => cases e0 hl; exact s_dup hd hs
  | pop => cases e0 hl; exact s_pop hd hs
  | dup_x1 => cases e0 hl; exact s_dup_x1 hd hs
  | dup2 => cases e0 hl; exact s_dup2 hd hs
  | ifCond cd off => cases e0 hl; cases cd <;> first | exact s_if_eq hd hs | exact s_if_ne hd hs | exact s_if_lt hd hs | exact s_if_ge hd hs | exact s_if_gt hd hs | exact s_if_le hd hs
  | if_icmp cd off => cases e0 hl; cases cd <;> first | exact s_icmp_eq hd hs | exact s_icmp_ne hd hs | exact s_icmp_lt hd hs | exact s_icmp_ge hd hs | exact s_icmp_gt hd hs | exact s_icmp_le hd hs
  | ifnull off => cases e0 hl; exact s_ifnull hd hs
  | ifnonnull off => cases e0 hl; exact s_ifnonnull hd hs
  | goto off => cases e0 hl; exact s_goto hd hs
  | tableswitch d lo hi offs => exact s_table hd hs
  | lookupswitch d ps => exact s_lookup hd hs
  | getfield idx => cases e0 hl; exact s_getfield (hE.1 idx) hd hs
  | putfield idx => cases e0 hl; exact s_putfield (hE.1 idx) hd hs
  | iaload => cases e0 hl; exact s_iaload hd hs
  | baload => cases e0 hl; exact s_baload hd hs
  | aaload => cases e0 hl; exact s_aaload hd hs
  | iastore => cases e0 hl; exact s_iastore hd hs
  | bastore => cases e0 hl; exact s_bastore hd hs
  | arraylength => cases e0 hl; exact s_alen hd hs
  | ldc idx => cases e0 hl; exact s_ldc (hE.2.2.1 idx) hd hs
  | ldc2_w idx => cases e0 hl; exact s_ldc2 (hE.2.2.2.1 idx) hd hs
  | checkcast idx => cases e0 hl; exact s_cast (hE.2.2.2.2 idx) hd hs
  | invokevirtual idx => cases e0 hl; exact s_invokevirtual hX (hE.2.1 idx) hd hs
  | invokestatic idx => cases e0 hl; exact s_invokestatic hX (hE.2.1 idx) hd hs
  | invokespecial idx => cases e0 hl; exact s_invokespecial hX (hE.2.1 idx) hd hs
  | ireturn => cases e0 hl; exact s_ireturn hd hs
  | lreturn => cases e0 hl; exact s_lreturn hd hs
  | areturn => cases e0 hl; exact s_areturn hd hs
  | return_ => cases e0 hl; exact s_vreturn hd hs
  | _ => exact hs.elim
end S4
/-- many steps: up to the places of 'st', and to calls -/
def wpn (l : Launch) (G : Gc) (M : MI) (C : CE) (X : XE) (tb : TB) (st : List Nat) (n mc ms : Nat) (Q : Option AV → Wd → Prop) : Nat → KT
  | 0, pc, L, S, w, cu, su => WP l G M n mc ms Q pc L S w cu su
  | f + 1, pc, L, S, w, cu, su => match alk tb pc with
    | some (ins, _) => stp l G M C X n mc ms Q (fun pc' L' S' w' cu' su' => if st.contains pc' = true then WP l G M n mc ms Q pc' L' S' w' cu' su' else wpn l G M C X tb st n mc ms Q f pc' L' S' w' cu' su') (WP l G M n mc ms Q) pc ins L S w cu su
    | none => False

theorem jmp_mono {pc : Nat} {off : Int} {K K' : Nat → Prop} (h : jmp pc off K) (hm : ∀ p, K p → K' p) : jmp pc off K' := ⟨h.1, hm _ h.2⟩
theorem cll_mono {l : Launch} {G : Gc} {n mc ms : Nat} {c : Cal} {x : Option (Nat × FS)} {as S : List AV} {w : Wd} {cu su : Nat} {K K' : List AV → Wd → Prop} {Kc : List AV → Wd → Nat → Nat → Prop} (h : cll l G n mc ms c x as S w cu su K Kc) (hm : ∀ S w, K S w → K' S w) : cll l G n mc ms c x as S w cu su K' Kc := by
  obtain ⟨h1, h2⟩ := h
  refine ⟨h1, ?_⟩
  split at h2
  · refine ⟨h2.1, ?_⟩
    have h3 := h2.2
    split at h3
    · exact hm _ _ h3
    · exact h3.elim
  · exact h2
set_option maxHeartbeats 4000000 in
theorem stp_mono {l : Launch} {G : Gc} {M : MI} {C : CE} {X : XE} {n mc ms : Nat} {Q : Option AV → Wd → Prop} {K K' Kc : KT} {pc : Nat} {ins : Instr} {L : List (Option AV)} {S : List AV} {w : Wd} {cu su : Nat} (hm : ∀ pc L S w cu su, K pc L S w cu su → K' pc L S w cu su) (h : stp l G M C X n mc ms Q K Kc pc ins L S w cu su) : stp l G M C X n mc ms Q K' Kc pc ins L S w cu su := by
  cases ins <;> simp only [stp] at h ⊢
  case ifCond cd off => cases cd <;> simp only [stp] at h ⊢ <;> split at h <;> first | exact h.elim | exact ⟨h.1, fun z => hm _ _ _ _ _ _ (h.2.1 z), fun z => hm _ _ _ _ _ _ (h.2.2 z)⟩
  case if_icmp cd off => cases cd <;> simp only [stp] at h ⊢ <;> split at h <;> first | exact h.elim | exact ⟨h.1, fun z => hm _ _ _ _ _ _ (h.2.1 z), fun z => hm _ _ _ _ _ _ (h.2.2 z)⟩
  case tableswitch d lo hi offs =>
    split at h
    · split at h
      · rename_i hq
        try rw [if_pos hq]
        exact jmp_mono h (fun p => hm _ _ _ _ _ _)
      · rename_i hq
        try rw [if_neg hq]
        split at h
        · rename_i hq2
          try rw [hq2]
          exact jmp_mono h (fun p => hm _ _ _ _ _ _)
        · exact h.elim
    · exact h.elim
  case lookupswitch d ps =>
    split at h
    · exact ⟨h.1, jmp_mono h.2 (fun p => hm _ _ _ _ _ _)⟩
    · exact h.elim
  case goto off => exact jmp_mono h (fun p => hm _ _ _ _ _ _)
  case ifnull off =>
    split at h
    · exact jmp_mono h (fun p => hm _ _ _ _ _ _)
    · exact hm _ _ _ _ _ _ h
    · exact h.elim
  case ifnonnull off =>
    split at h
    · exact hm _ _ _ _ _ _ h
    · exact jmp_mono h (fun p => hm _ _ _ _ _ _)
    · exact h.elim
  case getfield idx =>
    split at h
    · rename_i hq
      try rw [hq]
      split at h
      · exact ⟨h.1, h.2.1, hm _ _ _ _ _ _ h.2.2⟩
      · exact h.elim
    · exact h.elim
  case putfield idx =>
    split at h
    · rename_i hq
      try rw [hq]
      split at h
      · exact ⟨h.1, h.2.1, h.2.2.1, h.2.2.2.1, h.2.2.2.2.1, hm _ _ _ _ _ _ h.2.2.2.2.2⟩
      · exact h.elim
    · exact h.elim
  case checkcast idx =>
    split at h
    · rename_i hq
      try rw [hq]
      split at h
      · exact ⟨h.1, h.2.1, h.2.2.1, hm _ _ _ _ _ _ h.2.2.2⟩
      · exact h.elim
    · exact h.elim
  case iaload =>
    split at h
    · split at h
      · rename_i hq
        try rw [if_pos hq]
        exact ⟨h.1, h.2.1, hm _ _ _ _ _ _ h.2.2⟩
      · rename_i hq
        try rw [if_neg hq]
        exact ⟨h.1, h.2.1, h.2.2.1, h.2.2.2.1, hm _ _ _ _ _ _ h.2.2.2.2⟩
    · exact h.elim
  case arraylength =>
    split at h
    · split at h
      · rename_i hq
        try rw [if_pos hq]
        exact ⟨h.1, hm _ _ _ _ _ _ h.2⟩
      · rename_i hq
        try rw [if_neg hq]
        exact ⟨h.1, h.2.1, h.2.2.1, hm _ _ _ _ _ _ h.2.2.2⟩
    · exact h.elim
  case invokevirtual idx =>
    split at h
    · rename_i hq
      try rw [hq]
      split at h
      · rename_i hq2
        try simp only [hq2]
        exact ⟨h.1, h.2.1, h.2.2.1, h.2.2.2.1, cll_mono h.2.2.2.2 (fun S w => hm _ _ _ _ _ _)⟩
      · exact h.elim
    · exact h.elim
  case invokespecial idx =>
    split at h
    · rename_i hq
      try rw [hq]
      split at h
      · rename_i hq2
        try simp only [hq2]
        exact ⟨h.1, h.2.1, cll_mono h.2.2 (fun S w => hm _ _ _ _ _ _)⟩
      · exact h.elim
    · exact h.elim
  case invokestatic idx =>
    split at h
    · rename_i hq
      try rw [hq]
      split at h
      · rename_i hq2
        try simp only [hq2]
        exact ⟨h.1, cll_mono h.2 (fun S w => hm _ _ _ _ _ _)⟩
      · exact h.elim
    · exact h.elim
  all_goals first
    | exact h
    | exact hm _ _ _ _ _ _ h
    | (split at h <;> first | exact h.elim | exact hm _ _ _ _ _ _ h | exact ⟨h.1, hm _ _ _ _ _ _ h.2⟩ | exact ⟨h.1, h.2.1, hm _ _ _ _ _ _ h.2.2⟩ | exact ⟨h.1, h.2.1, h.2.2.1, h.2.2.2.1, hm _ _ _ _ _ _ h.2.2.2.2⟩ | exact ⟨h.1, h.2.1, h.2.2.1, h.2.2.2.1, h.2.2.2.2.1, hm _ _ _ _ _ _ h.2.2.2.2.2⟩ | (rename_i hg; rw [hg]; exact hm _ _ _ _ _ _ h) | (rename_i hg; rw [hg]; exact ⟨h.1, hm _ _ _ _ _ _ h.2⟩))
theorem wpn_ok {l : Launch} {G : Gc} {M : MI} {C : CE} {X : XE} {tb : TB} {st : List Nat} {n mc ms : Nat} {Q : Option AV → Wd → Prop} (hE : envOk (mOwn M) C) (hX : XOk l G C X) (ht : tbOk (mB M) tb = true) : ∀ (f pc : Nat) (L : List (Option AV)) (S : List AV) (w : Wd) (cu su : Nat), wpn l G M C X tb st n mc ms Q f pc L S w cu su → WP l G M n mc ms Q pc L S w cu su
  | 0, _, _, _, _, _, _, h => h
  | f + 1, pc, L, S, w, cu, su, h => by
    simp only [wpn] at h
    split at h
    · rename_i ins len hq
      have h1 := List.all_eq_true.mp ht _ (alk_mem hq)
      simp only [Bool.and_eq_true, decide_eq_true_eq] at h1
      refine wp_step (l := l) (X := X) hE hX h1.1 h1.2 (stp_mono (fun pc' L' S' w' cu' su' hk => ?_) h)
      split at hk
      · exact hk
      · exact wpn_ok hE hX ht f pc' L' S' w' cu' su' hk
    · exact h.elim
/-- a method's first locals -/
def inL : List AV → List (Option AV)
  | [] => []
  | v :: as => if isL (some v) = true then some v :: none :: inL as else some v :: inL as
def pad : Nat → List (Option AV) → List (Option AV)
  | 0, _ => []
  | n + 1, [] => none :: pad n []
  | n + 1, v :: l => v :: pad n l
theorem pad_len : ∀ (n : Nat) (l : List (Option AV)), (pad n l).length = n
  | 0, _ => rfl
  | n + 1, [] => congrArg (· + 1) (pad_len n [])
  | n + 1, _ :: l => congrArg (· + 1) (pad_len n l)
theorem lg_pad : ∀ (n : Nat) (l : List (Option AV)) (i : Nat) (v : AV), lg (pad n l) i = some v → lg l i = some v
  | 0, _, _, _, h => by simp [pad, lg] at h
  | n + 1, [], 0, v, h => by simp [pad, lg] at h
  | n + 1, [], i + 1, v, h => lg_pad n [] i v h
  | n + 1, _ :: l, 0, v, h => h
  | n + 1, _ :: l, i + 1, v, h => lg_pad n l i v h
theorem inL_args (ad : Nat → Nat → Nat) : ∀ (as : List AV) (b i : Nat) (v : AV), lg (inL as) i = some v → (b + i, renV ad v) ∈ lv_args b (as.map (renV ad))
  | [], _, _, _, h => by simp [inL, lg] at h
  | a :: as, b, i, v, h => by
    simp only [inL] at h
    simp only [List.map_cons, lv_args, cat_ren]
    split at h
    · rename_i hq
      rw [if_pos (by rw [if_pos hq])]
      match i, h with
      | 0, h => cases h; exact List.mem_cons_self
      | 1, h => simp [lg] at h
      | i + 2, h =>
        have h2 := inL_args ad as (b + 2) i v h
        rw [show b + 2 + i = b + (i + 2) by omega] at h2
        exact List.mem_cons_of_mem _ h2
    · rename_i hq
      rw [if_neg (by rw [if_neg hq]; decide)]
      match i, h with
      | 0, h => cases h; exact List.mem_cons_self
      | i + 1, h =>
        have h2 := inL_args ad as (b + 1) i v h
        rw [show b + 1 + i = b + (i + 1) by omega] at h2
        exact List.mem_cons_of_mem _ h2
theorem inL_len (ad : Nat → Nat → Nat) : ∀ (as : List AV), (lg_sl (as.map (renV ad))).length = (inL as).length
  | [] => rfl
  | a :: as => by
    have h := inL_len ad as
    simp only [lg_sl, List.map_cons, List.flatMap_cons, List.length_append, cat_ren, inL] at h ⊢
    split
    · simp only [if_pos, List.length_cons, List.length_nil, h]; omega
    · simp only [h]; simp; omega
theorem inL_cl {w : Wd} : ∀ {as : List AV}, (∀ a ∈ as, clV w a) → clL w (inL as)
  | [], _, i, v, h => by simp [inL, lg] at h
  | a :: as, hc, i, v, h => by
    simp only [inL] at h
    have hr := inL_cl (as := as) (fun x hx => hc x (List.mem_cons_of_mem _ hx))
    split at h
    · match i, h with
      | 0, h => cases h; exact hc _ List.mem_cons_self
      | 1, h => simp [lg] at h
      | i + 2, h => exact hr i v h
    · match i, h with
      | 0, h => cases h; exact hc _ List.mem_cons_self
      | i + 1, h => exact hr i v h
set_option maxHeartbeats 4000000 in
/-- a method out of its body -/
theorem Sem_of {l : Launch} {G : Gc} {M : MI} {n mc ms : Nat} {Q : Option AV → Wd → Prop} {as : List AV} {w : Wd} (hy : plainName (mY M).cls = true) (ho : (mY M).cls = mOwn M) (hn : (inL as).length ≤ mL M) (h : WP l G M n mc ms Q 0 (pad (mL M) (inL as)) [] w 0 0) : Sem l G M n mc ms as w Q := by
  intro ad
  refine Met.ofW (cc := mB M) (maxL := mL M) (ret := mR M) hy rfl ?_
  intro p e s m args below meth c s₁ B hml hv
  obtain ⟨rfl, hR, hKK, hcl⟩ := hv
  have hx := B.exec
  have hb := B.bytes
  have hr := B.returns
  have hts := atoms_spec (ws := wsY M) B.pre
  have hown : s.vm.findClass (mOwn M) = some m.cls := by rw [← ho]; exact findClass_of_methodNamed B.named
  have hlocks := B.notSynchronized
  have hnm : meth.name = (mY M).name := (name_of_methodNamed B.named B.method).1
  have hl := lv_entry (as.map (renV ad)) (n := mL M) (by rw [inL_len]; exact hn)
  rw [lg_entry_eq]
  generalize (lg_sl (as.map (renV ad)) ++ List.replicate (mL M - (lg_sl (as.map (renV ad))).length) Slot.unset).toArray = ls at hl ⊢
  have hL : LsR ad (mL M) (pad (mL M) (inL as)) ls := ⟨hl.1, pad_len _ _, hl.2.1, fun i v hi => by
    have h2 := inL_args ad as 0 i v (lg_pad _ _ _ _ hi)
    rw [Nat.zero_add] at h2
    exact hl.2.2 _ h2⟩
  refine h p e s m _ below meth c _ ad w ⟨hx, hb, hr, hml, hown, fun w hw => hts w (List.mem_cons_of_mem _ hw), hKK, hlocks, hnm⟩ ?_ ad s.heap [] ls hR ⟨fun _ _ _ => rfl, fun _ => Nat.le_refl _⟩ hL (fun i v hi => inL_cl hcl i v (lg_pad _ _ _ _ hi)) (fun v hv => by cases hv) (fun q hq => by cases hq) (Nat.zero_le _) (Nat.zero_le _)
  intro r w' ad' H' locs' pc' ls' cu' su' hq hR' hE' hcr hlo' hc1 hc2 hret
  refine W.widen hc1 hc2 ?_
  rcases hret with ⟨v, rfl, hd, hnr⟩ | ⟨v, rfl, hd, hnr⟩ | ⟨v, rfl, hd, ty, hnr, hty⟩ | ⟨rfl, hd, hnr⟩
  · cases hm : mR M with
    | none => rw [hm] at hnr; exact hnr.elim
    | some ty =>
      rw [hm] at hnr
      exact W.zret hx hb (hr.trans hm) (nar_narrow hnr).1 (fun t ht hW => ⟨some (.inl v), w', ad', rfl, by rw [ht]; exact hR', hE', hcr, hq⟩) hlo' hd
  · exact W.lret hx hb (hr.trans hnr) (fun t ht hW => ⟨some (.inr (.inl v)), w', ad', rfl, by rw [ht]; exact hR', hE', hcr, hq⟩) hlo' hd
  · refine W.aret hx hb (hr.trans hnr) ?_ ?_ (fun t ht hW => ⟨some (.inr (.inr v)), w', ad', rfl, by rw [ht]; exact hR', hE', hcr, hq⟩) hlo' hd
    · cases ty <;> first | exact Or.inl ⟨_, rfl⟩ | exact Or.inr ⟨_, rfl⟩ | cases hty
    · cases v with
      | none => exact Or.inl rfl
      | some q => exact Or.inr ⟨_, rfl⟩
  · exact W.vret hx hb (hr.trans hnr) (fun t ht hW => ⟨none, w', ad', rfl, by rw [ht]; exact hR', hE', hcr, hq⟩) hlo' hd
end
section
/-! the methods: names and codes -/
def mS_init : MI := ("StockYard", yX11_init, cX11_init, 1, none)
def mJq_init : MI := ("java/lang/Object", ⟨"java/lang/Object", "<init>", "()V"⟩, object_method_1_code, 1, none)
def mY_init : MI := ("StockYard$Yard", yX10_init, cX10_init, 1, none)
def mL_init : MI := ("java/util/ArrayList", yJx4a65c_init_da8c8, cJx4a65c_init_da8c8, 1, none)
def mJa_init : MI := ("java/util/AbstractList", yJxc12de_init_da8c8, cJxc12de_init_da8c8, 1, none)
def mJc_init : MI := ("java/util/AbstractCollection", yJxa1e45_init_da8c8, cJxa1e45_init_da8c8, 1, none)
def mT_init : MI := ("StockYard$Tape", yX8_init, cX8_init, 1, none)
def mB_init : MI := ("StockYard$RuleBook", yX6_init, cX6_init, 1, none)
def mK_init : MI := ("StockYard$MarkBook", yX2_init, cX2_init, 1, none)
def mP_init : MI := ("StockYard$Planner", yX3_init, cX3_init, 3, none)
def mW_init : MI := ("StockYard$Way", yX9_init, cX9_init, 1, none)
def mR_init : MI := ("StockYard$Row", yX4_init, cX4_init, 1, none)
def mS_place : MI := ("StockYard", yX11_place, cX11_place, 2, (some .int))
def mS_within : MI := ("StockYard", yX11_within, cX11_within, 3, (some .boolean))
def mS_refuse : MI := ("StockYard", yX11_refuse, cX11_refuse, 2, (some .int))
def mY_addPlace : MI := ("StockYard$Yard", yX10_addPlace, cX10_addPlace, 4, (some .int))
def mS_alley : MI := ("StockYard", yX11_alley, cX11_alley, 4, (some .int))
def mY_hasPlace : MI := ("StockYard$Yard", yX10_hasPlace, cX10_hasPlace, 2, (some .boolean))
def mL_size : MI := ("java/util/ArrayList", yJx4a65c_size_8abf5, cJx4a65c_size_8abf5, 1, (some .int))
def mY_addAlley : MI := ("StockYard$Yard", yX10_addAlley, cX10_addAlley, 8, (some .int))
def mA_init : MI := ("StockYard$Alley", yX0_init, cX0_init, 4, none)
def mL_add1z : MI := ("java/util/ArrayList", yJx4a65c_add_9ea2d, cJx4a65c_add_9ea2d, 2, (some .boolean))
def mL_add3v : MI := ("java/util/ArrayList", yJx4a65c_add_72be8, cJx4a65c_add_72be8, 4, none)
def mL_grow0 : MI := ("java/util/ArrayList", yJx4a65c_grow_d5877, cJx4a65c_grow_d5877, 1, (some (.array (.object "java/lang/Object"))))
def mL_grow1 : MI := ("java/util/ArrayList", yJx4a65c_grow_92f84, cJx4a65c_grow_92f84, 4, (some (.array (.object "java/lang/Object"))))
def mJx_newLength : MI := ("jdk/internal/util/ArraysSupport", yJ8_newLength_cabcc, cJ8_newLength_cabcc, 4, (some .int))
def mJm_max : MI := ("java/lang/Math", yJ9_max_7cf53, cJ9_max_7cf53, 2, (some .int))
def mJx_hugeLength : MI := ("jdk/internal/util/ArraysSupport", yJ8_hugeLength_7cf53, cJ8_hugeLength_7cf53, 3, (some .int))
def mJr_copyOf2 : MI := ("java/util/Arrays", yJ7_copyOf_1904c, cJ7_copyOf_1904c, 2, (some (.array (.object "java/lang/Object"))))
def mJr_copyOf3 : MI := ("java/util/Arrays", yJ7_copyOf_6403c, cJ7_copyOf_6403c, 4, (some (.array (.object "java/lang/Object"))))
def mJm_min : MI := ("java/lang/Math", yJ9_min_7cf53, cJ9_min_7cf53, 2, (some .int))
def mY_minutesBetween : MI := ("StockYard$Yard", yX10_minutesBetween, cX10_minutesBetween, 3, (some .int))
def mS_way : MI := ("StockYard", yX11_way, cX11_way, 3, (some .int))
def mY_find : MI := ("StockYard$Yard", yX10_find, cX10_find, 7, (some .boolean))
def mW_clear : MI := ("StockYard$Way", yX9_clear, cX9_clear, 1, none)
def mY_leastAlleyToward : MI := ("StockYard$Yard", yX10_leastAlleyToward, cX10_leastAlleyToward, 6, (some .int))
def mL_get : MI := ("java/util/ArrayList", yJx4a65c_get_915e3, cJx4a65c_get_915e3, 2, (some (.object "java/lang/Object")))
def mJo_checkIndex : MI := ("java/util/Objects", yJ15_checkIndex_7cf53, cJ15_checkIndex_7cf53, 2, (some .int))
def mJp_checkIndex : MI := ("jdk/internal/util/Preconditions", yJ3_checkIndex_8e157, cJ3_checkIndex_8e157, 3, (some .int))
def mL_elementData : MI := ("java/util/ArrayList", yJx4a65c_elementData_915e3, cJx4a65c_elementData_915e3, 2, (some (.object "java/lang/Object")))
def mA_touches : MI := ("StockYard$Alley", yX0_touches, cX0_touches, 2, (some .boolean))
def mA_otherEnd : MI := ("StockYard$Alley", yX0_otherEnd, cX0_otherEnd, 2, (some .int))
def mW_add : MI := ("StockYard$Way", yX9_add, cX9_add, 3, none)
def mS_by : MI := ("StockYard", yX11_by, cX11_by, 4, (some .int))
def mW_alleyAt : MI := ("StockYard$Way", yX9_alleyAt, cX9_alleyAt, 2, (some .int))
def mS_lot : MI := ("StockYard", yX11_lot, cX11_lot, 7, (some .int))
def mS_tellsOwner : MI := ("StockYard", yX11_tellsOwner, cX11_tellsOwner, 1, (some .boolean))
def mS_isOwner : MI := ("StockYard", yX11_isOwner, cX11_isOwner, 1, (some .boolean))
def mY_kindOf : MI := ("StockYard$Yard", yX10_kindOf, cX10_kindOf, 2, (some .int))
def mS_tellsHeads : MI := ("StockYard", yX11_tellsHeads, cX11_tellsHeads, 1, (some .boolean))
def mS_isMark : MI := ("StockYard", yX11_isMark, cX11_isMark, 1, (some .boolean))
def mS_hasLot : MI := ("StockYard", yX11_hasLot, cX11_hasLot, 3, (some .boolean))
def mO_init : MI := ("StockYard$Lot", yX1_init, cX1_init, 8, none)
def mE_init : MI := ("StockYard$Sale", yX7_init, cX7_init, 1, none)
def mS_admit : MI := ("StockYard", yX11_admit, cX11_admit, 2, (some .int))
def mS_sort : MI := ("StockYard", yX11_sort, cX11_sort, 7, (some .int))
def mS_lotAt : MI := ("StockYard", yX11_lotAt, cX11_lotAt, 2, (some (.object "StockYard$Lot")))
def mS_isIn : MI := ("StockYard", yX11_isIn, cX11_isIn, 3, (some .boolean))
def mS_look : MI := ("StockYard", yX11_look, cX11_look, 4, (some .int))
def mO_thirst : MI := ("StockYard$Lot", yX1_thirst, cX1_thirst, 2, (some .int))
def mB_isDry : MI := ("StockYard$RuleBook", yX6_isDry, cX6_isDry, 3, (some .boolean))
def mB_saying : MI := ("StockYard$RuleBook", yX6_saying, cX6_saying, 7, (some .int))
def mU_appliesTo : MI := ("StockYard$Rule", yX5_appliesTo, cX5_appliesTo, 5, (some .boolean))
def mU_isMet : MI := ("StockYard$Rule", yX5_isMet, cX5_isMet, 7, (some .boolean))
def mU_valueOf : MI := ("StockYard$Rule", yX5_valueOf, cX5_valueOf, 4, (some .int))
def mS_isInDoubt : MI := ("StockYard", yX11_isInDoubt, cX11_isInDoubt, 2, (some .boolean))
def mK_doubt : MI := ("StockYard$MarkBook", yX2_doubt, cX2_doubt, 4, (some .boolean))
def mK_ownerOf : MI := ("StockYard$MarkBook", yX2_ownerOf, cX2_ownerOf, 3, (some .int))
def mK_areNear : MI := ("StockYard$MarkBook", yX2_areNear, cX2_areNear, 6, (some .boolean))
def mS_drive : MI := ("StockYard", yX11_drive, cX11_drive, 5, (some .int))
def mS_mayBeDriven : MI := ("StockYard", yX11_mayBeDriven, cX11_mayBeDriven, 2, (some .boolean))
def mO_isOnWay : MI := ("StockYard$Lot", yX1_isOnWay, cX1_isOnWay, 1, (some .boolean))
def mY_firstFree : MI := ("StockYard$Yard", yX10_firstFree, cX10_firstFree, 6, (some .int))
def mY_putOff : MI := ("StockYard$Yard", yX10_putOff, cX10_putOff, 6, (some .int))
def mW_aheadOf : MI := ("StockYard$Way", yX9_aheadOf, cX9_aheadOf, 2, (some .int))
def mA_freeFrom : MI := ("StockYard$Alley", yX0_freeFrom, cX0_freeFrom, 5, (some .int))
def mA_meets : MI := ("StockYard$Alley", yX0_meets, cX0_meets, 3, (some .int))
def mY_take : MI := ("StockYard$Yard", yX10_take, cX10_take, 5, none)
def mA_take : MI := ("StockYard$Alley", yX0_take, cX0_take, 2, none)
def mO_leave : MI := ("StockYard$Lot", yX1_leave, cX1_leave, 3, none)
def mS_water : MI := ("StockYard", yX11_water, cX11_water, 4, (some .int))
def mS_hold : MI := ("StockYard", yX11_hold, cX11_hold, 5, (some .int))
def mE_isSold : MI := ("StockYard$Sale", yX7_isSold, cX7_isSold, 1, (some .boolean))
def mS_plan : MI := ("StockYard", yX11_plan, cX11_plan, 4, (some .int))
def mS_arePens : MI := ("StockYard", yX11_arePens, cX11_arePens, 3, (some .boolean))
def mS_inSet : MI := ("StockYard", yX11_inSet, cX11_inSet, 2, (some .boolean))
def mJi_bitCount : MI := ("java/lang/Integer", yJ6_bitCount_0f7a4, cJ6_bitCount_0f7a4, 1, (some .int))
def mS_mayAllBeDriven : MI := ("StockYard", yX11_mayAllBeDriven, cX11_mayAllBeDriven, 3, (some .boolean))
def mS_hasLotInOne : MI := ("StockYard", yX11_hasLotInOne, cX11_hasLotInOne, 3, (some .boolean))
def mS_readyPlanner : MI := ("StockYard", yX11_readyPlanner, cX11_readyPlanner, 4, none)
def mP_clear : MI := ("StockYard$Planner", yX3_clear, cX3_clear, 1, none)
def mP_addPen : MI := ("StockYard$Planner", yX3_addPen, cX3_addPen, 2, none)
def mP_addLot : MI := ("StockYard$Planner", yX3_addLot, cX3_addLot, 4, none)
def mP_search : MI := ("StockYard$Planner", yX3_search, cX3_search, 2, (some .boolean))
def mP_tell : MI := ("StockYard$Planner", yX3_tell, cX3_tell, 5, none)
def mP_keep : MI := ("StockYard$Planner", yX3_keep, cX3_keep, 3, none)
def mP_tellOne : MI := ("StockYard$Planner", yX3_tellOne, cX3_tellOne, 8, none)
def mY_giveBack : MI := ("StockYard$Yard", yX10_giveBack, cX10_giveBack, 4, none)
def mA_giveBack : MI := ("StockYard$Alley", yX0_giveBack, cX0_giveBack, 1, none)
def mS_planned : MI := ("StockYard", yX11_planned, cX11_planned, 3, (some .int))
def mP_plannedLot : MI := ("StockYard$Planner", yX3_plannedLot, cX3_plannedLot, 2, (some .int))
def mP_plannedPen : MI := ("StockYard$Planner", yX3_plannedPen, cX3_plannedPen, 2, (some .int))
def mS_feed : MI := ("StockYard", yX11_feed, cX11_feed, 4, (some .int))
def mT_add : MI := ("StockYard$Tape", yX8_add, cX8_add, 2, none)
def mS_wipe : MI := ("StockYard", yX11_wipe, cX11_wipe, 2, (some .int))
def mS_rule : MI := ("StockYard", yX11_rule, cX11_rule, 4, (some .int))
def mU_init : MI := ("StockYard$Rule", yX5_init, cX5_init, 3, none)
def mT_readRule : MI := ("StockYard$Tape", yX8_readRule, cX8_readRule, 2, (some .boolean))
def mT_readWord : MI := ("StockYard$Tape", yX8_readWord, cX8_readWord, 5, (some .int))
def mT_keyName : MI := ("StockYard$Tape", yX8_keyName, cX8_keyName, 1, (some (.object "java/lang/String")))
def mT_fieldName : MI := ("StockYard$Tape", yX8_fieldName, cX8_fieldName, 1, (some (.object "java/lang/String")))
def mJs_charAt : MI := ("java/lang/String", yJ0_charAt_5068e, cJ0_charAt_5068e, 2, (some .char))
def mJs_isLatin1 : MI := ("java/lang/String", yJ0_isLatin1_aae02, cJ0_isLatin1_aae02, 1, (some .boolean))
def mJl_charAt : MI := ("java/lang/StringLatin1", yJ1_charAt_3b067, cJ1_charAt_3b067, 2, (some .char))
def mJs_checkIndex : MI := ("java/lang/String", yJ0_checkIndex_df160, cJ0_checkIndex_df160, 2, none)
def mJu_charAt : MI := ("java/lang/StringUTF16", yJ2_charAt_3b067, cJ2_charAt_3b067, 2, (some .char))
def mJu_checkIndex : MI := ("java/lang/StringUTF16", yJ2_checkIndex_2214a, cJ2_checkIndex_2214a, 2, none)
def mJu_length : MI := ("java/lang/StringUTF16", yJ2_length_9d52b, cJ2_length_9d52b, 1, (some .int))
def mJu_getChar : MI := ("java/lang/StringUTF16", yJ2_getChar_3b067, cJ2_getChar_3b067, 2, (some .char))
def mT_readText : MI := ("StockYard$Tape", yX8_readText, cX8_readText, 3, (some .boolean))
def mJs_length : MI := ("java/lang/String", yJ0_length_8abf5, cJ0_length_8abf5, 1, (some .int))
def mJs_coder : MI := ("java/lang/String", yJ0_coder_7d493, cJ0_coder_7d493, 1, (some .byte))
def mT_readSign : MI := ("StockYard$Tape", yX8_readSign, cX8_readSign, 2, (some .boolean))
def mT_readNumber : MI := ("StockYard$Tape", yX8_readNumber, cX8_readNumber, 3, (some .int))
def mT_readTests : MI := ("StockYard$Tape", yX8_readTests, cX8_readTests, 3, (some .boolean))
def mT_readTest : MI := ("StockYard$Tape", yX8_readTest, cX8_readTest, 6, (some .boolean))
def mU_addTest : MI := ("StockYard$Rule", yX5_addTest, cX5_addTest, 5, none)
def mS_holds : MI := ("StockYard", yX11_holds, cX11_holds, 5, (some .int))
def mS_said : MI := ("StockYard", yX11_said, cX11_said, 4, (some .int))
def mS_see : MI := ("StockYard", yX11_see, cX11_see, 4, (some .int))
def mS_isBuyer : MI := ("StockYard", yX11_isBuyer, cX11_isBuyer, 1, (some .boolean))
def mE_wasSeenBy : MI := ("StockYard$Sale", yX7_wasSeenBy, cX7_wasSeenBy, 2, (some .boolean))
def mE_show : MI := ("StockYard$Sale", yX7_show, cX7_show, 2, none)
def mS_bid : MI := ("StockYard", yX11_bid, cX11_bid, 5, (some .int))
def mB_bars : MI := ("StockYard$RuleBook", yX6_bars, cX6_bars, 6, (some .boolean))
def mE_offer : MI := ("StockYard$Sale", yX7_offer, cX7_offer, 3, none)
def mE_offers : MI := ("StockYard$Sale", yX7_offers, cX7_offers, 3, (some .int))
def mS_sell : MI := ("StockYard", yX11_sell, cX11_sell, 3, (some .int))
def mE_close : MI := ("StockYard$Sale", yX7_close, cX7_close, 4, none)
def mS_weigh : MI := ("StockYard", yX11_weigh, cX11_weigh, 5, (some .int))
def mS_weightOf : MI := ("StockYard", yX11_weightOf, cX11_weightOf, 4, (some .int))
def mY_offOf : MI := ("StockYard$Yard", yX10_offOf, cX10_offOf, 2, (some .int))
def mE_pay : MI := ("StockYard$Sale", yX7_pay, cX7_pay, 4, none)
def mE_moneyFor : MI := ("StockYard$Sale", yX7_moneyFor, cX7_moneyFor, 2, (some .int))
def mS_off : MI := ("StockYard", yX11_off, cX11_off, 4, (some .int))
def mY_setOff : MI := ("StockYard$Yard", yX10_setOff, cX10_setOff, 3, none)
def mS_test : MI := ("StockYard", yX11_test, cX11_test, 3, (some .int))
def mS_settle : MI := ("StockYard", yX11_settle, cX11_settle, 6, (some .int))
def mE_correct : MI := ("StockYard$Sale", yX7_correct, cX7_correct, 2, none)
def mS_account : MI := ("StockYard", yX11_account, cX11_account, 6, (some .long))
def mS_write : MI := ("StockYard", yX11_write, cX11_write, 3, (some .int))
def mK_add : MI := ("StockYard$MarkBook", yX2_add, cX2_add, 3, none)
def mS_whose : MI := ("StockYard", yX11_whose, cX11_whose, 2, (some .int))
def mS_near : MI := ("StockYard", yX11_near, cX11_near, 2, (some .int))
def mK_countNear : MI := ("StockYard$MarkBook", yX2_countNear, cX2_countNear, 4, (some .int))
def mS_judge : MI := ("StockYard", yX11_judge, cX11_judge, 5, (some .int))
def mS_run : MI := ("StockYard", yX11_run, cX11_run, 4, (some .int))
def mY_forgetBefore : MI := ("StockYard$Yard", yX10_forgetBefore, cX10_forgetBefore, 3, none)
def mA_forgetBefore : MI := ("StockYard$Alley", yX0_forgetBefore, cX0_forgetBefore, 4, none)
def mO_arrive : MI := ("StockYard$Lot", yX1_arrive, cX1_arrive, 2, (some .boolean))
def mS_count : MI := ("StockYard", yX11_count, cX11_count, 2, (some .int))
def mS_lotsOnWay : MI := ("StockYard", yX11_lotsOnWay, cX11_lotsOnWay, 3, (some .int))
def mS_dryLots : MI := ("StockYard", yX11_dryLots, cX11_dryLots, 3, (some .int))
def mS_soldLots : MI := ("StockYard", yX11_soldLots, cX11_soldLots, 3, (some .int))
def mS_headsAtHooks : MI := ("StockYard", yX11_headsAtHooks, cX11_headsAtHooks, 3, (some .int))
def mS_lay : MI := ("StockYard", yX11_lay, cX11_lay, 2, (some .int))
def mR_begin : MI := ("StockYard$Row", yX4_begin, cX4_begin, 3, none)
def mR_addAt : MI := ("StockYard$Row", yX4_addAt, cX4_addAt, 3, none)
def mS_tear : MI := ("StockYard", yX11_tear, cX11_tear, 2, (some .int))
def mS_row : MI := ("StockYard", yX11_row, cX11_row, 2, (some .int))
def mR_at : MI := ("StockYard$Row", yX4_at, cX4_at, 2, (some .int))
def mS_copy : MI := ("StockYard", yX11_copy, cX11_copy, 4, (some .int))
def mR_spans : MI := ("StockYard$Row", yX4_spans, cX4_spans, 3, (some .boolean))
def mR_move : MI := ("StockYard$Row", yX4_move, cX4_move, 4, none)
def mS_status : MI := ("StockYard", yX11_status, cX11_status, 2, (some .int))
def mM_init : MI := ("StockYardModel", yX12_init, cX12_init, 1, none)
def mM_status : MI := ("StockYardModel", yX12_status, cX12_status, 2, (some .int))
def mM_in : MI := ("StockYardModel", yX12_in, cX12_in, 3, (some .boolean))
def mM_refused : MI := ("StockYardModel", yX12_refused, cX12_refused, 2, (some .int))
def mM_place : MI := ("StockYardModel", yX12_place, cX12_place, 2, (some .int))
def mM_alley : MI := ("StockYardModel", yX12_alley, cX12_alley, 4, (some .int))
def mM_isPlace : MI := ("StockYardModel", yX12_isPlace, cX12_isPlace, 2, (some .boolean))
def mM_way : MI := ("StockYardModel", yX12_way, cX12_way, 3, (some .int))
def mM_walk : MI := ("StockYardModel", yX12_walk, cX12_walk, 6, (some .int))
def mM_other : MI := ("StockYardModel", yX12_other, cX12_other, 3, (some .int))
def mM_by : MI := ("StockYardModel", yX12_by, cX12_by, 4, (some .int))
def mM_lot : MI := ("StockYardModel", yX12_lot, cX12_lot, 6, (some .int))
def mM_isMark : MI := ("StockYardModel", yX12_isMark, cX12_isMark, 1, (some .boolean))
def mM_isTaken : MI := ("StockYardModel", yX12_isTaken, cX12_isTaken, 4, (some .boolean))
def mM_comes : MI := ("StockYardModel", yX12_comes, cX12_comes, 9, (some .int))
def mM_sort : MI := ("StockYardModel", yX12_sort, cX12_sort, 6, (some .int))
def mM_isLot : MI := ("StockYardModel", yX12_isLot, cX12_isLot, 2, (some .boolean))
def mM_isInPen : MI := ("StockYardModel", yX12_isInPen, cX12_isInPen, 2, (some .boolean))
def mM_look : MI := ("StockYardModel", yX12_look, cX12_look, 3, (some .int))
def mM_thirst : MI := ("StockYardModel", yX12_thirst, cX12_thirst, 2, (some .int))
def mM_isDry : MI := ("StockYardModel", yX12_isDry, cX12_isDry, 2, (some .boolean))
def mM_saidBy : MI := ("StockYardModel", yX12_saidBy, cX12_saidBy, 5, (some .int))
def mM_holdsFor : MI := ("StockYardModel", yX12_holdsFor, cX12_holdsFor, 6, (some .boolean))
def mM_isSo : MI := ("StockYardModel", yX12_isSo, cX12_isSo, 5, (some .boolean))
def mM_valueOf : MI := ("StockYardModel", yX12_valueOf, cX12_valueOf, 4, (some .int))
def mM_isInDoubt : MI := ("StockYardModel", yX12_isInDoubt, cX12_isInDoubt, 5, (some .boolean))
def mM_find : MI := ("StockYardModel", yX12_find, cX12_find, 3, (some .int))
def mM_isNear : MI := ("StockYardModel", yX12_isNear, cX12_isNear, 6, (some .boolean))
def mM_drive : MI := ("StockYardModel", yX12_drive, cX12_drive, 3, (some .int))
def mM_goes : MI := ("StockYardModel", yX12_goes, cX12_goes, 3, (some .int))
def mM_mayBegin : MI := ("StockYardModel", yX12_mayBegin, cX12_mayBegin, 4, (some .boolean))
def mM_isFree : MI := ("StockYardModel", yX12_isFree, cX12_isFree, 6, (some .boolean))
def mM_water : MI := ("StockYardModel", yX12_water, cX12_water, 3, (some .int))
def mM_hold : MI := ("StockYardModel", yX12_hold, cX12_hold, 4, (some .int))
def mM_plan : MI := ("StockYardModel", yX12_plan, cX12_plan, 5, (some .int))
def mM_bits : MI := ("StockYardModel", yX12_bits, cX12_bits, 3, (some .int))
def mM_tries : MI := ("StockYardModel", yX12_tries, cX12_tries, 9, none)
def mM_planned : MI := ("StockYardModel", yX12_planned, cX12_planned, 3, (some .int))
def mM_feed : MI := ("StockYardModel", yX12_feed, cX12_feed, 4, (some .int))
def mM_wipe : MI := ("StockYardModel", yX12_wipe, cX12_wipe, 2, (some .int))
def mM_rule : MI := ("StockYardModel", yX12_rule, cX12_rule, 3, (some .int))
def mM_readRule : MI := ("StockYardModel", yX12_readRule, cX12_readRule, 1, none)
def mM_keyHere : MI := ("StockYardModel", yX12_keyHere, cX12_keyHere, 1, (some .int))
def mM_here : MI := ("StockYardModel", yX12_here, cX12_here, 1, (some .int))
def mM_named : MI := ("StockYardModel", yX12_named, cX12_named, 6, (some .long))
def mM_letters : MI := ("StockYardModel", yX12_letters, cX12_letters, 5, none)
def mM_one : MI := ("StockYardModel", yX12_one, cX12_one, 2, none)
def mM_numberHere : MI := ("StockYardModel", yX12_numberHere, cX12_numberHere, 3, (some .int))
def mM_testHere : MI := ("StockYardModel", yX12_testHere, cX12_testHere, 2, none)
def mM_fieldHere : MI := ("StockYardModel", yX12_fieldHere, cX12_fieldHere, 1, (some .int))
def mM_holds : MI := ("StockYardModel", yX12_holds, cX12_holds, 4, (some .int))
def mM_said : MI := ("StockYardModel", yX12_said, cX12_said, 3, (some .int))
def mM_see : MI := ("StockYardModel", yX12_see, cX12_see, 4, (some .int))
def mM_isBuyer : MI := ("StockYardModel", yX12_isBuyer, cX12_isBuyer, 1, (some .boolean))
def mM_bid : MI := ("StockYardModel", yX12_bid, cX12_bid, 7, (some .int))
def mM_isBarred : MI := ("StockYardModel", yX12_isBarred, cX12_isBarred, 5, (some .boolean))
def mM_sell : MI := ("StockYardModel", yX12_sell, cX12_sell, 4, (some .int))
def mM_weigh : MI := ("StockYardModel", yX12_weigh, cX12_weigh, 4, (some .int))
def mM_moneyFor : MI := ("StockYardModel", yX12_moneyFor, cX12_moneyFor, 3, (some .int))
def mM_off : MI := ("StockYardModel", yX12_off, cX12_off, 6, (some .int))
def mM_noScale : MI := ("StockYardModel", yX12_noScale, cX12_noScale, 3, (some .int))
def mM_test : MI := ("StockYardModel", yX12_test, cX12_test, 6, (some .int))
def mM_account : MI := ("StockYardModel", yX12_account, cX12_account, 5, (some .long))
def mM_write : MI := ("StockYardModel", yX12_write, cX12_write, 3, (some .int))
def mM_whose : MI := ("StockYardModel", yX12_whose, cX12_whose, 3, (some .int))
def mM_near : MI := ("StockYardModel", yX12_near, cX12_near, 4, (some .int))
def mM_judge : MI := ("StockYardModel", yX12_judge, cX12_judge, 4, (some .int))
def mM_run : MI := ("StockYardModel", yX12_run, cX12_run, 4, (some .int))
def mM_forget : MI := ("StockYardModel", yX12_forget, cX12_forget, 3, none)
def mM_count : MI := ("StockYardModel", yX12_count, cX12_count, 4, (some .int))
def mM_lay : MI := ("StockYardModel", yX12_lay, cX12_lay, 3, (some .int))
def mM_tear : MI := ("StockYardModel", yX12_tear, cX12_tear, 2, (some .int))
def mM_row : MI := ("StockYardModel", yX12_row, cX12_row, 2, (some .int))
def mM_copy : MI := ("StockYardModel", yX12_copy, cX12_copy, 5, (some .int))
theorem pv1 {q : MethodName × Nat} {i : Nat} (h : lw_privs_1[i]? = some q) : q ∈ lw_privs := (List.mem_append_left _ (List.mem_of_getElem? h))
theorem hP1 {y : MethodName} {i : Nat} (h : (lw_privs_1[i]?).map (fun q => q.1) = some y) : Cond.selects y.cls y y ∈ lw_tbl := by
  cases hq : lw_privs_1[i]? with
  | none => rw [hq] at h; cases h
  | some q => rw [hq] at h; cases h; exact List.mem_append_left _ (List.mem_map.mpr ⟨q, pv1 hq, rfl⟩)
theorem gP1 {y : MethodName} {i : Nat} (h : (lw_privs_1[i]?).map (fun q => q.1) = some y) (hg : goodWord (Cond.selects y.cls y y) = true) : Cond.selects y.cls y y ∈ goodT := List.mem_filter.mpr ⟨hP1 h, hg⟩
theorem pv2 {q : MethodName × Nat} {i : Nat} (h : lw_privs_2[i]? = some q) : q ∈ lw_privs := (List.mem_append_right _ (List.mem_append_left _ (List.mem_of_getElem? h)))
theorem hP2 {y : MethodName} {i : Nat} (h : (lw_privs_2[i]?).map (fun q => q.1) = some y) : Cond.selects y.cls y y ∈ lw_tbl := by
  cases hq : lw_privs_2[i]? with
  | none => rw [hq] at h; cases h
  | some q => rw [hq] at h; cases h; exact List.mem_append_left _ (List.mem_map.mpr ⟨q, pv2 hq, rfl⟩)
theorem gP2 {y : MethodName} {i : Nat} (h : (lw_privs_2[i]?).map (fun q => q.1) = some y) (hg : goodWord (Cond.selects y.cls y y) = true) : Cond.selects y.cls y y ∈ goodT := List.mem_filter.mpr ⟨hP2 h, hg⟩
theorem pv3 {q : MethodName × Nat} {i : Nat} (h : lw_privs_3[i]? = some q) : q ∈ lw_privs := (List.mem_append_right _ (List.mem_append_right _ (List.mem_append_left _ (List.mem_of_getElem? h))))
theorem hP3 {y : MethodName} {i : Nat} (h : (lw_privs_3[i]?).map (fun q => q.1) = some y) : Cond.selects y.cls y y ∈ lw_tbl := by
  cases hq : lw_privs_3[i]? with
  | none => rw [hq] at h; cases h
  | some q => rw [hq] at h; cases h; exact List.mem_append_left _ (List.mem_map.mpr ⟨q, pv3 hq, rfl⟩)
theorem gP3 {y : MethodName} {i : Nat} (h : (lw_privs_3[i]?).map (fun q => q.1) = some y) (hg : goodWord (Cond.selects y.cls y y) = true) : Cond.selects y.cls y y ∈ goodT := List.mem_filter.mpr ⟨hP3 h, hg⟩
theorem pv4 {q : MethodName × Nat} {i : Nat} (h : lw_privs_4[i]? = some q) : q ∈ lw_privs := (List.mem_append_right _ (List.mem_append_right _ (List.mem_append_right _ (List.mem_append_left _ (List.mem_of_getElem? h)))))
theorem hP4 {y : MethodName} {i : Nat} (h : (lw_privs_4[i]?).map (fun q => q.1) = some y) : Cond.selects y.cls y y ∈ lw_tbl := by
  cases hq : lw_privs_4[i]? with
  | none => rw [hq] at h; cases h
  | some q => rw [hq] at h; cases h; exact List.mem_append_left _ (List.mem_map.mpr ⟨q, pv4 hq, rfl⟩)
theorem gP4 {y : MethodName} {i : Nat} (h : (lw_privs_4[i]?).map (fun q => q.1) = some y) (hg : goodWord (Cond.selects y.cls y y) = true) : Cond.selects y.cls y y ∈ goodT := List.mem_filter.mpr ⟨hP4 h, hg⟩
theorem pv5 {q : MethodName × Nat} {i : Nat} (h : lw_privs_5[i]? = some q) : q ∈ lw_privs := (List.mem_append_right _ (List.mem_append_right _ (List.mem_append_right _ (List.mem_append_right _ (List.mem_of_getElem? h)))))
theorem hP5 {y : MethodName} {i : Nat} (h : (lw_privs_5[i]?).map (fun q => q.1) = some y) : Cond.selects y.cls y y ∈ lw_tbl := by
  cases hq : lw_privs_5[i]? with
  | none => rw [hq] at h; cases h
  | some q => rw [hq] at h; cases h; exact List.mem_append_left _ (List.mem_map.mpr ⟨q, pv5 hq, rfl⟩)
theorem gP5 {y : MethodName} {i : Nat} (h : (lw_privs_5[i]?).map (fun q => q.1) = some y) (hg : goodWord (Cond.selects y.cls y y) = true) : Cond.selects y.cls y y ∈ goodT := List.mem_filter.mpr ⟨hP5 h, hg⟩
theorem hQ1 {w : Cond} {i : Nat} (h : tables_1_1[i]? = some w) : w ∈ lw_tbl := List.mem_append_right _ (List.mem_append_left _ (List.mem_of_getElem? h))
theorem gQ1 {w : Cond} {i : Nat} (h : tables_1_1[i]? = some w) (hg : goodWord w = true) : w ∈ goodT := List.mem_filter.mpr ⟨hQ1 h, hg⟩
theorem hQ2 {w : Cond} {i : Nat} (h : tables_1_2[i]? = some w) : w ∈ lw_tbl := List.mem_append_right _ (List.mem_append_right _ (List.mem_append_left _ (List.mem_of_getElem? h)))
theorem gQ2 {w : Cond} {i : Nat} (h : tables_1_2[i]? = some w) (hg : goodWord w = true) : w ∈ goodT := List.mem_filter.mpr ⟨hQ2 h, hg⟩
theorem hQ3 {w : Cond} {i : Nat} (h : tables_1_3[i]? = some w) : w ∈ lw_tbl := List.mem_append_right _ (List.mem_append_right _ (List.mem_append_right _ (List.mem_append_left _ (List.mem_of_getElem? h))))
theorem gQ3 {w : Cond} {i : Nat} (h : tables_1_3[i]? = some w) (hg : goodWord w = true) : w ∈ goodT := List.mem_filter.mpr ⟨hQ3 h, hg⟩
theorem hQ4 {w : Cond} {i : Nat} (h : tables_1_4[i]? = some w) : w ∈ lw_tbl := List.mem_append_right _ (List.mem_append_right _ (List.mem_append_right _ (List.mem_append_right _ (List.mem_append_left _ (List.mem_of_getElem? h)))))
theorem gQ4 {w : Cond} {i : Nat} (h : tables_1_4[i]? = some w) (hg : goodWord w = true) : w ∈ goodT := List.mem_filter.mpr ⟨hQ4 h, hg⟩
theorem hQ5 {w : Cond} {i : Nat} (h : tables_1_5[i]? = some w) : w ∈ lw_tbl := List.mem_append_right _ (List.mem_append_right _ (List.mem_append_right _ (List.mem_append_right _ (List.mem_append_right _ (List.mem_append_left _ (List.mem_of_getElem? h))))))
theorem gQ5 {w : Cond} {i : Nat} (h : tables_1_5[i]? = some w) (hg : goodWord w = true) : w ∈ goodT := List.mem_filter.mpr ⟨hQ5 h, hg⟩
theorem hQ6 {w : Cond} {i : Nat} (h : tables_1_6[i]? = some w) : w ∈ lw_tbl := List.mem_append_right _ (List.mem_append_right _ (List.mem_append_right _ (List.mem_append_right _ (List.mem_append_right _ (List.mem_append_right _ (List.mem_append_left _ (List.mem_of_getElem? h)))))))
theorem gQ6 {w : Cond} {i : Nat} (h : tables_1_6[i]? = some w) (hg : goodWord w = true) : w ∈ goodT := List.mem_filter.mpr ⟨hQ6 h, hg⟩
theorem hQ7 {w : Cond} {i : Nat} (h : tables_1_7[i]? = some w) : w ∈ lw_tbl := List.mem_append_right _ (List.mem_append_right _ (List.mem_append_right _ (List.mem_append_right _ (List.mem_append_right _ (List.mem_append_right _ (List.mem_append_right _ (List.mem_of_getElem? h)))))))
theorem gQ7 {w : Cond} {i : Nat} (h : tables_1_7[i]? = some w) (hg : goodWord w = true) : w ∈ goodT := List.mem_filter.mpr ⟨hQ7 h, hg⟩
end
section
/-! the constants of the classes -/
def flM : List (Nat × (Nat × Nat)) := [(7, 13, 1), (200, 13, 2), (173, 13, 3), (13, 13, 4), (16, 13, 5), (180, 13, 6), (19, 13, 7), (22, 13, 8), (25, 13, 9), (28, 13, 10), (31, 13, 11), (184, 13, 12), (194, 13, 13), (34, 13, 14), (37, 13, 15), (40, 13, 16), (206, 13, 17), (43, 13, 18), (46, 13, 19), (49, 13, 20), (52, 13, 21), (55, 13, 22), (58, 13, 23), (61, 13, 24), (64, 13, 25), (67, 13, 26), (70, 13, 27), (74, 13, 28), (77, 13, 29), (80, 13, 30), (83, 13, 31), (86, 13, 32), (89, 13, 33), (92, 13, 34), (95, 13, 35), (98, 13, 36), (101, 13, 37), (321, 13, 38), (104, 13, 39), (240, 13, 40), (107, 13, 41), (110, 13, 42), (113, 13, 43), (116, 13, 44), (237, 13, 46), (119, 13, 47), (288, 13, 48), (123, 13, 49), (126, 13, 50), (129, 13, 51), (132, 13, 52), (135, 13, 53), (138, 13, 54), (141, 13, 55), (144, 13, 56), (147, 13, 57), (250, 13, 58), (150, 13, 59), (279, 13, 60), (253, 13, 61), (256, 13, 62), (332, 13, 63), (153, 13, 64), (156, 13, 65), (344, 13, 66), (347, 13, 67), (159, 13, 68)]
def mlM : List (Nat × Cal) := [(165, mM_in, 3, 1), (169, mM_refused, 1, 0), (176, mM_isPlace, 1, 0), (191, mM_walk, 2, 0), (187, mM_other, 2, 0), (209, mM_isMark, 1, 1), (212, mM_isTaken, 1, 0), (215, mM_comes, 7, 0), (218, mM_isLot, 1, 0), (221, mM_isInPen, 1, 0), (224, mM_thirst, 1, 0), (227, mM_isDry, 1, 0), (311, mM_saidBy, 3, 0), (308, mM_holdsFor, 3, 0), (305, mM_isSo, 3, 0), (301, mM_valueOf, 3, 0), (230, mM_isInDoubt, 1, 0), (335, mM_find, 1, 0), (338, mM_isNear, 2, 1), (233, mM_goes, 0, 0), (203, mM_mayBegin, 1, 0), (197, mM_isFree, 3, 0), (247, mM_bits, 1, 1), (243, mM_tries, 4, 0), (298, mM_readRule, 0, 0), (291, mM_keyHere, 0, 0), (260, mM_here, 0, 0), (271, mM_named, 6, 1), (275, mM_letters, 1, 0), (265, mM_one, 1, 0), (285, mM_numberHere, 0, 0), (294, mM_testHere, 0, 0), (282, mM_fieldHere, 0, 0), (314, mM_isBuyer, 1, 1), (317, mM_isBarred, 2, 0), (326, mM_moneyFor, 2, 0), (329, mM_noScale, 2, 0), (341, mM_forget, 0, 0)]
def klM : List (Nat × AV) := [(183, .inl 1000000), (297, .inl 100000), (269, .inr (.inl 32)), (263, .inr (.inl 31)), (324, .inr (.inl 100))]
def tlM : List (Nat × Nat) := []
def cenM : CE := (alk flM, alk mlM, alk klM, alk tlM)
theorem kfM_7 : fldOk "StockYardModel" 7 13 1 := ⟨by decide, by decide, "StockYardModel", (gQ5 (i := 170) (by decide +kernel) rfl), Or.inl rfl⟩
theorem kfM_200 : fldOk "StockYardModel" 200 13 2 := ⟨by decide, by decide, "StockYardModel", (gQ5 (i := 171) (by decide +kernel) rfl), Or.inl rfl⟩
theorem kfM_173 : fldOk "StockYardModel" 173 13 3 := ⟨by decide, by decide, "StockYardModel", (gQ5 (i := 172) (by decide +kernel) rfl), Or.inl rfl⟩
theorem kfM_13 : fldOk "StockYardModel" 13 13 4 := ⟨by decide, by decide, "StockYardModel", (gQ5 (i := 173) (by decide +kernel) rfl), Or.inl rfl⟩
theorem kfM_16 : fldOk "StockYardModel" 16 13 5 := ⟨by decide, by decide, "StockYardModel", (gQ5 (i := 174) (by decide +kernel) rfl), Or.inl rfl⟩
theorem kfM_180 : fldOk "StockYardModel" 180 13 6 := ⟨by decide, by decide, "StockYardModel", (gQ5 (i := 175) (by decide +kernel) rfl), Or.inl rfl⟩
theorem kfM_19 : fldOk "StockYardModel" 19 13 7 := ⟨by decide, by decide, "StockYardModel", (gQ5 (i := 176) (by decide +kernel) rfl), Or.inl rfl⟩
theorem kfM_22 : fldOk "StockYardModel" 22 13 8 := ⟨by decide, by decide, "StockYardModel", (gQ5 (i := 177) (by decide +kernel) rfl), Or.inl rfl⟩
theorem kfM_25 : fldOk "StockYardModel" 25 13 9 := ⟨by decide, by decide, "StockYardModel", (gQ5 (i := 178) (by decide +kernel) rfl), Or.inl rfl⟩
theorem kfM_28 : fldOk "StockYardModel" 28 13 10 := ⟨by decide, by decide, "StockYardModel", (gQ5 (i := 179) (by decide +kernel) rfl), Or.inl rfl⟩
theorem kfM_31 : fldOk "StockYardModel" 31 13 11 := ⟨by decide, by decide, "StockYardModel", (gQ5 (i := 180) (by decide +kernel) rfl), Or.inl rfl⟩
theorem kfM_184 : fldOk "StockYardModel" 184 13 12 := ⟨by decide, by decide, "StockYardModel", (gQ5 (i := 181) (by decide +kernel) rfl), Or.inl rfl⟩
theorem kfM_194 : fldOk "StockYardModel" 194 13 13 := ⟨by decide, by decide, "StockYardModel", (gQ5 (i := 182) (by decide +kernel) rfl), Or.inl rfl⟩
theorem kfM_34 : fldOk "StockYardModel" 34 13 14 := ⟨by decide, by decide, "StockYardModel", (gQ5 (i := 183) (by decide +kernel) rfl), Or.inl rfl⟩
theorem kfM_37 : fldOk "StockYardModel" 37 13 15 := ⟨by decide, by decide, "StockYardModel", (gQ5 (i := 184) (by decide +kernel) rfl), Or.inl rfl⟩
theorem kfM_40 : fldOk "StockYardModel" 40 13 16 := ⟨by decide, by decide, "StockYardModel", (gQ5 (i := 185) (by decide +kernel) rfl), Or.inl rfl⟩
theorem kfM_206 : fldOk "StockYardModel" 206 13 17 := ⟨by decide, by decide, "StockYardModel", (gQ5 (i := 186) (by decide +kernel) rfl), Or.inl rfl⟩
theorem kfM_43 : fldOk "StockYardModel" 43 13 18 := ⟨by decide, by decide, "StockYardModel", (gQ5 (i := 187) (by decide +kernel) rfl), Or.inl rfl⟩
theorem kfM_46 : fldOk "StockYardModel" 46 13 19 := ⟨by decide, by decide, "StockYardModel", (gQ5 (i := 188) (by decide +kernel) rfl), Or.inl rfl⟩
theorem kfM_49 : fldOk "StockYardModel" 49 13 20 := ⟨by decide, by decide, "StockYardModel", (gQ5 (i := 189) (by decide +kernel) rfl), Or.inl rfl⟩
theorem kfM_52 : fldOk "StockYardModel" 52 13 21 := ⟨by decide, by decide, "StockYardModel", (gQ5 (i := 190) (by decide +kernel) rfl), Or.inl rfl⟩
theorem kfM_55 : fldOk "StockYardModel" 55 13 22 := ⟨by decide, by decide, "StockYardModel", (gQ5 (i := 191) (by decide +kernel) rfl), Or.inl rfl⟩
theorem kfM_58 : fldOk "StockYardModel" 58 13 23 := ⟨by decide, by decide, "StockYardModel", (gQ5 (i := 192) (by decide +kernel) rfl), Or.inl rfl⟩
theorem kfM_61 : fldOk "StockYardModel" 61 13 24 := ⟨by decide, by decide, "StockYardModel", (gQ5 (i := 193) (by decide +kernel) rfl), Or.inl rfl⟩
theorem kfM_64 : fldOk "StockYardModel" 64 13 25 := ⟨by decide, by decide, "StockYardModel", (gQ5 (i := 194) (by decide +kernel) rfl), Or.inl rfl⟩
theorem kfM_67 : fldOk "StockYardModel" 67 13 26 := ⟨by decide, by decide, "StockYardModel", (gQ5 (i := 195) (by decide +kernel) rfl), Or.inl rfl⟩
theorem kfM_70 : fldOk "StockYardModel" 70 13 27 := ⟨by decide, by decide, "StockYardModel", (gQ5 (i := 196) (by decide +kernel) rfl), Or.inl rfl⟩
theorem kfM_74 : fldOk "StockYardModel" 74 13 28 := ⟨by decide, by decide, "StockYardModel", (gQ5 (i := 197) (by decide +kernel) rfl), Or.inl rfl⟩
theorem kfM_77 : fldOk "StockYardModel" 77 13 29 := ⟨by decide, by decide, "StockYardModel", (gQ5 (i := 198) (by decide +kernel) rfl), Or.inl rfl⟩
theorem kfM_80 : fldOk "StockYardModel" 80 13 30 := ⟨by decide, by decide, "StockYardModel", (gQ5 (i := 199) (by decide +kernel) rfl), Or.inl rfl⟩
theorem kfM_83 : fldOk "StockYardModel" 83 13 31 := ⟨by decide, by decide, "StockYardModel", (gQ5 (i := 200) (by decide +kernel) rfl), Or.inl rfl⟩
theorem kfM_86 : fldOk "StockYardModel" 86 13 32 := ⟨by decide, by decide, "StockYardModel", (gQ5 (i := 201) (by decide +kernel) rfl), Or.inl rfl⟩
theorem kfM_89 : fldOk "StockYardModel" 89 13 33 := ⟨by decide, by decide, "StockYardModel", (gQ5 (i := 202) (by decide +kernel) rfl), Or.inl rfl⟩
theorem kfM_92 : fldOk "StockYardModel" 92 13 34 := ⟨by decide, by decide, "StockYardModel", (gQ5 (i := 203) (by decide +kernel) rfl), Or.inl rfl⟩
theorem kfM_95 : fldOk "StockYardModel" 95 13 35 := ⟨by decide, by decide, "StockYardModel", (gQ5 (i := 204) (by decide +kernel) rfl), Or.inl rfl⟩
theorem kfM_98 : fldOk "StockYardModel" 98 13 36 := ⟨by decide, by decide, "StockYardModel", (gQ5 (i := 205) (by decide +kernel) rfl), Or.inl rfl⟩
theorem kfM_101 : fldOk "StockYardModel" 101 13 37 := ⟨by decide, by decide, "StockYardModel", (gQ5 (i := 206) (by decide +kernel) rfl), Or.inl rfl⟩
theorem kfM_321 : fldOk "StockYardModel" 321 13 38 := ⟨by decide, by decide, "StockYardModel", (gQ5 (i := 207) (by decide +kernel) rfl), Or.inl rfl⟩
theorem kfM_104 : fldOk "StockYardModel" 104 13 39 := ⟨by decide, by decide, "StockYardModel", (gQ5 (i := 208) (by decide +kernel) rfl), Or.inl rfl⟩
theorem kfM_240 : fldOk "StockYardModel" 240 13 40 := ⟨by decide, by decide, "StockYardModel", (gQ5 (i := 209) (by decide +kernel) rfl), Or.inl rfl⟩
theorem kfM_107 : fldOk "StockYardModel" 107 13 41 := ⟨by decide, by decide, "StockYardModel", (gQ5 (i := 210) (by decide +kernel) rfl), Or.inl rfl⟩
theorem kfM_110 : fldOk "StockYardModel" 110 13 42 := ⟨by decide, by decide, "StockYardModel", (gQ5 (i := 211) (by decide +kernel) rfl), Or.inl rfl⟩
theorem kfM_113 : fldOk "StockYardModel" 113 13 43 := ⟨by decide, by decide, "StockYardModel", (gQ5 (i := 212) (by decide +kernel) rfl), Or.inl rfl⟩
theorem kfM_116 : fldOk "StockYardModel" 116 13 44 := ⟨by decide, by decide, "StockYardModel", (gQ5 (i := 213) (by decide +kernel) rfl), Or.inl rfl⟩
theorem kfM_237 : fldOk "StockYardModel" 237 13 46 := ⟨by decide, by decide, "StockYardModel", (gQ5 (i := 214) (by decide +kernel) rfl), Or.inl rfl⟩
theorem kfM_119 : fldOk "StockYardModel" 119 13 47 := ⟨by decide, by decide, "StockYardModel", (gQ5 (i := 215) (by decide +kernel) rfl), Or.inl rfl⟩
theorem kfM_288 : fldOk "StockYardModel" 288 13 48 := ⟨by decide, by decide, "StockYardModel", (gQ5 (i := 216) (by decide +kernel) rfl), Or.inl rfl⟩
theorem kfM_123 : fldOk "StockYardModel" 123 13 49 := ⟨by decide, by decide, "StockYardModel", (gQ5 (i := 217) (by decide +kernel) rfl), Or.inl rfl⟩
theorem kfM_126 : fldOk "StockYardModel" 126 13 50 := ⟨by decide, by decide, "StockYardModel", (gQ5 (i := 218) (by decide +kernel) rfl), Or.inl rfl⟩
theorem kfM_129 : fldOk "StockYardModel" 129 13 51 := ⟨by decide, by decide, "StockYardModel", (gQ5 (i := 219) (by decide +kernel) rfl), Or.inl rfl⟩
theorem kfM_132 : fldOk "StockYardModel" 132 13 52 := ⟨by decide, by decide, "StockYardModel", (gQ5 (i := 220) (by decide +kernel) rfl), Or.inl rfl⟩
theorem kfM_135 : fldOk "StockYardModel" 135 13 53 := ⟨by decide, by decide, "StockYardModel", (gQ5 (i := 221) (by decide +kernel) rfl), Or.inl rfl⟩
theorem kfM_138 : fldOk "StockYardModel" 138 13 54 := ⟨by decide, by decide, "StockYardModel", (gQ5 (i := 222) (by decide +kernel) rfl), Or.inl rfl⟩
theorem kfM_141 : fldOk "StockYardModel" 141 13 55 := ⟨by decide, by decide, "StockYardModel", (gQ5 (i := 223) (by decide +kernel) rfl), Or.inl rfl⟩
theorem kfM_144 : fldOk "StockYardModel" 144 13 56 := ⟨by decide, by decide, "StockYardModel", (gQ5 (i := 224) (by decide +kernel) rfl), Or.inl rfl⟩
theorem kfM_147 : fldOk "StockYardModel" 147 13 57 := ⟨by decide, by decide, "StockYardModel", (gQ5 (i := 225) (by decide +kernel) rfl), Or.inl rfl⟩
theorem kfM_250 : fldOk "StockYardModel" 250 13 58 := ⟨by decide, by decide, "StockYardModel", (gQ5 (i := 226) (by decide +kernel) rfl), Or.inl rfl⟩
theorem kfM_150 : fldOk "StockYardModel" 150 13 59 := ⟨by decide, by decide, "StockYardModel", (gQ5 (i := 227) (by decide +kernel) rfl), Or.inl rfl⟩
theorem kfM_279 : fldOk "StockYardModel" 279 13 60 := ⟨by decide, by decide, "StockYardModel", (gQ5 (i := 228) (by decide +kernel) rfl), Or.inl rfl⟩
theorem kfM_253 : fldOk "StockYardModel" 253 13 61 := ⟨by decide, by decide, "StockYardModel", (gQ5 (i := 229) (by decide +kernel) rfl), Or.inl rfl⟩
theorem kfM_256 : fldOk "StockYardModel" 256 13 62 := ⟨by decide, by decide, "StockYardModel", (gQ5 (i := 230) (by decide +kernel) rfl), Or.inl rfl⟩
theorem kfM_332 : fldOk "StockYardModel" 332 13 63 := ⟨by decide, by decide, "StockYardModel", (gQ5 (i := 231) (by decide +kernel) rfl), Or.inl rfl⟩
theorem kfM_153 : fldOk "StockYardModel" 153 13 64 := ⟨by decide, by decide, "StockYardModel", (gQ5 (i := 232) (by decide +kernel) rfl), Or.inl rfl⟩
theorem kfM_156 : fldOk "StockYardModel" 156 13 65 := ⟨by decide, by decide, "StockYardModel", (gQ5 (i := 233) (by decide +kernel) rfl), Or.inl rfl⟩
theorem kfM_344 : fldOk "StockYardModel" 344 13 66 := ⟨by decide, by decide, "StockYardModel", (gQ5 (i := 234) (by decide +kernel) rfl), Or.inl rfl⟩
theorem kfM_347 : fldOk "StockYardModel" 347 13 67 := ⟨by decide, by decide, "StockYardModel", (gQ5 (i := 235) (by decide +kernel) rfl), Or.inl rfl⟩
theorem kfM_159 : fldOk "StockYardModel" 159 13 68 := ⟨by decide, by decide, "StockYardModel", (gQ5 (i := 236) (by decide +kernel) rfl), Or.inl rfl⟩
theorem kmM_165 : calOk "StockYardModel" 165 (mM_in, 3, 1) := ⟨(gQ6 (i := 142) (by decide +kernel) rfl), (gQ1 (i := 12) (by decide +kernel) rfl), by decide +kernel, by decide, fun _ => (gQ6 (i := 140) (by decide +kernel) rfl), fun h => absurd h (by decide), fun h => absurd h (by decide), fun _ => (gQ6 (i := 141) (by decide +kernel) rfl), fun h => absurd h (by decide)⟩
theorem kmM_169 : calOk "StockYardModel" 169 (mM_refused, 1, 0) := ⟨(gQ6 (i := 146) (by decide +kernel) rfl), (gQ1 (i := 12) (by decide +kernel) rfl), by decide +kernel, by decide, fun _ => (gQ6 (i := 143) (by decide +kernel) rfl), fun h => absurd h (by decide), fun _ => ⟨(gQ6 (i := 145) (by decide +kernel) rfl), (gP3 (i := 3) (by decide +kernel) rfl)⟩, fun h => absurd h (by decide), fun h => absurd h (by decide)⟩
theorem kmM_176 : calOk "StockYardModel" 176 (mM_isPlace, 1, 0) := ⟨(gQ6 (i := 158) (by decide +kernel) rfl), (gQ1 (i := 12) (by decide +kernel) rfl), by decide +kernel, by decide, fun _ => (gQ6 (i := 155) (by decide +kernel) rfl), fun h => absurd h (by decide), fun _ => ⟨(gQ6 (i := 157) (by decide +kernel) rfl), (gP3 (i := 4) (by decide +kernel) rfl)⟩, fun h => absurd h (by decide), fun h => absurd h (by decide)⟩
theorem kmM_191 : calOk "StockYardModel" 191 (mM_walk, 2, 0) := ⟨(gQ6 (i := 166) (by decide +kernel) rfl), (gQ1 (i := 12) (by decide +kernel) rfl), by decide +kernel, by decide, fun _ => (gQ6 (i := 163) (by decide +kernel) rfl), fun h => absurd h (by decide), fun _ => ⟨(gQ6 (i := 165) (by decide +kernel) rfl), (gP3 (i := 5) (by decide +kernel) rfl)⟩, fun h => absurd h (by decide), fun h => absurd h (by decide)⟩
theorem kmM_187 : calOk "StockYardModel" 187 (mM_other, 2, 0) := ⟨(gQ6 (i := 171) (by decide +kernel) rfl), (gQ1 (i := 12) (by decide +kernel) rfl), by decide +kernel, by decide, fun _ => (gQ6 (i := 168) (by decide +kernel) rfl), fun h => absurd h (by decide), fun _ => ⟨(gQ6 (i := 170) (by decide +kernel) rfl), (gP3 (i := 6) (by decide +kernel) rfl)⟩, fun h => absurd h (by decide), fun h => absurd h (by decide)⟩
theorem kmM_209 : calOk "StockYardModel" 209 (mM_isMark, 1, 1) := ⟨(gQ6 (i := 182) (by decide +kernel) rfl), (gQ1 (i := 12) (by decide +kernel) rfl), by decide +kernel, by decide, fun _ => (gQ6 (i := 180) (by decide +kernel) rfl), fun h => absurd h (by decide), fun h => absurd h (by decide), fun _ => (gQ6 (i := 181) (by decide +kernel) rfl), fun h => absurd h (by decide)⟩
theorem kmM_212 : calOk "StockYardModel" 212 (mM_isTaken, 1, 0) := ⟨(gQ6 (i := 186) (by decide +kernel) rfl), (gQ1 (i := 12) (by decide +kernel) rfl), by decide +kernel, by decide, fun _ => (gQ6 (i := 183) (by decide +kernel) rfl), fun h => absurd h (by decide), fun _ => ⟨(gQ6 (i := 185) (by decide +kernel) rfl), (gP3 (i := 7) (by decide +kernel) rfl)⟩, fun h => absurd h (by decide), fun h => absurd h (by decide)⟩
theorem kmM_215 : calOk "StockYardModel" 215 (mM_comes, 7, 0) := ⟨(gQ6 (i := 190) (by decide +kernel) rfl), (gQ1 (i := 12) (by decide +kernel) rfl), by decide +kernel, by decide, fun _ => (gQ6 (i := 187) (by decide +kernel) rfl), fun h => absurd h (by decide), fun _ => ⟨(gQ6 (i := 189) (by decide +kernel) rfl), (gP3 (i := 8) (by decide +kernel) rfl)⟩, fun h => absurd h (by decide), fun h => absurd h (by decide)⟩
theorem kmM_218 : calOk "StockYardModel" 218 (mM_isLot, 1, 0) := ⟨(gQ6 (i := 198) (by decide +kernel) rfl), (gQ1 (i := 12) (by decide +kernel) rfl), by decide +kernel, by decide, fun _ => (gQ6 (i := 195) (by decide +kernel) rfl), fun h => absurd h (by decide), fun _ => ⟨(gQ6 (i := 197) (by decide +kernel) rfl), (gP3 (i := 9) (by decide +kernel) rfl)⟩, fun h => absurd h (by decide), fun h => absurd h (by decide)⟩
theorem kmM_221 : calOk "StockYardModel" 221 (mM_isInPen, 1, 0) := ⟨(gQ6 (i := 202) (by decide +kernel) rfl), (gQ1 (i := 12) (by decide +kernel) rfl), by decide +kernel, by decide, fun _ => (gQ6 (i := 199) (by decide +kernel) rfl), fun h => absurd h (by decide), fun _ => ⟨(gQ6 (i := 201) (by decide +kernel) rfl), (gP3 (i := 10) (by decide +kernel) rfl)⟩, fun h => absurd h (by decide), fun h => absurd h (by decide)⟩
theorem kmM_224 : calOk "StockYardModel" 224 (mM_thirst, 1, 0) := ⟨(gQ6 (i := 210) (by decide +kernel) rfl), (gQ1 (i := 12) (by decide +kernel) rfl), by decide +kernel, by decide, fun _ => (gQ6 (i := 207) (by decide +kernel) rfl), fun h => absurd h (by decide), fun _ => ⟨(gQ6 (i := 209) (by decide +kernel) rfl), (gP3 (i := 11) (by decide +kernel) rfl)⟩, fun h => absurd h (by decide), fun h => absurd h (by decide)⟩
theorem kmM_227 : calOk "StockYardModel" 227 (mM_isDry, 1, 0) := ⟨(gQ6 (i := 214) (by decide +kernel) rfl), (gQ1 (i := 12) (by decide +kernel) rfl), by decide +kernel, by decide, fun _ => (gQ6 (i := 211) (by decide +kernel) rfl), fun h => absurd h (by decide), fun _ => ⟨(gQ6 (i := 213) (by decide +kernel) rfl), (gP3 (i := 12) (by decide +kernel) rfl)⟩, fun h => absurd h (by decide), fun h => absurd h (by decide)⟩
theorem kmM_311 : calOk "StockYardModel" 311 (mM_saidBy, 3, 0) := ⟨(gQ6 (i := 218) (by decide +kernel) rfl), (gQ1 (i := 12) (by decide +kernel) rfl), by decide +kernel, by decide, fun _ => (gQ6 (i := 215) (by decide +kernel) rfl), fun h => absurd h (by decide), fun _ => ⟨(gQ6 (i := 217) (by decide +kernel) rfl), (gP3 (i := 13) (by decide +kernel) rfl)⟩, fun h => absurd h (by decide), fun h => absurd h (by decide)⟩
theorem kmM_308 : calOk "StockYardModel" 308 (mM_holdsFor, 3, 0) := ⟨(gQ6 (i := 222) (by decide +kernel) rfl), (gQ1 (i := 12) (by decide +kernel) rfl), by decide +kernel, by decide, fun _ => (gQ6 (i := 219) (by decide +kernel) rfl), fun h => absurd h (by decide), fun _ => ⟨(gQ6 (i := 221) (by decide +kernel) rfl), (gP3 (i := 14) (by decide +kernel) rfl)⟩, fun h => absurd h (by decide), fun h => absurd h (by decide)⟩
theorem kmM_305 : calOk "StockYardModel" 305 (mM_isSo, 3, 0) := ⟨(gQ6 (i := 226) (by decide +kernel) rfl), (gQ1 (i := 12) (by decide +kernel) rfl), by decide +kernel, by decide, fun _ => (gQ6 (i := 223) (by decide +kernel) rfl), fun h => absurd h (by decide), fun _ => ⟨(gQ6 (i := 225) (by decide +kernel) rfl), (gP3 (i := 15) (by decide +kernel) rfl)⟩, fun h => absurd h (by decide), fun h => absurd h (by decide)⟩
theorem kmM_301 : calOk "StockYardModel" 301 (mM_valueOf, 3, 0) := ⟨(gQ6 (i := 230) (by decide +kernel) rfl), (gQ1 (i := 12) (by decide +kernel) rfl), by decide +kernel, by decide, fun _ => (gQ6 (i := 227) (by decide +kernel) rfl), fun h => absurd h (by decide), fun _ => ⟨(gQ6 (i := 229) (by decide +kernel) rfl), (gP4 (i := 0) (by decide +kernel) rfl)⟩, fun h => absurd h (by decide), fun h => absurd h (by decide)⟩
theorem kmM_230 : calOk "StockYardModel" 230 (mM_isInDoubt, 1, 0) := ⟨(gQ6 (i := 234) (by decide +kernel) rfl), (gQ1 (i := 12) (by decide +kernel) rfl), by decide +kernel, by decide, fun _ => (gQ6 (i := 231) (by decide +kernel) rfl), fun h => absurd h (by decide), fun _ => ⟨(gQ6 (i := 233) (by decide +kernel) rfl), (gP4 (i := 1) (by decide +kernel) rfl)⟩, fun h => absurd h (by decide), fun h => absurd h (by decide)⟩
theorem kmM_335 : calOk "StockYardModel" 335 (mM_find, 1, 0) := ⟨(gQ6 (i := 238) (by decide +kernel) rfl), (gQ1 (i := 12) (by decide +kernel) rfl), by decide +kernel, by decide, fun _ => (gQ6 (i := 235) (by decide +kernel) rfl), fun h => absurd h (by decide), fun _ => ⟨(gQ6 (i := 237) (by decide +kernel) rfl), (gP4 (i := 2) (by decide +kernel) rfl)⟩, fun h => absurd h (by decide), fun h => absurd h (by decide)⟩
theorem kmM_338 : calOk "StockYardModel" 338 (mM_isNear, 2, 1) := ⟨(gQ7 (i := 1) (by decide +kernel) rfl), (gQ1 (i := 12) (by decide +kernel) rfl), by decide +kernel, by decide, fun _ => (gQ6 (i := 239) (by decide +kernel) rfl), fun h => absurd h (by decide), fun h => absurd h (by decide), fun _ => (gQ7 (i := 0) (by decide +kernel) rfl), fun h => absurd h (by decide)⟩
theorem kmM_233 : calOk "StockYardModel" 233 (mM_goes, 0, 0) := ⟨(gQ7 (i := 9) (by decide +kernel) rfl), (gQ1 (i := 12) (by decide +kernel) rfl), by decide +kernel, by decide, fun _ => (gQ7 (i := 6) (by decide +kernel) rfl), fun h => absurd h (by decide), fun _ => ⟨(gQ7 (i := 8) (by decide +kernel) rfl), (gP4 (i := 3) (by decide +kernel) rfl)⟩, fun h => absurd h (by decide), fun h => absurd h (by decide)⟩
theorem kmM_203 : calOk "StockYardModel" 203 (mM_mayBegin, 1, 0) := ⟨(gQ7 (i := 13) (by decide +kernel) rfl), (gQ1 (i := 12) (by decide +kernel) rfl), by decide +kernel, by decide, fun _ => (gQ7 (i := 10) (by decide +kernel) rfl), fun h => absurd h (by decide), fun _ => ⟨(gQ7 (i := 12) (by decide +kernel) rfl), (gP4 (i := 4) (by decide +kernel) rfl)⟩, fun h => absurd h (by decide), fun h => absurd h (by decide)⟩
theorem kmM_197 : calOk "StockYardModel" 197 (mM_isFree, 3, 0) := ⟨(gQ7 (i := 17) (by decide +kernel) rfl), (gQ1 (i := 12) (by decide +kernel) rfl), by decide +kernel, by decide, fun _ => (gQ7 (i := 14) (by decide +kernel) rfl), fun h => absurd h (by decide), fun _ => ⟨(gQ7 (i := 16) (by decide +kernel) rfl), (gP4 (i := 5) (by decide +kernel) rfl)⟩, fun h => absurd h (by decide), fun h => absurd h (by decide)⟩
theorem kmM_247 : calOk "StockYardModel" 247 (mM_bits, 1, 1) := ⟨(gQ7 (i := 32) (by decide +kernel) rfl), (gQ1 (i := 12) (by decide +kernel) rfl), by decide +kernel, by decide, fun _ => (gQ7 (i := 30) (by decide +kernel) rfl), fun h => absurd h (by decide), fun h => absurd h (by decide), fun _ => (gQ7 (i := 31) (by decide +kernel) rfl), fun h => absurd h (by decide)⟩
theorem kmM_243 : calOk "StockYardModel" 243 (mM_tries, 4, 0) := ⟨(gQ7 (i := 36) (by decide +kernel) rfl), (gQ1 (i := 12) (by decide +kernel) rfl), by decide +kernel, by decide, fun _ => (gQ7 (i := 33) (by decide +kernel) rfl), fun h => absurd h (by decide), fun _ => ⟨(gQ7 (i := 35) (by decide +kernel) rfl), (gP4 (i := 6) (by decide +kernel) rfl)⟩, fun h => absurd h (by decide), fun h => absurd h (by decide)⟩
theorem kmM_298 : calOk "StockYardModel" 298 (mM_readRule, 0, 0) := ⟨(gQ7 (i := 57) (by decide +kernel) rfl), (gQ1 (i := 12) (by decide +kernel) rfl), by decide +kernel, by decide, fun _ => (gQ7 (i := 54) (by decide +kernel) rfl), fun h => absurd h (by decide), fun _ => ⟨(gQ7 (i := 56) (by decide +kernel) rfl), (gP4 (i := 7) (by decide +kernel) rfl)⟩, fun h => absurd h (by decide), fun h => absurd h (by decide)⟩
theorem kmM_291 : calOk "StockYardModel" 291 (mM_keyHere, 0, 0) := ⟨(gQ7 (i := 61) (by decide +kernel) rfl), (gQ1 (i := 12) (by decide +kernel) rfl), by decide +kernel, by decide, fun _ => (gQ7 (i := 58) (by decide +kernel) rfl), fun h => absurd h (by decide), fun _ => ⟨(gQ7 (i := 60) (by decide +kernel) rfl), (gP4 (i := 8) (by decide +kernel) rfl)⟩, fun h => absurd h (by decide), fun h => absurd h (by decide)⟩
theorem kmM_260 : calOk "StockYardModel" 260 (mM_here, 0, 0) := ⟨(gQ7 (i := 65) (by decide +kernel) rfl), (gQ1 (i := 12) (by decide +kernel) rfl), by decide +kernel, by decide, fun _ => (gQ7 (i := 62) (by decide +kernel) rfl), fun h => absurd h (by decide), fun _ => ⟨(gQ7 (i := 64) (by decide +kernel) rfl), (gP4 (i := 9) (by decide +kernel) rfl)⟩, fun h => absurd h (by decide), fun h => absurd h (by decide)⟩
theorem kmM_271 : calOk "StockYardModel" 271 (mM_named, 6, 1) := ⟨(gQ7 (i := 68) (by decide +kernel) rfl), (gQ1 (i := 12) (by decide +kernel) rfl), by decide +kernel, by decide, fun _ => (gQ7 (i := 66) (by decide +kernel) rfl), fun h => absurd h (by decide), fun h => absurd h (by decide), fun _ => (gQ7 (i := 67) (by decide +kernel) rfl), fun h => absurd h (by decide)⟩
theorem kmM_275 : calOk "StockYardModel" 275 (mM_letters, 1, 0) := ⟨(gQ7 (i := 73) (by decide +kernel) rfl), (gQ1 (i := 12) (by decide +kernel) rfl), by decide +kernel, by decide, fun _ => (gQ7 (i := 70) (by decide +kernel) rfl), fun h => absurd h (by decide), fun _ => ⟨(gQ7 (i := 72) (by decide +kernel) rfl), (gP4 (i := 10) (by decide +kernel) rfl)⟩, fun h => absurd h (by decide), fun h => absurd h (by decide)⟩
theorem kmM_265 : calOk "StockYardModel" 265 (mM_one, 1, 0) := ⟨(gQ7 (i := 78) (by decide +kernel) rfl), (gQ1 (i := 12) (by decide +kernel) rfl), by decide +kernel, by decide, fun _ => (gQ7 (i := 75) (by decide +kernel) rfl), fun h => absurd h (by decide), fun _ => ⟨(gQ7 (i := 77) (by decide +kernel) rfl), (gP4 (i := 11) (by decide +kernel) rfl)⟩, fun h => absurd h (by decide), fun h => absurd h (by decide)⟩
theorem kmM_285 : calOk "StockYardModel" 285 (mM_numberHere, 0, 0) := ⟨(gQ7 (i := 82) (by decide +kernel) rfl), (gQ1 (i := 12) (by decide +kernel) rfl), by decide +kernel, by decide, fun _ => (gQ7 (i := 79) (by decide +kernel) rfl), fun h => absurd h (by decide), fun _ => ⟨(gQ7 (i := 81) (by decide +kernel) rfl), (gP4 (i := 12) (by decide +kernel) rfl)⟩, fun h => absurd h (by decide), fun h => absurd h (by decide)⟩
theorem kmM_294 : calOk "StockYardModel" 294 (mM_testHere, 0, 0) := ⟨(gQ7 (i := 86) (by decide +kernel) rfl), (gQ1 (i := 12) (by decide +kernel) rfl), by decide +kernel, by decide, fun _ => (gQ7 (i := 83) (by decide +kernel) rfl), fun h => absurd h (by decide), fun _ => ⟨(gQ7 (i := 85) (by decide +kernel) rfl), (gP4 (i := 13) (by decide +kernel) rfl)⟩, fun h => absurd h (by decide), fun h => absurd h (by decide)⟩
theorem kmM_282 : calOk "StockYardModel" 282 (mM_fieldHere, 0, 0) := ⟨(gQ7 (i := 90) (by decide +kernel) rfl), (gQ1 (i := 12) (by decide +kernel) rfl), by decide +kernel, by decide, fun _ => (gQ7 (i := 87) (by decide +kernel) rfl), fun h => absurd h (by decide), fun _ => ⟨(gQ7 (i := 89) (by decide +kernel) rfl), (gP4 (i := 14) (by decide +kernel) rfl)⟩, fun h => absurd h (by decide), fun h => absurd h (by decide)⟩
theorem kmM_314 : calOk "StockYardModel" 314 (mM_isBuyer, 1, 1) := ⟨(gQ7 (i := 105) (by decide +kernel) rfl), (gQ1 (i := 12) (by decide +kernel) rfl), by decide +kernel, by decide, fun _ => (gQ7 (i := 103) (by decide +kernel) rfl), fun h => absurd h (by decide), fun h => absurd h (by decide), fun _ => (gQ7 (i := 104) (by decide +kernel) rfl), fun h => absurd h (by decide)⟩
theorem kmM_317 : calOk "StockYardModel" 317 (mM_isBarred, 2, 0) := ⟨(gQ7 (i := 113) (by decide +kernel) rfl), (gQ1 (i := 12) (by decide +kernel) rfl), by decide +kernel, by decide, fun _ => (gQ7 (i := 110) (by decide +kernel) rfl), fun h => absurd h (by decide), fun _ => ⟨(gQ7 (i := 112) (by decide +kernel) rfl), (gP4 (i := 15) (by decide +kernel) rfl)⟩, fun h => absurd h (by decide), fun h => absurd h (by decide)⟩
theorem kmM_326 : calOk "StockYardModel" 326 (mM_moneyFor, 2, 0) := ⟨(gQ7 (i := 125) (by decide +kernel) rfl), (gQ1 (i := 12) (by decide +kernel) rfl), by decide +kernel, by decide, fun _ => (gQ7 (i := 122) (by decide +kernel) rfl), fun h => absurd h (by decide), fun _ => ⟨(gQ7 (i := 124) (by decide +kernel) rfl), (gP5 (i := 0) (by decide +kernel) rfl)⟩, fun h => absurd h (by decide), fun h => absurd h (by decide)⟩
theorem kmM_329 : calOk "StockYardModel" 329 (mM_noScale, 2, 0) := ⟨(gQ7 (i := 134) (by decide +kernel) rfl), (gQ1 (i := 12) (by decide +kernel) rfl), by decide +kernel, by decide, fun _ => (gQ7 (i := 131) (by decide +kernel) rfl), fun h => absurd h (by decide), fun _ => ⟨(gQ7 (i := 133) (by decide +kernel) rfl), (gP5 (i := 1) (by decide +kernel) rfl)⟩, fun h => absurd h (by decide), fun h => absurd h (by decide)⟩
theorem kmM_341 : calOk "StockYardModel" 341 (mM_forget, 0, 0) := ⟨(gQ7 (i := 166) (by decide +kernel) rfl), (gQ1 (i := 12) (by decide +kernel) rfl), by decide +kernel, by decide, fun _ => (gQ7 (i := 163) (by decide +kernel) rfl), fun h => absurd h (by decide), fun _ => ⟨(gQ7 (i := 165) (by decide +kernel) rfl), (gP5 (i := 2) (by decide +kernel) rfl)⟩, fun h => absurd h (by decide), fun h => absurd h (by decide)⟩
set_option maxRecDepth 100000 in
theorem faM : ∀ q ∈ flM, fldOk "StockYardModel" q.1 q.2.1 q.2.2 := List.forall_mem_cons.mpr ⟨kfM_7, List.forall_mem_cons.mpr ⟨kfM_200, List.forall_mem_cons.mpr ⟨kfM_173, List.forall_mem_cons.mpr ⟨kfM_13, List.forall_mem_cons.mpr ⟨kfM_16, List.forall_mem_cons.mpr ⟨kfM_180, List.forall_mem_cons.mpr ⟨kfM_19, List.forall_mem_cons.mpr ⟨kfM_22, List.forall_mem_cons.mpr ⟨kfM_25, List.forall_mem_cons.mpr ⟨kfM_28, List.forall_mem_cons.mpr ⟨kfM_31, List.forall_mem_cons.mpr ⟨kfM_184, List.forall_mem_cons.mpr ⟨kfM_194, List.forall_mem_cons.mpr ⟨kfM_34, List.forall_mem_cons.mpr ⟨kfM_37, List.forall_mem_cons.mpr ⟨kfM_40, List.forall_mem_cons.mpr ⟨kfM_206, List.forall_mem_cons.mpr ⟨kfM_43, List.forall_mem_cons.mpr ⟨kfM_46, List.forall_mem_cons.mpr ⟨kfM_49, List.forall_mem_cons.mpr ⟨kfM_52, List.forall_mem_cons.mpr ⟨kfM_55, List.forall_mem_cons.mpr ⟨kfM_58, List.forall_mem_cons.mpr ⟨kfM_61, List.forall_mem_cons.mpr ⟨kfM_64, List.forall_mem_cons.mpr ⟨kfM_67, List.forall_mem_cons.mpr ⟨kfM_70, List.forall_mem_cons.mpr ⟨kfM_74, List.forall_mem_cons.mpr ⟨kfM_77, List.forall_mem_cons.mpr ⟨kfM_80, List.forall_mem_cons.mpr ⟨kfM_83, List.forall_mem_cons.mpr ⟨kfM_86, List.forall_mem_cons.mpr ⟨kfM_89, List.forall_mem_cons.mpr ⟨kfM_92, List.forall_mem_cons.mpr ⟨kfM_95, List.forall_mem_cons.mpr ⟨kfM_98, List.forall_mem_cons.mpr ⟨kfM_101, List.forall_mem_cons.mpr ⟨kfM_321, List.forall_mem_cons.mpr ⟨kfM_104, List.forall_mem_cons.mpr ⟨kfM_240, List.forall_mem_cons.mpr ⟨kfM_107, List.forall_mem_cons.mpr ⟨kfM_110, List.forall_mem_cons.mpr ⟨kfM_113, List.forall_mem_cons.mpr ⟨kfM_116, List.forall_mem_cons.mpr ⟨kfM_237, List.forall_mem_cons.mpr ⟨kfM_119, List.forall_mem_cons.mpr ⟨kfM_288, List.forall_mem_cons.mpr ⟨kfM_123, List.forall_mem_cons.mpr ⟨kfM_126, List.forall_mem_cons.mpr ⟨kfM_129, List.forall_mem_cons.mpr ⟨kfM_132, List.forall_mem_cons.mpr ⟨kfM_135, List.forall_mem_cons.mpr ⟨kfM_138, List.forall_mem_cons.mpr ⟨kfM_141, List.forall_mem_cons.mpr ⟨kfM_144, List.forall_mem_cons.mpr ⟨kfM_147, List.forall_mem_cons.mpr ⟨kfM_250, List.forall_mem_cons.mpr ⟨kfM_150, List.forall_mem_cons.mpr ⟨kfM_279, List.forall_mem_cons.mpr ⟨kfM_253, List.forall_mem_cons.mpr ⟨kfM_256, List.forall_mem_cons.mpr ⟨kfM_332, List.forall_mem_cons.mpr ⟨kfM_153, List.forall_mem_cons.mpr ⟨kfM_156, List.forall_mem_cons.mpr ⟨kfM_344, List.forall_mem_cons.mpr ⟨kfM_347, List.forall_mem_cons.mpr ⟨kfM_159, fun q h => absurd h List.not_mem_nil⟩⟩⟩⟩⟩⟩⟩⟩⟩⟩⟩⟩⟩⟩⟩⟩⟩⟩⟩⟩⟩⟩⟩⟩⟩⟩⟩⟩⟩⟩⟩⟩⟩⟩⟩⟩⟩⟩⟩⟩⟩⟩⟩⟩⟩⟩⟩⟩⟩⟩⟩⟩⟩⟩⟩⟩⟩⟩⟩⟩⟩⟩⟩⟩⟩⟩⟩
set_option maxRecDepth 100000 in
theorem maM : ∀ q ∈ mlM, calOk "StockYardModel" q.1 q.2 := List.forall_mem_cons.mpr ⟨kmM_165, List.forall_mem_cons.mpr ⟨kmM_169, List.forall_mem_cons.mpr ⟨kmM_176, List.forall_mem_cons.mpr ⟨kmM_191, List.forall_mem_cons.mpr ⟨kmM_187, List.forall_mem_cons.mpr ⟨kmM_209, List.forall_mem_cons.mpr ⟨kmM_212, List.forall_mem_cons.mpr ⟨kmM_215, List.forall_mem_cons.mpr ⟨kmM_218, List.forall_mem_cons.mpr ⟨kmM_221, List.forall_mem_cons.mpr ⟨kmM_224, List.forall_mem_cons.mpr ⟨kmM_227, List.forall_mem_cons.mpr ⟨kmM_311, List.forall_mem_cons.mpr ⟨kmM_308, List.forall_mem_cons.mpr ⟨kmM_305, List.forall_mem_cons.mpr ⟨kmM_301, List.forall_mem_cons.mpr ⟨kmM_230, List.forall_mem_cons.mpr ⟨kmM_335, List.forall_mem_cons.mpr ⟨kmM_338, List.forall_mem_cons.mpr ⟨kmM_233, List.forall_mem_cons.mpr ⟨kmM_203, List.forall_mem_cons.mpr ⟨kmM_197, List.forall_mem_cons.mpr ⟨kmM_247, List.forall_mem_cons.mpr ⟨kmM_243, List.forall_mem_cons.mpr ⟨kmM_298, List.forall_mem_cons.mpr ⟨kmM_291, List.forall_mem_cons.mpr ⟨kmM_260, List.forall_mem_cons.mpr ⟨kmM_271, List.forall_mem_cons.mpr ⟨kmM_275, List.forall_mem_cons.mpr ⟨kmM_265, List.forall_mem_cons.mpr ⟨kmM_285, List.forall_mem_cons.mpr ⟨kmM_294, List.forall_mem_cons.mpr ⟨kmM_282, List.forall_mem_cons.mpr ⟨kmM_314, List.forall_mem_cons.mpr ⟨kmM_317, List.forall_mem_cons.mpr ⟨kmM_326, List.forall_mem_cons.mpr ⟨kmM_329, List.forall_mem_cons.mpr ⟨kmM_341, fun q h => absurd h List.not_mem_nil⟩⟩⟩⟩⟩⟩⟩⟩⟩⟩⟩⟩⟩⟩⟩⟩⟩⟩⟩⟩⟩⟩⟩⟩⟩⟩⟩⟩⟩⟩⟩⟩⟩⟩⟩⟩⟩⟩
theorem kaM : ∀ q ∈ klM, (∀ v, q.2 = .inl v → Cond.constant "StockYardModel" q.1 v ∈ goodT) ∧ ∀ v, q.2 = .inr (.inl v) → Cond.constantLong "StockYardModel" q.1 v ∈ goodT := List.forall_mem_cons.mpr ⟨⟨fun v h => (by cases h; exact (gQ6 (i := 167) (by decide +kernel) rfl)), fun v h => (by cases h)⟩, List.forall_mem_cons.mpr ⟨⟨fun v h => (by cases h; exact (gQ7 (i := 53) (by decide +kernel) rfl)), fun v h => (by cases h)⟩, List.forall_mem_cons.mpr ⟨⟨fun v h => (by cases h), fun v h => (by cases h; exact (gQ7 (i := 69) (by decide +kernel) rfl))⟩, List.forall_mem_cons.mpr ⟨⟨fun v h => (by cases h), fun v h => (by cases h; exact (gQ7 (i := 74) (by decide +kernel) rfl))⟩, List.forall_mem_cons.mpr ⟨⟨fun v h => (by cases h), fun v h => (by cases h; exact (gQ7 (i := 126) (by decide +kernel) rfl))⟩, fun q h => absurd h List.not_mem_nil⟩⟩⟩⟩⟩
theorem taM : ∀ q ∈ tlM, Cond.classLink "StockYardModel" q.1 (clsN q.2).1 ∈ goodT := fun q h => absurd h List.not_mem_nil
theorem eoM : envOk "StockYardModel" cenM := ⟨fun i c k h => faM _ (alk_mem h), fun i c h => maM _ (alk_mem h), fun i v h => (kaM _ (alk_mem h)).1 v rfl, fun i v h => (kaM _ (alk_mem h)).2 v rfl, fun i c h => taM _ (alk_mem h)⟩
def flS : List (Nat × (Nat × Nat)) := [(93, 1, 0), (83, 1, 4), (253, 3, 1), (271, 3, 2), (260, 4, 0), (334, 5, 2), (111, 8, 2), (108, 8, 3), (241, 6, 13), (244, 6, 14), (370, 7, 1), (367, 7, 2), (12, 0, 0), (19, 0, 1), (26, 0, 2), (33, 0, 3), (40, 0, 4), (49, 0, 5), (56, 0, 6), (63, 0, 7), (67, 0, 8), (71, 0, 9), (190, 11, 7), (199, 11, 8), (195, 11, 9), (391, 11, 10), (155, 10, 0), (164, 10, 1), (186, 10, 2), (145, 10, 3), (161, 10, 4), (152, 10, 5), (158, 10, 6), (167, 10, 7), (170, 10, 8), (173, 10, 9), (340, 10, 10)]
def mlS : List (Nat × Cal) := [(11, mY_init, 0, 5), (18, mL_init, 0, 2), (25, mT_init, 0, 5), (32, mB_init, 0, 5), (39, mK_init, 0, 5), (46, mP_init, 1, 2), (55, mR_init, 0, 5), (62, mW_init, 0, 5), (75, mS_within, 3, 1), (79, mS_refuse, 1, 0), (86, mY_addPlace, 1, 0), (89, mY_hasPlace, 1, 0), (96, mL_size, 0, 0), (100, mY_addAlley, 3, 0), (104, mY_find, 3, 0), (114, mW_alleyAt, 1, 0), (117, mS_tellsOwner, 1, 1), (328, mS_isOwner, 1, 1), (120, mY_kindOf, 1, 0), (123, mS_tellsHeads, 1, 1), (126, mS_isMark, 1, 1), (129, mS_hasLot, 1, 0), (277, mL_get, 1, 0), (134, mO_init, 7, 2), (137, mS_admit, 1, 0), (274, mL_add1z, 1, 0), (141, mS_lotAt, 1, 0), (148, mS_isIn, 2, 0), (176, mO_thirst, 1, 0), (179, mB_isDry, 2, 0), (182, mS_isInDoubt, 1, 0), (383, mK_doubt, 2, 0), (202, mS_mayBeDriven, 1, 0), (380, mO_isOnWay, 0, 0), (205, mY_firstFree, 2, 0), (209, mY_take, 2, 0), (213, mO_leave, 2, 0), (217, mE_isSold, 0, 0), (221, mS_arePens, 1, 0), (397, mS_inSet, 2, 1), (224, mJi_bitCount, 1, 1), (229, mS_mayAllBeDriven, 1, 0), (232, mS_hasLotInOne, 1, 0), (235, mS_readyPlanner, 2, 0), (400, mP_clear, 0, 0), (403, mP_addPen, 1, 0), (406, mP_addLot, 2, 0), (238, mP_search, 1, 0), (247, mP_plannedLot, 1, 0), (250, mP_plannedPen, 1, 0), (255, mT_add, 1, 0), (265, mU_init, 2, 2), (267, mT_readRule, 1, 0), (281, mU_appliesTo, 3, 0), (285, mB_saying, 4, 0), (289, mS_isBuyer, 1, 1), (292, mE_wasSeenBy, 1, 0), (295, mE_show, 1, 0), (298, mB_bars, 3, 0), (302, mE_offer, 2, 0), (305, mE_offers, 0, 0), (308, mE_close, 0, 0), (311, mS_weightOf, 1, 0), (386, mJm_max, 2, 1), (318, mY_offOf, 1, 0), (314, mE_pay, 3, 0), (321, mY_setOff, 2, 0), (324, mS_settle, 2, 0), (394, mE_correct, 1, 0), (331, mK_ownerOf, 1, 0), (335, mK_add, 2, 0), (337, mK_countNear, 1, 0), (343, mY_forgetBefore, 1, 0), (346, mO_arrive, 1, 0), (349, mS_lotsOnWay, 0, 0), (352, mS_dryLots, 0, 0), (355, mS_soldLots, 0, 0), (358, mS_headsAtHooks, 0, 0), (361, mR_begin, 1, 0), (364, mR_addAt, 2, 0), (371, mR_at, 1, 0), (373, mR_spans, 2, 0), (377, mR_move, 3, 0)]
def klS : List (Nat × AV) := [(259, .inl 100000)]
def tlS : List (Nat × Nat) := [(9, 1), (16, 2), (23, 3), (30, 4), (37, 5), (44, 6), (53, 7), (60, 8), (132, 10), (263, 12)]
def cenS : CE := (alk flS, alk mlS, alk klS, alk tlS)
theorem kfS_93 : fldOk "StockYard" 93 1 0 := ⟨by decide, by decide, "StockYard$Yard", (gQ1 (i := 70) (by decide +kernel) rfl), Or.inl rfl⟩
theorem kfS_83 : fldOk "StockYard" 83 1 4 := ⟨by decide, by decide, "StockYard$Yard", (gQ1 (i := 75) (by decide +kernel) rfl), Or.inl rfl⟩
theorem kfS_253 : fldOk "StockYard" 253 3 1 := ⟨by decide, by decide, "StockYard$Tape", (gQ1 (i := 98) (by decide +kernel) rfl), Or.inl rfl⟩
theorem kfS_271 : fldOk "StockYard" 271 3 2 := ⟨by decide, by decide, "StockYard$Tape", (gQ1 (i := 100) (by decide +kernel) rfl), Or.inl rfl⟩
theorem kfS_260 : fldOk "StockYard" 260 4 0 := ⟨by decide, by decide, "StockYard$RuleBook", (gQ1 (i := 117) (by decide +kernel) rfl), Or.inl rfl⟩
theorem kfS_334 : fldOk "StockYard" 334 5 2 := ⟨by decide, by decide, "StockYard$MarkBook", (gQ1 (i := 130) (by decide +kernel) rfl), Or.inl rfl⟩
theorem kfS_111 : fldOk "StockYard" 111 8 2 := ⟨by decide, by decide, "StockYard$Way", (gQ1 (i := 154) (by decide +kernel) rfl), Or.inl rfl⟩
theorem kfS_108 : fldOk "StockYard" 108 8 3 := ⟨by decide, by decide, "StockYard$Way", (gQ1 (i := 158) (by decide +kernel) rfl), Or.inl rfl⟩
theorem kfS_241 : fldOk "StockYard" 241 6 13 := ⟨by decide, by decide, "StockYard$Planner", (gQ1 (i := 183) (by decide +kernel) rfl), Or.inl rfl⟩
theorem kfS_244 : fldOk "StockYard" 244 6 14 := ⟨by decide, by decide, "StockYard$Planner", (gQ1 (i := 185) (by decide +kernel) rfl), Or.inl rfl⟩
theorem kfS_370 : fldOk "StockYard" 370 7 1 := ⟨by decide, by decide, "StockYard$Row", (gQ1 (i := 225) (by decide +kernel) rfl), Or.inl rfl⟩
theorem kfS_367 : fldOk "StockYard" 367 7 2 := ⟨by decide, by decide, "StockYard$Row", (gQ1 (i := 227) (by decide +kernel) rfl), Or.inl rfl⟩
theorem kfS_12 : fldOk "StockYard" 12 0 0 := ⟨by decide, by decide, "StockYard", (gQ1 (i := 237) (by decide +kernel) rfl), Or.inl rfl⟩
theorem kfS_19 : fldOk "StockYard" 19 0 1 := ⟨by decide, by decide, "StockYard", (gQ1 (i := 238) (by decide +kernel) rfl), Or.inl rfl⟩
theorem kfS_26 : fldOk "StockYard" 26 0 2 := ⟨by decide, by decide, "StockYard", (gQ1 (i := 239) (by decide +kernel) rfl), Or.inl rfl⟩
theorem kfS_33 : fldOk "StockYard" 33 0 3 := ⟨by decide, by decide, "StockYard", (gQ2 (i := 0) (by decide +kernel) rfl), Or.inl rfl⟩
theorem kfS_40 : fldOk "StockYard" 40 0 4 := ⟨by decide, by decide, "StockYard", (gQ2 (i := 1) (by decide +kernel) rfl), Or.inl rfl⟩
theorem kfS_49 : fldOk "StockYard" 49 0 5 := ⟨by decide, by decide, "StockYard", (gQ2 (i := 2) (by decide +kernel) rfl), Or.inl rfl⟩
theorem kfS_56 : fldOk "StockYard" 56 0 6 := ⟨by decide, by decide, "StockYard", (gQ2 (i := 3) (by decide +kernel) rfl), Or.inl rfl⟩
theorem kfS_63 : fldOk "StockYard" 63 0 7 := ⟨by decide, by decide, "StockYard", (gQ2 (i := 4) (by decide +kernel) rfl), Or.inl rfl⟩
theorem kfS_67 : fldOk "StockYard" 67 0 8 := ⟨by decide, by decide, "StockYard", (gQ2 (i := 5) (by decide +kernel) rfl), Or.inl rfl⟩
theorem kfS_71 : fldOk "StockYard" 71 0 9 := ⟨by decide, by decide, "StockYard", (gQ2 (i := 6) (by decide +kernel) rfl), Or.inl rfl⟩
theorem kfS_190 : fldOk "StockYard" 190 11 7 := ⟨by decide, by decide, "StockYard$Sale", (gQ3 (i := 6) (by decide +kernel) rfl), Or.inl rfl⟩
theorem kfS_199 : fldOk "StockYard" 199 11 8 := ⟨by decide, by decide, "StockYard$Sale", (gQ3 (i := 8) (by decide +kernel) rfl), Or.inl rfl⟩
theorem kfS_195 : fldOk "StockYard" 195 11 9 := ⟨by decide, by decide, "StockYard$Sale", (gQ3 (i := 10) (by decide +kernel) rfl), Or.inl rfl⟩
theorem kfS_391 : fldOk "StockYard" 391 11 10 := ⟨by decide, by decide, "StockYard$Sale", (gQ3 (i := 12) (by decide +kernel) rfl), Or.inl rfl⟩
theorem kfS_155 : fldOk "StockYard" 155 10 0 := ⟨by decide, by decide, "StockYard$Lot", (gQ3 (i := 37) (by decide +kernel) rfl), Or.inl rfl⟩
theorem kfS_164 : fldOk "StockYard" 164 10 1 := ⟨by decide, by decide, "StockYard$Lot", (gQ3 (i := 39) (by decide +kernel) rfl), Or.inl rfl⟩
theorem kfS_186 : fldOk "StockYard" 186 10 2 := ⟨by decide, by decide, "StockYard$Lot", (gQ3 (i := 41) (by decide +kernel) rfl), Or.inl rfl⟩
theorem kfS_145 : fldOk "StockYard" 145 10 3 := ⟨by decide, by decide, "StockYard$Lot", (gQ3 (i := 44) (by decide +kernel) rfl), Or.inl rfl⟩
theorem kfS_161 : fldOk "StockYard" 161 10 4 := ⟨by decide, by decide, "StockYard$Lot", (gQ3 (i := 47) (by decide +kernel) rfl), Or.inl rfl⟩
theorem kfS_152 : fldOk "StockYard" 152 10 5 := ⟨by decide, by decide, "StockYard$Lot", (gQ3 (i := 50) (by decide +kernel) rfl), Or.inl rfl⟩
theorem kfS_158 : fldOk "StockYard" 158 10 6 := ⟨by decide, by decide, "StockYard$Lot", (gQ3 (i := 52) (by decide +kernel) rfl), Or.inl rfl⟩
theorem kfS_167 : fldOk "StockYard" 167 10 7 := ⟨by decide, by decide, "StockYard$Lot", (gQ3 (i := 54) (by decide +kernel) rfl), Or.inl rfl⟩
theorem kfS_170 : fldOk "StockYard" 170 10 8 := ⟨by decide, by decide, "StockYard$Lot", (gQ3 (i := 56) (by decide +kernel) rfl), Or.inl rfl⟩
theorem kfS_173 : fldOk "StockYard" 173 10 9 := ⟨by decide, by decide, "StockYard$Lot", (gQ3 (i := 58) (by decide +kernel) rfl), Or.inl rfl⟩
theorem kfS_340 : fldOk "StockYard" 340 10 10 := ⟨by decide, by decide, "StockYard$Lot", (gQ3 (i := 60) (by decide +kernel) rfl), Or.inl rfl⟩
theorem kmS_11 : calOk "StockYard" 11 (mY_init, 0, 5) := ⟨(gQ1 (i := 39) (by decide +kernel) rfl), (gQ1 (i := 2) (by decide +kernel) rfl), by decide +kernel, by decide, fun h => absurd h (by decide), fun _ => ⟨"StockYard", List.mem_filter.mpr ⟨(hQ1 (i := 37) (by decide +kernel)), rfl⟩⟩, fun h => absurd h (by decide), fun h => absurd h (by decide), fun _ => ⟨(gQ1 (i := 38) (by decide +kernel) rfl), rfl, rfl⟩⟩
theorem kmS_18 : calOk "StockYard" 18 (mL_init, 0, 2) := ⟨(gQ1 (i := 45) (by decide +kernel) rfl), (gQ1 (i := 5) (by decide +kernel) rfl), by decide +kernel, by decide, fun _ => (gQ1 (i := 89) (by decide +kernel) rfl), fun h => absurd h (by decide), fun h => absurd h (by decide), fun h => absurd h (by decide), fun _ => ⟨(gQ1 (i := 44) (by decide +kernel) rfl), rfl, rfl⟩⟩
theorem kmS_25 : calOk "StockYard" 25 (mT_init, 0, 5) := ⟨(gQ1 (i := 94) (by decide +kernel) rfl), (gQ1 (i := 6) (by decide +kernel) rfl), by decide +kernel, by decide, fun h => absurd h (by decide), fun _ => ⟨"StockYard", List.mem_filter.mpr ⟨(hQ1 (i := 92) (by decide +kernel)), rfl⟩⟩, fun h => absurd h (by decide), fun h => absurd h (by decide), fun _ => ⟨(gQ1 (i := 93) (by decide +kernel) rfl), rfl, rfl⟩⟩
theorem kmS_32 : calOk "StockYard" 32 (mB_init, 0, 5) := ⟨(gQ1 (i := 112) (by decide +kernel) rfl), (gQ1 (i := 7) (by decide +kernel) rfl), by decide +kernel, by decide, fun h => absurd h (by decide), fun _ => ⟨"StockYard", List.mem_filter.mpr ⟨(hQ1 (i := 110) (by decide +kernel)), rfl⟩⟩, fun h => absurd h (by decide), fun h => absurd h (by decide), fun _ => ⟨(gQ1 (i := 111) (by decide +kernel) rfl), rfl, rfl⟩⟩
theorem kmS_39 : calOk "StockYard" 39 (mK_init, 0, 5) := ⟨(gQ1 (i := 125) (by decide +kernel) rfl), (gQ1 (i := 8) (by decide +kernel) rfl), by decide +kernel, by decide, fun h => absurd h (by decide), fun _ => ⟨"StockYard", List.mem_filter.mpr ⟨(hQ1 (i := 123) (by decide +kernel)), rfl⟩⟩, fun h => absurd h (by decide), fun h => absurd h (by decide), fun _ => ⟨(gQ1 (i := 124) (by decide +kernel) rfl), rfl, rfl⟩⟩
theorem kmS_46 : calOk "StockYard" 46 (mP_init, 1, 2) := ⟨(gQ1 (i := 142) (by decide +kernel) rfl), (gQ1 (i := 9) (by decide +kernel) rfl), by decide +kernel, by decide, fun _ => (gQ1 (i := 140) (by decide +kernel) rfl), fun h => absurd h (by decide), fun h => absurd h (by decide), fun h => absurd h (by decide), fun _ => ⟨(gQ1 (i := 141) (by decide +kernel) rfl), rfl, rfl⟩⟩
theorem kmS_55 : calOk "StockYard" 55 (mR_init, 0, 5) := ⟨(gQ1 (i := 221) (by decide +kernel) rfl), (gQ1 (i := 11) (by decide +kernel) rfl), by decide +kernel, by decide, fun h => absurd h (by decide), fun _ => ⟨"StockYard", List.mem_filter.mpr ⟨(hQ1 (i := 219) (by decide +kernel)), rfl⟩⟩, fun h => absurd h (by decide), fun h => absurd h (by decide), fun _ => ⟨(gQ1 (i := 220) (by decide +kernel) rfl), rfl, rfl⟩⟩
theorem kmS_62 : calOk "StockYard" 62 (mW_init, 0, 5) := ⟨(gQ1 (i := 149) (by decide +kernel) rfl), (gQ1 (i := 10) (by decide +kernel) rfl), by decide +kernel, by decide, fun h => absurd h (by decide), fun _ => ⟨"StockYard", List.mem_filter.mpr ⟨(hQ1 (i := 236) (by decide +kernel)), rfl⟩⟩, fun h => absurd h (by decide), fun h => absurd h (by decide), fun _ => ⟨(gQ1 (i := 148) (by decide +kernel) rfl), rfl, rfl⟩⟩
theorem kmS_75 : calOk "StockYard" 75 (mS_within, 3, 1) := ⟨(gQ2 (i := 34) (by decide +kernel) rfl), (gQ1 (i := 1) (by decide +kernel) rfl), by decide +kernel, by decide, fun _ => (gQ2 (i := 32) (by decide +kernel) rfl), fun h => absurd h (by decide), fun h => absurd h (by decide), fun _ => (gQ2 (i := 33) (by decide +kernel) rfl), fun h => absurd h (by decide)⟩
theorem kmS_79 : calOk "StockYard" 79 (mS_refuse, 1, 0) := ⟨(gQ2 (i := 38) (by decide +kernel) rfl), (gQ1 (i := 1) (by decide +kernel) rfl), by decide +kernel, by decide, fun _ => (gQ2 (i := 35) (by decide +kernel) rfl), fun h => absurd h (by decide), fun _ => ⟨(gQ2 (i := 37) (by decide +kernel) rfl), (gP1 (i := 0) (by decide +kernel) rfl)⟩, fun h => absurd h (by decide), fun h => absurd h (by decide)⟩
theorem kmS_86 : calOk "StockYard" 86 (mY_addPlace, 1, 0) := ⟨(gQ2 (i := 42) (by decide +kernel) rfl), (gQ1 (i := 2) (by decide +kernel) rfl), by decide +kernel, by decide, fun _ => (gQ2 (i := 39) (by decide +kernel) rfl), fun h => absurd h (by decide), fun _ => ⟨(gQ2 (i := 40) (by decide +kernel) rfl), (gQ2 (i := 41) (by decide +kernel) rfl)⟩, fun h => absurd h (by decide), fun h => absurd h (by decide)⟩
theorem kmS_89 : calOk "StockYard" 89 (mY_hasPlace, 1, 0) := ⟨(gQ2 (i := 51) (by decide +kernel) rfl), (gQ1 (i := 2) (by decide +kernel) rfl), by decide +kernel, by decide, fun _ => (gQ2 (i := 48) (by decide +kernel) rfl), fun h => absurd h (by decide), fun _ => ⟨(gQ2 (i := 49) (by decide +kernel) rfl), (gQ2 (i := 50) (by decide +kernel) rfl)⟩, fun h => absurd h (by decide), fun h => absurd h (by decide)⟩
theorem kmS_96 : calOk "StockYard" 96 (mL_size, 0, 0) := ⟨(gQ2 (i := 55) (by decide +kernel) rfl), (gQ1 (i := 5) (by decide +kernel) rfl), by decide +kernel, by decide, fun _ => (gQ2 (i := 52) (by decide +kernel) rfl), fun h => absurd h (by decide), fun _ => ⟨(gQ2 (i := 53) (by decide +kernel) rfl), (gQ2 (i := 54) (by decide +kernel) rfl)⟩, fun h => absurd h (by decide), fun h => absurd h (by decide)⟩
theorem kmS_100 : calOk "StockYard" 100 (mY_addAlley, 3, 0) := ⟨(gQ2 (i := 59) (by decide +kernel) rfl), (gQ1 (i := 2) (by decide +kernel) rfl), by decide +kernel, by decide, fun _ => (gQ2 (i := 56) (by decide +kernel) rfl), fun h => absurd h (by decide), fun _ => ⟨(gQ2 (i := 57) (by decide +kernel) rfl), (gQ2 (i := 58) (by decide +kernel) rfl)⟩, fun h => absurd h (by decide), fun h => absurd h (by decide)⟩
theorem kmS_104 : calOk "StockYard" 104 (mY_find, 3, 0) := ⟨(gQ2 (i := 158) (by decide +kernel) rfl), (gQ1 (i := 2) (by decide +kernel) rfl), by decide +kernel, by decide, fun _ => (gQ2 (i := 155) (by decide +kernel) rfl), fun h => absurd h (by decide), fun _ => ⟨(gQ2 (i := 156) (by decide +kernel) rfl), (gQ2 (i := 157) (by decide +kernel) rfl)⟩, fun h => absurd h (by decide), fun h => absurd h (by decide)⟩
theorem kmS_114 : calOk "StockYard" 114 (mW_alleyAt, 1, 0) := ⟨(gQ2 (i := 200) (by decide +kernel) rfl), (gQ1 (i := 10) (by decide +kernel) rfl), by decide +kernel, by decide, fun _ => (gQ2 (i := 197) (by decide +kernel) rfl), fun h => absurd h (by decide), fun _ => ⟨(gQ2 (i := 198) (by decide +kernel) rfl), (gQ2 (i := 199) (by decide +kernel) rfl)⟩, fun h => absurd h (by decide), fun h => absurd h (by decide)⟩
theorem kmS_117 : calOk "StockYard" 117 (mS_tellsOwner, 1, 1) := ⟨(gQ2 (i := 207) (by decide +kernel) rfl), (gQ1 (i := 1) (by decide +kernel) rfl), by decide +kernel, by decide, fun _ => (gQ2 (i := 205) (by decide +kernel) rfl), fun h => absurd h (by decide), fun h => absurd h (by decide), fun _ => (gQ2 (i := 206) (by decide +kernel) rfl), fun h => absurd h (by decide)⟩
theorem kmS_328 : calOk "StockYard" 328 (mS_isOwner, 1, 1) := ⟨(gQ2 (i := 210) (by decide +kernel) rfl), (gQ1 (i := 1) (by decide +kernel) rfl), by decide +kernel, by decide, fun _ => (gQ2 (i := 208) (by decide +kernel) rfl), fun h => absurd h (by decide), fun h => absurd h (by decide), fun _ => (gQ2 (i := 209) (by decide +kernel) rfl), fun h => absurd h (by decide)⟩
theorem kmS_120 : calOk "StockYard" 120 (mY_kindOf, 1, 0) := ⟨(gQ2 (i := 214) (by decide +kernel) rfl), (gQ1 (i := 2) (by decide +kernel) rfl), by decide +kernel, by decide, fun _ => (gQ2 (i := 211) (by decide +kernel) rfl), fun h => absurd h (by decide), fun _ => ⟨(gQ2 (i := 212) (by decide +kernel) rfl), (gQ2 (i := 213) (by decide +kernel) rfl)⟩, fun h => absurd h (by decide), fun h => absurd h (by decide)⟩
theorem kmS_123 : calOk "StockYard" 123 (mS_tellsHeads, 1, 1) := ⟨(gQ2 (i := 217) (by decide +kernel) rfl), (gQ1 (i := 1) (by decide +kernel) rfl), by decide +kernel, by decide, fun _ => (gQ2 (i := 215) (by decide +kernel) rfl), fun h => absurd h (by decide), fun h => absurd h (by decide), fun _ => (gQ2 (i := 216) (by decide +kernel) rfl), fun h => absurd h (by decide)⟩
theorem kmS_126 : calOk "StockYard" 126 (mS_isMark, 1, 1) := ⟨(gQ2 (i := 220) (by decide +kernel) rfl), (gQ1 (i := 1) (by decide +kernel) rfl), by decide +kernel, by decide, fun _ => (gQ2 (i := 218) (by decide +kernel) rfl), fun h => absurd h (by decide), fun h => absurd h (by decide), fun _ => (gQ2 (i := 219) (by decide +kernel) rfl), fun h => absurd h (by decide)⟩
theorem kmS_129 : calOk "StockYard" 129 (mS_hasLot, 1, 0) := ⟨(gQ2 (i := 224) (by decide +kernel) rfl), (gQ1 (i := 1) (by decide +kernel) rfl), by decide +kernel, by decide, fun _ => (gQ2 (i := 221) (by decide +kernel) rfl), fun h => absurd h (by decide), fun _ => ⟨(gQ2 (i := 223) (by decide +kernel) rfl), (gP1 (i := 6) (by decide +kernel) rfl)⟩, fun h => absurd h (by decide), fun h => absurd h (by decide)⟩
theorem kmS_277 : calOk "StockYard" 277 (mL_get, 1, 0) := ⟨(gQ2 (i := 170) (by decide +kernel) rfl), (gQ1 (i := 5) (by decide +kernel) rfl), by decide +kernel, by decide, fun _ => (gQ2 (i := 225) (by decide +kernel) rfl), fun h => absurd h (by decide), fun _ => ⟨(gQ2 (i := 168) (by decide +kernel) rfl), (gQ2 (i := 169) (by decide +kernel) rfl)⟩, fun h => absurd h (by decide), fun h => absurd h (by decide)⟩
theorem kmS_134 : calOk "StockYard" 134 (mO_init, 7, 2) := ⟨(gQ2 (i := 230) (by decide +kernel) rfl), (gQ1 (i := 20) (by decide +kernel) rfl), by decide +kernel, by decide, fun _ => (gQ2 (i := 228) (by decide +kernel) rfl), fun h => absurd h (by decide), fun h => absurd h (by decide), fun h => absurd h (by decide), fun _ => ⟨(gQ2 (i := 229) (by decide +kernel) rfl), rfl, rfl⟩⟩
theorem kmS_137 : calOk "StockYard" 137 (mS_admit, 1, 0) := ⟨(gQ3 (i := 87) (by decide +kernel) rfl), (gQ1 (i := 1) (by decide +kernel) rfl), by decide +kernel, by decide, fun _ => (gQ3 (i := 84) (by decide +kernel) rfl), fun h => absurd h (by decide), fun _ => ⟨(gQ3 (i := 86) (by decide +kernel) rfl), (gP1 (i := 7) (by decide +kernel) rfl)⟩, fun h => absurd h (by decide), fun h => absurd h (by decide)⟩
theorem kmS_274 : calOk "StockYard" 274 (mL_add1z, 1, 0) := ⟨(gQ2 (i := 86) (by decide +kernel) rfl), (gQ1 (i := 5) (by decide +kernel) rfl), by decide +kernel, by decide, fun _ => (gQ3 (i := 88) (by decide +kernel) rfl), fun h => absurd h (by decide), fun _ => ⟨(gQ2 (i := 84) (by decide +kernel) rfl), (gQ2 (i := 85) (by decide +kernel) rfl)⟩, fun h => absurd h (by decide), fun h => absurd h (by decide)⟩
theorem kmS_141 : calOk "StockYard" 141 (mS_lotAt, 1, 0) := ⟨(gQ3 (i := 96) (by decide +kernel) rfl), (gQ1 (i := 1) (by decide +kernel) rfl), by decide +kernel, by decide, fun _ => (gQ3 (i := 93) (by decide +kernel) rfl), fun h => absurd h (by decide), fun _ => ⟨(gQ3 (i := 95) (by decide +kernel) rfl), (gP1 (i := 8) (by decide +kernel) rfl)⟩, fun h => absurd h (by decide), fun h => absurd h (by decide)⟩
theorem kmS_148 : calOk "StockYard" 148 (mS_isIn, 2, 0) := ⟨(gQ3 (i := 100) (by decide +kernel) rfl), (gQ1 (i := 1) (by decide +kernel) rfl), by decide +kernel, by decide, fun _ => (gQ3 (i := 97) (by decide +kernel) rfl), fun h => absurd h (by decide), fun _ => ⟨(gQ3 (i := 99) (by decide +kernel) rfl), (gP1 (i := 9) (by decide +kernel) rfl)⟩, fun h => absurd h (by decide), fun h => absurd h (by decide)⟩
theorem kmS_176 : calOk "StockYard" 176 (mO_thirst, 1, 0) := ⟨(gQ3 (i := 108) (by decide +kernel) rfl), (gQ1 (i := 20) (by decide +kernel) rfl), by decide +kernel, by decide, fun _ => (gQ3 (i := 105) (by decide +kernel) rfl), fun h => absurd h (by decide), fun _ => ⟨(gQ3 (i := 106) (by decide +kernel) rfl), (gQ3 (i := 107) (by decide +kernel) rfl)⟩, fun h => absurd h (by decide), fun h => absurd h (by decide)⟩
theorem kmS_179 : calOk "StockYard" 179 (mB_isDry, 2, 0) := ⟨(gQ3 (i := 112) (by decide +kernel) rfl), (gQ1 (i := 7) (by decide +kernel) rfl), by decide +kernel, by decide, fun _ => (gQ3 (i := 109) (by decide +kernel) rfl), fun h => absurd h (by decide), fun _ => ⟨(gQ3 (i := 110) (by decide +kernel) rfl), (gQ3 (i := 111) (by decide +kernel) rfl)⟩, fun h => absurd h (by decide), fun h => absurd h (by decide)⟩
theorem kmS_182 : calOk "StockYard" 182 (mS_isInDoubt, 1, 0) := ⟨(gQ3 (i := 137) (by decide +kernel) rfl), (gQ1 (i := 1) (by decide +kernel) rfl), by decide +kernel, by decide, fun _ => (gQ3 (i := 134) (by decide +kernel) rfl), fun h => absurd h (by decide), fun _ => ⟨(gQ3 (i := 136) (by decide +kernel) rfl), (gP1 (i := 11) (by decide +kernel) rfl)⟩, fun h => absurd h (by decide), fun h => absurd h (by decide)⟩
theorem kmS_383 : calOk "StockYard" 383 (mK_doubt, 2, 0) := ⟨(gQ3 (i := 141) (by decide +kernel) rfl), (gQ1 (i := 8) (by decide +kernel) rfl), by decide +kernel, by decide, fun _ => (gQ3 (i := 138) (by decide +kernel) rfl), fun h => absurd h (by decide), fun _ => ⟨(gQ3 (i := 139) (by decide +kernel) rfl), (gQ3 (i := 140) (by decide +kernel) rfl)⟩, fun h => absurd h (by decide), fun h => absurd h (by decide)⟩
theorem kmS_202 : calOk "StockYard" 202 (mS_mayBeDriven, 1, 0) := ⟨(gQ3 (i := 156) (by decide +kernel) rfl), (gQ1 (i := 1) (by decide +kernel) rfl), by decide +kernel, by decide, fun _ => (gQ3 (i := 153) (by decide +kernel) rfl), fun h => absurd h (by decide), fun _ => ⟨(gQ3 (i := 155) (by decide +kernel) rfl), (gP1 (i := 12) (by decide +kernel) rfl)⟩, fun h => absurd h (by decide), fun h => absurd h (by decide)⟩
theorem kmS_380 : calOk "StockYard" 380 (mO_isOnWay, 0, 0) := ⟨(gQ3 (i := 160) (by decide +kernel) rfl), (gQ1 (i := 20) (by decide +kernel) rfl), by decide +kernel, by decide, fun _ => (gQ3 (i := 157) (by decide +kernel) rfl), fun h => absurd h (by decide), fun _ => ⟨(gQ3 (i := 158) (by decide +kernel) rfl), (gQ3 (i := 159) (by decide +kernel) rfl)⟩, fun h => absurd h (by decide), fun h => absurd h (by decide)⟩
theorem kmS_205 : calOk "StockYard" 205 (mY_firstFree, 2, 0) := ⟨(gQ3 (i := 164) (by decide +kernel) rfl), (gQ1 (i := 2) (by decide +kernel) rfl), by decide +kernel, by decide, fun _ => (gQ3 (i := 161) (by decide +kernel) rfl), fun h => absurd h (by decide), fun _ => ⟨(gQ3 (i := 162) (by decide +kernel) rfl), (gQ3 (i := 163) (by decide +kernel) rfl)⟩, fun h => absurd h (by decide), fun h => absurd h (by decide)⟩
theorem kmS_209 : calOk "StockYard" 209 (mY_take, 2, 0) := ⟨(gQ3 (i := 185) (by decide +kernel) rfl), (gQ1 (i := 2) (by decide +kernel) rfl), by decide +kernel, by decide, fun _ => (gQ3 (i := 182) (by decide +kernel) rfl), fun h => absurd h (by decide), fun _ => ⟨(gQ3 (i := 183) (by decide +kernel) rfl), (gQ3 (i := 184) (by decide +kernel) rfl)⟩, fun h => absurd h (by decide), fun h => absurd h (by decide)⟩
theorem kmS_213 : calOk "StockYard" 213 (mO_leave, 2, 0) := ⟨(gQ3 (i := 193) (by decide +kernel) rfl), (gQ1 (i := 20) (by decide +kernel) rfl), by decide +kernel, by decide, fun _ => (gQ3 (i := 190) (by decide +kernel) rfl), fun h => absurd h (by decide), fun _ => ⟨(gQ3 (i := 191) (by decide +kernel) rfl), (gQ3 (i := 192) (by decide +kernel) rfl)⟩, fun h => absurd h (by decide), fun h => absurd h (by decide)⟩
theorem kmS_217 : calOk "StockYard" 217 (mE_isSold, 0, 0) := ⟨(gQ3 (i := 205) (by decide +kernel) rfl), (gQ1 (i := 21) (by decide +kernel) rfl), by decide +kernel, by decide, fun _ => (gQ3 (i := 202) (by decide +kernel) rfl), fun h => absurd h (by decide), fun _ => ⟨(gQ3 (i := 203) (by decide +kernel) rfl), (gQ3 (i := 204) (by decide +kernel) rfl)⟩, fun h => absurd h (by decide), fun h => absurd h (by decide)⟩
theorem kmS_221 : calOk "StockYard" 221 (mS_arePens, 1, 0) := ⟨(gQ3 (i := 213) (by decide +kernel) rfl), (gQ1 (i := 1) (by decide +kernel) rfl), by decide +kernel, by decide, fun _ => (gQ3 (i := 210) (by decide +kernel) rfl), fun h => absurd h (by decide), fun _ => ⟨(gQ3 (i := 212) (by decide +kernel) rfl), (gP1 (i := 15) (by decide +kernel) rfl)⟩, fun h => absurd h (by decide), fun h => absurd h (by decide)⟩
theorem kmS_397 : calOk "StockYard" 397 (mS_inSet, 2, 1) := ⟨(gQ3 (i := 216) (by decide +kernel) rfl), (gQ1 (i := 1) (by decide +kernel) rfl), by decide +kernel, by decide, fun _ => (gQ3 (i := 214) (by decide +kernel) rfl), fun h => absurd h (by decide), fun h => absurd h (by decide), fun _ => (gQ3 (i := 215) (by decide +kernel) rfl), fun h => absurd h (by decide)⟩
theorem kmS_224 : calOk "StockYard" 224 (mJi_bitCount, 1, 1) := ⟨(gQ3 (i := 219) (by decide +kernel) rfl), (gQ1 (i := 23) (by decide +kernel) rfl), by decide +kernel, by decide, fun _ => (gQ3 (i := 217) (by decide +kernel) rfl), fun h => absurd h (by decide), fun h => absurd h (by decide), fun _ => (gQ3 (i := 218) (by decide +kernel) rfl), fun h => absurd h (by decide)⟩
theorem kmS_229 : calOk "StockYard" 229 (mS_mayAllBeDriven, 1, 0) := ⟨(gQ3 (i := 226) (by decide +kernel) rfl), (gQ1 (i := 1) (by decide +kernel) rfl), by decide +kernel, by decide, fun _ => (gQ3 (i := 223) (by decide +kernel) rfl), fun h => absurd h (by decide), fun _ => ⟨(gQ3 (i := 225) (by decide +kernel) rfl), (gP2 (i := 0) (by decide +kernel) rfl)⟩, fun h => absurd h (by decide), fun h => absurd h (by decide)⟩
theorem kmS_232 : calOk "StockYard" 232 (mS_hasLotInOne, 1, 0) := ⟨(gQ3 (i := 230) (by decide +kernel) rfl), (gQ1 (i := 1) (by decide +kernel) rfl), by decide +kernel, by decide, fun _ => (gQ3 (i := 227) (by decide +kernel) rfl), fun h => absurd h (by decide), fun _ => ⟨(gQ3 (i := 229) (by decide +kernel) rfl), (gP2 (i := 1) (by decide +kernel) rfl)⟩, fun h => absurd h (by decide), fun h => absurd h (by decide)⟩
theorem kmS_235 : calOk "StockYard" 235 (mS_readyPlanner, 2, 0) := ⟨(gQ3 (i := 234) (by decide +kernel) rfl), (gQ1 (i := 1) (by decide +kernel) rfl), by decide +kernel, by decide, fun _ => (gQ3 (i := 231) (by decide +kernel) rfl), fun h => absurd h (by decide), fun _ => ⟨(gQ3 (i := 233) (by decide +kernel) rfl), (gP2 (i := 2) (by decide +kernel) rfl)⟩, fun h => absurd h (by decide), fun h => absurd h (by decide)⟩
theorem kmS_400 : calOk "StockYard" 400 (mP_clear, 0, 0) := ⟨(gQ3 (i := 238) (by decide +kernel) rfl), (gQ1 (i := 9) (by decide +kernel) rfl), by decide +kernel, by decide, fun _ => (gQ3 (i := 235) (by decide +kernel) rfl), fun h => absurd h (by decide), fun _ => ⟨(gQ3 (i := 236) (by decide +kernel) rfl), (gQ3 (i := 237) (by decide +kernel) rfl)⟩, fun h => absurd h (by decide), fun h => absurd h (by decide)⟩
theorem kmS_403 : calOk "StockYard" 403 (mP_addPen, 1, 0) := ⟨(gQ4 (i := 2) (by decide +kernel) rfl), (gQ1 (i := 9) (by decide +kernel) rfl), by decide +kernel, by decide, fun _ => (gQ3 (i := 239) (by decide +kernel) rfl), fun h => absurd h (by decide), fun _ => ⟨(gQ4 (i := 0) (by decide +kernel) rfl), (gQ4 (i := 1) (by decide +kernel) rfl)⟩, fun h => absurd h (by decide), fun h => absurd h (by decide)⟩
theorem kmS_406 : calOk "StockYard" 406 (mP_addLot, 2, 0) := ⟨(gQ4 (i := 6) (by decide +kernel) rfl), (gQ1 (i := 9) (by decide +kernel) rfl), by decide +kernel, by decide, fun _ => (gQ4 (i := 3) (by decide +kernel) rfl), fun h => absurd h (by decide), fun _ => ⟨(gQ4 (i := 4) (by decide +kernel) rfl), (gQ4 (i := 5) (by decide +kernel) rfl)⟩, fun h => absurd h (by decide), fun h => absurd h (by decide)⟩
theorem kmS_238 : calOk "StockYard" 238 (mP_search, 1, 0) := ⟨(gQ4 (i := 11) (by decide +kernel) rfl), (gQ1 (i := 9) (by decide +kernel) rfl), by decide +kernel, by decide, fun _ => (gQ4 (i := 8) (by decide +kernel) rfl), fun h => absurd h (by decide), fun _ => ⟨(gQ4 (i := 9) (by decide +kernel) rfl), (gQ4 (i := 10) (by decide +kernel) rfl)⟩, fun h => absurd h (by decide), fun h => absurd h (by decide)⟩
theorem kmS_247 : calOk "StockYard" 247 (mP_plannedLot, 1, 0) := ⟨(gQ4 (i := 44) (by decide +kernel) rfl), (gQ1 (i := 9) (by decide +kernel) rfl), by decide +kernel, by decide, fun _ => (gQ4 (i := 41) (by decide +kernel) rfl), fun h => absurd h (by decide), fun _ => ⟨(gQ4 (i := 42) (by decide +kernel) rfl), (gQ4 (i := 43) (by decide +kernel) rfl)⟩, fun h => absurd h (by decide), fun h => absurd h (by decide)⟩
theorem kmS_250 : calOk "StockYard" 250 (mP_plannedPen, 1, 0) := ⟨(gQ4 (i := 48) (by decide +kernel) rfl), (gQ1 (i := 9) (by decide +kernel) rfl), by decide +kernel, by decide, fun _ => (gQ4 (i := 45) (by decide +kernel) rfl), fun h => absurd h (by decide), fun _ => ⟨(gQ4 (i := 46) (by decide +kernel) rfl), (gQ4 (i := 47) (by decide +kernel) rfl)⟩, fun h => absurd h (by decide), fun h => absurd h (by decide)⟩
theorem kmS_255 : calOk "StockYard" 255 (mT_add, 1, 0) := ⟨(gQ4 (i := 56) (by decide +kernel) rfl), (gQ1 (i := 6) (by decide +kernel) rfl), by decide +kernel, by decide, fun _ => (gQ4 (i := 53) (by decide +kernel) rfl), fun h => absurd h (by decide), fun _ => ⟨(gQ4 (i := 54) (by decide +kernel) rfl), (gQ4 (i := 55) (by decide +kernel) rfl)⟩, fun h => absurd h (by decide), fun h => absurd h (by decide)⟩
theorem kmS_265 : calOk "StockYard" 265 (mU_init, 2, 2) := ⟨(gQ4 (i := 69) (by decide +kernel) rfl), (gQ1 (i := 22) (by decide +kernel) rfl), by decide +kernel, by decide, fun _ => (gQ4 (i := 67) (by decide +kernel) rfl), fun h => absurd h (by decide), fun h => absurd h (by decide), fun h => absurd h (by decide), fun _ => ⟨(gQ4 (i := 68) (by decide +kernel) rfl), rfl, rfl⟩⟩
theorem kmS_267 : calOk "StockYard" 267 (mT_readRule, 1, 0) := ⟨(gQ4 (i := 107) (by decide +kernel) rfl), (gQ1 (i := 6) (by decide +kernel) rfl), by decide +kernel, by decide, fun _ => (gQ4 (i := 104) (by decide +kernel) rfl), fun h => absurd h (by decide), fun _ => ⟨(gQ4 (i := 105) (by decide +kernel) rfl), (gQ4 (i := 106) (by decide +kernel) rfl)⟩, fun h => absurd h (by decide), fun h => absurd h (by decide)⟩
theorem kmS_281 : calOk "StockYard" 281 (mU_appliesTo, 3, 0) := ⟨(gQ3 (i := 124) (by decide +kernel) rfl), (gQ1 (i := 22) (by decide +kernel) rfl), by decide +kernel, by decide, fun _ => (gQ4 (i := 205) (by decide +kernel) rfl), fun h => absurd h (by decide), fun _ => ⟨(gQ3 (i := 122) (by decide +kernel) rfl), (gQ3 (i := 123) (by decide +kernel) rfl)⟩, fun h => absurd h (by decide), fun h => absurd h (by decide)⟩
theorem kmS_285 : calOk "StockYard" 285 (mB_saying, 4, 0) := ⟨(gQ3 (i := 117) (by decide +kernel) rfl), (gQ1 (i := 7) (by decide +kernel) rfl), by decide +kernel, by decide, fun _ => (gQ4 (i := 210) (by decide +kernel) rfl), fun h => absurd h (by decide), fun _ => ⟨(gQ3 (i := 115) (by decide +kernel) rfl), (gQ3 (i := 116) (by decide +kernel) rfl)⟩, fun h => absurd h (by decide), fun h => absurd h (by decide)⟩
theorem kmS_289 : calOk "StockYard" 289 (mS_isBuyer, 1, 1) := ⟨(gQ4 (i := 217) (by decide +kernel) rfl), (gQ1 (i := 1) (by decide +kernel) rfl), by decide +kernel, by decide, fun _ => (gQ4 (i := 215) (by decide +kernel) rfl), fun h => absurd h (by decide), fun h => absurd h (by decide), fun _ => (gQ4 (i := 216) (by decide +kernel) rfl), fun h => absurd h (by decide)⟩
theorem kmS_292 : calOk "StockYard" 292 (mE_wasSeenBy, 1, 0) := ⟨(gQ4 (i := 221) (by decide +kernel) rfl), (gQ1 (i := 21) (by decide +kernel) rfl), by decide +kernel, by decide, fun _ => (gQ4 (i := 218) (by decide +kernel) rfl), fun h => absurd h (by decide), fun _ => ⟨(gQ4 (i := 219) (by decide +kernel) rfl), (gQ4 (i := 220) (by decide +kernel) rfl)⟩, fun h => absurd h (by decide), fun h => absurd h (by decide)⟩
theorem kmS_295 : calOk "StockYard" 295 (mE_show, 1, 0) := ⟨(gQ4 (i := 227) (by decide +kernel) rfl), (gQ1 (i := 21) (by decide +kernel) rfl), by decide +kernel, by decide, fun _ => (gQ4 (i := 224) (by decide +kernel) rfl), fun h => absurd h (by decide), fun _ => ⟨(gQ4 (i := 225) (by decide +kernel) rfl), (gQ4 (i := 226) (by decide +kernel) rfl)⟩, fun h => absurd h (by decide), fun h => absurd h (by decide)⟩
theorem kmS_298 : calOk "StockYard" 298 (mB_bars, 3, 0) := ⟨(gQ4 (i := 235) (by decide +kernel) rfl), (gQ1 (i := 7) (by decide +kernel) rfl), by decide +kernel, by decide, fun _ => (gQ4 (i := 232) (by decide +kernel) rfl), fun h => absurd h (by decide), fun _ => ⟨(gQ4 (i := 233) (by decide +kernel) rfl), (gQ4 (i := 234) (by decide +kernel) rfl)⟩, fun h => absurd h (by decide), fun h => absurd h (by decide)⟩
theorem kmS_302 : calOk "StockYard" 302 (mE_offer, 2, 0) := ⟨(gQ4 (i := 239) (by decide +kernel) rfl), (gQ1 (i := 21) (by decide +kernel) rfl), by decide +kernel, by decide, fun _ => (gQ4 (i := 236) (by decide +kernel) rfl), fun h => absurd h (by decide), fun _ => ⟨(gQ4 (i := 237) (by decide +kernel) rfl), (gQ4 (i := 238) (by decide +kernel) rfl)⟩, fun h => absurd h (by decide), fun h => absurd h (by decide)⟩
theorem kmS_305 : calOk "StockYard" 305 (mE_offers, 0, 0) := ⟨(gQ5 (i := 3) (by decide +kernel) rfl), (gQ1 (i := 21) (by decide +kernel) rfl), by decide +kernel, by decide, fun _ => (gQ5 (i := 0) (by decide +kernel) rfl), fun h => absurd h (by decide), fun _ => ⟨(gQ5 (i := 1) (by decide +kernel) rfl), (gQ5 (i := 2) (by decide +kernel) rfl)⟩, fun h => absurd h (by decide), fun h => absurd h (by decide)⟩
theorem kmS_308 : calOk "StockYard" 308 (mE_close, 0, 0) := ⟨(gQ5 (i := 11) (by decide +kernel) rfl), (gQ1 (i := 21) (by decide +kernel) rfl), by decide +kernel, by decide, fun _ => (gQ5 (i := 8) (by decide +kernel) rfl), fun h => absurd h (by decide), fun _ => ⟨(gQ5 (i := 9) (by decide +kernel) rfl), (gQ5 (i := 10) (by decide +kernel) rfl)⟩, fun h => absurd h (by decide), fun h => absurd h (by decide)⟩
theorem kmS_311 : calOk "StockYard" 311 (mS_weightOf, 1, 0) := ⟨(gQ5 (i := 19) (by decide +kernel) rfl), (gQ1 (i := 1) (by decide +kernel) rfl), by decide +kernel, by decide, fun _ => (gQ5 (i := 16) (by decide +kernel) rfl), fun h => absurd h (by decide), fun _ => ⟨(gQ5 (i := 18) (by decide +kernel) rfl), (gP2 (i := 12) (by decide +kernel) rfl)⟩, fun h => absurd h (by decide), fun h => absurd h (by decide)⟩
theorem kmS_386 : calOk "StockYard" 386 (mJm_max, 2, 1) := ⟨(gQ2 (i := 104) (by decide +kernel) rfl), (gQ1 (i := 15) (by decide +kernel) rfl), by decide +kernel, by decide, fun _ => (gQ5 (i := 20) (by decide +kernel) rfl), fun h => absurd h (by decide), fun h => absurd h (by decide), fun _ => (gQ2 (i := 103) (by decide +kernel) rfl), fun h => absurd h (by decide)⟩
theorem kmS_318 : calOk "StockYard" 318 (mY_offOf, 1, 0) := ⟨(gQ5 (i := 24) (by decide +kernel) rfl), (gQ1 (i := 2) (by decide +kernel) rfl), by decide +kernel, by decide, fun _ => (gQ5 (i := 21) (by decide +kernel) rfl), fun h => absurd h (by decide), fun _ => ⟨(gQ5 (i := 22) (by decide +kernel) rfl), (gQ5 (i := 23) (by decide +kernel) rfl)⟩, fun h => absurd h (by decide), fun h => absurd h (by decide)⟩
theorem kmS_314 : calOk "StockYard" 314 (mE_pay, 3, 0) := ⟨(gQ5 (i := 28) (by decide +kernel) rfl), (gQ1 (i := 21) (by decide +kernel) rfl), by decide +kernel, by decide, fun _ => (gQ5 (i := 25) (by decide +kernel) rfl), fun h => absurd h (by decide), fun _ => ⟨(gQ5 (i := 26) (by decide +kernel) rfl), (gQ5 (i := 27) (by decide +kernel) rfl)⟩, fun h => absurd h (by decide), fun h => absurd h (by decide)⟩
theorem kmS_321 : calOk "StockYard" 321 (mY_setOff, 2, 0) := ⟨(gQ5 (i := 41) (by decide +kernel) rfl), (gQ1 (i := 2) (by decide +kernel) rfl), by decide +kernel, by decide, fun _ => (gQ5 (i := 38) (by decide +kernel) rfl), fun h => absurd h (by decide), fun _ => ⟨(gQ5 (i := 39) (by decide +kernel) rfl), (gQ5 (i := 40) (by decide +kernel) rfl)⟩, fun h => absurd h (by decide), fun h => absurd h (by decide)⟩
theorem kmS_324 : calOk "StockYard" 324 (mS_settle, 2, 0) := ⟨(gQ5 (i := 49) (by decide +kernel) rfl), (gQ1 (i := 1) (by decide +kernel) rfl), by decide +kernel, by decide, fun _ => (gQ5 (i := 46) (by decide +kernel) rfl), fun h => absurd h (by decide), fun _ => ⟨(gQ5 (i := 48) (by decide +kernel) rfl), (gP2 (i := 14) (by decide +kernel) rfl)⟩, fun h => absurd h (by decide), fun h => absurd h (by decide)⟩
theorem kmS_394 : calOk "StockYard" 394 (mE_correct, 1, 0) := ⟨(gQ5 (i := 53) (by decide +kernel) rfl), (gQ1 (i := 21) (by decide +kernel) rfl), by decide +kernel, by decide, fun _ => (gQ5 (i := 50) (by decide +kernel) rfl), fun h => absurd h (by decide), fun _ => ⟨(gQ5 (i := 51) (by decide +kernel) rfl), (gQ5 (i := 52) (by decide +kernel) rfl)⟩, fun h => absurd h (by decide), fun h => absurd h (by decide)⟩
theorem kmS_331 : calOk "StockYard" 331 (mK_ownerOf, 1, 0) := ⟨(gQ3 (i := 145) (by decide +kernel) rfl), (gQ1 (i := 8) (by decide +kernel) rfl), by decide +kernel, by decide, fun _ => (gQ5 (i := 63) (by decide +kernel) rfl), fun h => absurd h (by decide), fun _ => ⟨(gQ3 (i := 143) (by decide +kernel) rfl), (gQ3 (i := 144) (by decide +kernel) rfl)⟩, fun h => absurd h (by decide), fun h => absurd h (by decide)⟩
theorem kmS_335 : calOk "StockYard" 335 (mK_add, 2, 0) := ⟨(gQ5 (i := 67) (by decide +kernel) rfl), (gQ1 (i := 8) (by decide +kernel) rfl), by decide +kernel, by decide, fun _ => (gQ5 (i := 64) (by decide +kernel) rfl), fun h => absurd h (by decide), fun _ => ⟨(gQ5 (i := 65) (by decide +kernel) rfl), (gQ5 (i := 66) (by decide +kernel) rfl)⟩, fun h => absurd h (by decide), fun h => absurd h (by decide)⟩
theorem kmS_337 : calOk "StockYard" 337 (mK_countNear, 1, 0) := ⟨(gQ5 (i := 79) (by decide +kernel) rfl), (gQ1 (i := 8) (by decide +kernel) rfl), by decide +kernel, by decide, fun _ => (gQ5 (i := 76) (by decide +kernel) rfl), fun h => absurd h (by decide), fun _ => ⟨(gQ5 (i := 77) (by decide +kernel) rfl), (gQ5 (i := 78) (by decide +kernel) rfl)⟩, fun h => absurd h (by decide), fun h => absurd h (by decide)⟩
theorem kmS_343 : calOk "StockYard" 343 (mY_forgetBefore, 1, 0) := ⟨(gQ5 (i := 91) (by decide +kernel) rfl), (gQ1 (i := 2) (by decide +kernel) rfl), by decide +kernel, by decide, fun _ => (gQ5 (i := 88) (by decide +kernel) rfl), fun h => absurd h (by decide), fun _ => ⟨(gQ5 (i := 89) (by decide +kernel) rfl), (gQ5 (i := 90) (by decide +kernel) rfl)⟩, fun h => absurd h (by decide), fun h => absurd h (by decide)⟩
theorem kmS_346 : calOk "StockYard" 346 (mO_arrive, 1, 0) := ⟨(gQ5 (i := 99) (by decide +kernel) rfl), (gQ1 (i := 20) (by decide +kernel) rfl), by decide +kernel, by decide, fun _ => (gQ5 (i := 96) (by decide +kernel) rfl), fun h => absurd h (by decide), fun _ => ⟨(gQ5 (i := 97) (by decide +kernel) rfl), (gQ5 (i := 98) (by decide +kernel) rfl)⟩, fun h => absurd h (by decide), fun h => absurd h (by decide)⟩
theorem kmS_349 : calOk "StockYard" 349 (mS_lotsOnWay, 0, 0) := ⟨(gQ5 (i := 108) (by decide +kernel) rfl), (gQ1 (i := 1) (by decide +kernel) rfl), by decide +kernel, by decide, fun _ => (gQ5 (i := 105) (by decide +kernel) rfl), fun h => absurd h (by decide), fun _ => ⟨(gQ5 (i := 107) (by decide +kernel) rfl), (gP2 (i := 15) (by decide +kernel) rfl)⟩, fun h => absurd h (by decide), fun h => absurd h (by decide)⟩
theorem kmS_352 : calOk "StockYard" 352 (mS_dryLots, 0, 0) := ⟨(gQ5 (i := 112) (by decide +kernel) rfl), (gQ1 (i := 1) (by decide +kernel) rfl), by decide +kernel, by decide, fun _ => (gQ5 (i := 109) (by decide +kernel) rfl), fun h => absurd h (by decide), fun _ => ⟨(gQ5 (i := 111) (by decide +kernel) rfl), (gP3 (i := 0) (by decide +kernel) rfl)⟩, fun h => absurd h (by decide), fun h => absurd h (by decide)⟩
theorem kmS_355 : calOk "StockYard" 355 (mS_soldLots, 0, 0) := ⟨(gQ5 (i := 116) (by decide +kernel) rfl), (gQ1 (i := 1) (by decide +kernel) rfl), by decide +kernel, by decide, fun _ => (gQ5 (i := 113) (by decide +kernel) rfl), fun h => absurd h (by decide), fun _ => ⟨(gQ5 (i := 115) (by decide +kernel) rfl), (gP3 (i := 1) (by decide +kernel) rfl)⟩, fun h => absurd h (by decide), fun h => absurd h (by decide)⟩
theorem kmS_358 : calOk "StockYard" 358 (mS_headsAtHooks, 0, 0) := ⟨(gQ5 (i := 120) (by decide +kernel) rfl), (gQ1 (i := 1) (by decide +kernel) rfl), by decide +kernel, by decide, fun _ => (gQ5 (i := 117) (by decide +kernel) rfl), fun h => absurd h (by decide), fun _ => ⟨(gQ5 (i := 119) (by decide +kernel) rfl), (gP3 (i := 2) (by decide +kernel) rfl)⟩, fun h => absurd h (by decide), fun h => absurd h (by decide)⟩
theorem kmS_361 : calOk "StockYard" 361 (mR_begin, 1, 0) := ⟨(gQ5 (i := 128) (by decide +kernel) rfl), (gQ1 (i := 11) (by decide +kernel) rfl), by decide +kernel, by decide, fun _ => (gQ5 (i := 125) (by decide +kernel) rfl), fun h => absurd h (by decide), fun _ => ⟨(gQ5 (i := 126) (by decide +kernel) rfl), (gQ5 (i := 127) (by decide +kernel) rfl)⟩, fun h => absurd h (by decide), fun h => absurd h (by decide)⟩
theorem kmS_364 : calOk "StockYard" 364 (mR_addAt, 2, 0) := ⟨(gQ5 (i := 133) (by decide +kernel) rfl), (gQ1 (i := 11) (by decide +kernel) rfl), by decide +kernel, by decide, fun _ => (gQ5 (i := 130) (by decide +kernel) rfl), fun h => absurd h (by decide), fun _ => ⟨(gQ5 (i := 131) (by decide +kernel) rfl), (gQ5 (i := 132) (by decide +kernel) rfl)⟩, fun h => absurd h (by decide), fun h => absurd h (by decide)⟩
theorem kmS_371 : calOk "StockYard" 371 (mR_at, 1, 0) := ⟨(gQ5 (i := 145) (by decide +kernel) rfl), (gQ1 (i := 11) (by decide +kernel) rfl), by decide +kernel, by decide, fun _ => (gQ5 (i := 142) (by decide +kernel) rfl), fun h => absurd h (by decide), fun _ => ⟨(gQ5 (i := 143) (by decide +kernel) rfl), (gQ5 (i := 144) (by decide +kernel) rfl)⟩, fun h => absurd h (by decide), fun h => absurd h (by decide)⟩
theorem kmS_373 : calOk "StockYard" 373 (mR_spans, 2, 0) := ⟨(gQ5 (i := 153) (by decide +kernel) rfl), (gQ1 (i := 11) (by decide +kernel) rfl), by decide +kernel, by decide, fun _ => (gQ5 (i := 150) (by decide +kernel) rfl), fun h => absurd h (by decide), fun _ => ⟨(gQ5 (i := 151) (by decide +kernel) rfl), (gQ5 (i := 152) (by decide +kernel) rfl)⟩, fun h => absurd h (by decide), fun h => absurd h (by decide)⟩
theorem kmS_377 : calOk "StockYard" 377 (mR_move, 3, 0) := ⟨(gQ5 (i := 157) (by decide +kernel) rfl), (gQ1 (i := 11) (by decide +kernel) rfl), by decide +kernel, by decide, fun _ => (gQ5 (i := 154) (by decide +kernel) rfl), fun h => absurd h (by decide), fun _ => ⟨(gQ5 (i := 155) (by decide +kernel) rfl), (gQ5 (i := 156) (by decide +kernel) rfl)⟩, fun h => absurd h (by decide), fun h => absurd h (by decide)⟩
set_option maxRecDepth 100000 in
theorem faS : ∀ q ∈ flS, fldOk "StockYard" q.1 q.2.1 q.2.2 := List.forall_mem_cons.mpr ⟨kfS_93, List.forall_mem_cons.mpr ⟨kfS_83, List.forall_mem_cons.mpr ⟨kfS_253, List.forall_mem_cons.mpr ⟨kfS_271, List.forall_mem_cons.mpr ⟨kfS_260, List.forall_mem_cons.mpr ⟨kfS_334, List.forall_mem_cons.mpr ⟨kfS_111, List.forall_mem_cons.mpr ⟨kfS_108, List.forall_mem_cons.mpr ⟨kfS_241, List.forall_mem_cons.mpr ⟨kfS_244, List.forall_mem_cons.mpr ⟨kfS_370, List.forall_mem_cons.mpr ⟨kfS_367, List.forall_mem_cons.mpr ⟨kfS_12, List.forall_mem_cons.mpr ⟨kfS_19, List.forall_mem_cons.mpr ⟨kfS_26, List.forall_mem_cons.mpr ⟨kfS_33, List.forall_mem_cons.mpr ⟨kfS_40, List.forall_mem_cons.mpr ⟨kfS_49, List.forall_mem_cons.mpr ⟨kfS_56, List.forall_mem_cons.mpr ⟨kfS_63, List.forall_mem_cons.mpr ⟨kfS_67, List.forall_mem_cons.mpr ⟨kfS_71, List.forall_mem_cons.mpr ⟨kfS_190, List.forall_mem_cons.mpr ⟨kfS_199, List.forall_mem_cons.mpr ⟨kfS_195, List.forall_mem_cons.mpr ⟨kfS_391, List.forall_mem_cons.mpr ⟨kfS_155, List.forall_mem_cons.mpr ⟨kfS_164, List.forall_mem_cons.mpr ⟨kfS_186, List.forall_mem_cons.mpr ⟨kfS_145, List.forall_mem_cons.mpr ⟨kfS_161, List.forall_mem_cons.mpr ⟨kfS_152, List.forall_mem_cons.mpr ⟨kfS_158, List.forall_mem_cons.mpr ⟨kfS_167, List.forall_mem_cons.mpr ⟨kfS_170, List.forall_mem_cons.mpr ⟨kfS_173, List.forall_mem_cons.mpr ⟨kfS_340, fun q h => absurd h List.not_mem_nil⟩⟩⟩⟩⟩⟩⟩⟩⟩⟩⟩⟩⟩⟩⟩⟩⟩⟩⟩⟩⟩⟩⟩⟩⟩⟩⟩⟩⟩⟩⟩⟩⟩⟩⟩⟩⟩
set_option maxRecDepth 100000 in
theorem maS : ∀ q ∈ mlS, calOk "StockYard" q.1 q.2 := List.forall_mem_cons.mpr ⟨kmS_11, List.forall_mem_cons.mpr ⟨kmS_18, List.forall_mem_cons.mpr ⟨kmS_25, List.forall_mem_cons.mpr ⟨kmS_32, List.forall_mem_cons.mpr ⟨kmS_39, List.forall_mem_cons.mpr ⟨kmS_46, List.forall_mem_cons.mpr ⟨kmS_55, List.forall_mem_cons.mpr ⟨kmS_62, List.forall_mem_cons.mpr ⟨kmS_75, List.forall_mem_cons.mpr ⟨kmS_79, List.forall_mem_cons.mpr ⟨kmS_86, List.forall_mem_cons.mpr ⟨kmS_89, List.forall_mem_cons.mpr ⟨kmS_96, List.forall_mem_cons.mpr ⟨kmS_100, List.forall_mem_cons.mpr ⟨kmS_104, List.forall_mem_cons.mpr ⟨kmS_114, List.forall_mem_cons.mpr ⟨kmS_117, List.forall_mem_cons.mpr ⟨kmS_328, List.forall_mem_cons.mpr ⟨kmS_120, List.forall_mem_cons.mpr ⟨kmS_123, List.forall_mem_cons.mpr ⟨kmS_126, List.forall_mem_cons.mpr ⟨kmS_129, List.forall_mem_cons.mpr ⟨kmS_277, List.forall_mem_cons.mpr ⟨kmS_134, List.forall_mem_cons.mpr ⟨kmS_137, List.forall_mem_cons.mpr ⟨kmS_274, List.forall_mem_cons.mpr ⟨kmS_141, List.forall_mem_cons.mpr ⟨kmS_148, List.forall_mem_cons.mpr ⟨kmS_176, List.forall_mem_cons.mpr ⟨kmS_179, List.forall_mem_cons.mpr ⟨kmS_182, List.forall_mem_cons.mpr ⟨kmS_383, List.forall_mem_cons.mpr ⟨kmS_202, List.forall_mem_cons.mpr ⟨kmS_380, List.forall_mem_cons.mpr ⟨kmS_205, List.forall_mem_cons.mpr ⟨kmS_209, List.forall_mem_cons.mpr ⟨kmS_213, List.forall_mem_cons.mpr ⟨kmS_217, List.forall_mem_cons.mpr ⟨kmS_221, List.forall_mem_cons.mpr ⟨kmS_397, List.forall_mem_cons.mpr ⟨kmS_224, List.forall_mem_cons.mpr ⟨kmS_229, List.forall_mem_cons.mpr ⟨kmS_232, List.forall_mem_cons.mpr ⟨kmS_235, List.forall_mem_cons.mpr ⟨kmS_400, List.forall_mem_cons.mpr ⟨kmS_403, List.forall_mem_cons.mpr ⟨kmS_406, List.forall_mem_cons.mpr ⟨kmS_238, List.forall_mem_cons.mpr ⟨kmS_247, List.forall_mem_cons.mpr ⟨kmS_250, List.forall_mem_cons.mpr ⟨kmS_255, List.forall_mem_cons.mpr ⟨kmS_265, List.forall_mem_cons.mpr ⟨kmS_267, List.forall_mem_cons.mpr ⟨kmS_281, List.forall_mem_cons.mpr ⟨kmS_285, List.forall_mem_cons.mpr ⟨kmS_289, List.forall_mem_cons.mpr ⟨kmS_292, List.forall_mem_cons.mpr ⟨kmS_295, List.forall_mem_cons.mpr ⟨kmS_298, List.forall_mem_cons.mpr ⟨kmS_302, List.forall_mem_cons.mpr ⟨kmS_305, List.forall_mem_cons.mpr ⟨kmS_308, List.forall_mem_cons.mpr ⟨kmS_311, List.forall_mem_cons.mpr ⟨kmS_386, List.forall_mem_cons.mpr ⟨kmS_318, List.forall_mem_cons.mpr ⟨kmS_314, List.forall_mem_cons.mpr ⟨kmS_321, List.forall_mem_cons.mpr ⟨kmS_324, List.forall_mem_cons.mpr ⟨kmS_394, List.forall_mem_cons.mpr ⟨kmS_331, List.forall_mem_cons.mpr ⟨kmS_335, List.forall_mem_cons.mpr ⟨kmS_337, List.forall_mem_cons.mpr ⟨kmS_343, List.forall_mem_cons.mpr ⟨kmS_346, List.forall_mem_cons.mpr ⟨kmS_349, List.forall_mem_cons.mpr ⟨kmS_352, List.forall_mem_cons.mpr ⟨kmS_355, List.forall_mem_cons.mpr ⟨kmS_358, List.forall_mem_cons.mpr ⟨kmS_361, List.forall_mem_cons.mpr ⟨kmS_364, List.forall_mem_cons.mpr ⟨kmS_371, List.forall_mem_cons.mpr ⟨kmS_373, List.forall_mem_cons.mpr ⟨kmS_377, fun q h => absurd h List.not_mem_nil⟩⟩⟩⟩⟩⟩⟩⟩⟩⟩⟩⟩⟩⟩⟩⟩⟩⟩⟩⟩⟩⟩⟩⟩⟩⟩⟩⟩⟩⟩⟩⟩⟩⟩⟩⟩⟩⟩⟩⟩⟩⟩⟩⟩⟩⟩⟩⟩⟩⟩⟩⟩⟩⟩⟩⟩⟩⟩⟩⟩⟩⟩⟩⟩⟩⟩⟩⟩⟩⟩⟩⟩⟩⟩⟩⟩⟩⟩⟩⟩⟩⟩⟩
theorem kaS : ∀ q ∈ klS, (∀ v, q.2 = .inl v → Cond.constant "StockYard" q.1 v ∈ goodT) ∧ ∀ v, q.2 = .inr (.inl v) → Cond.constantLong "StockYard" q.1 v ∈ goodT := List.forall_mem_cons.mpr ⟨⟨fun v h => (by cases h; exact (gQ4 (i := 65) (by decide +kernel) rfl)), fun v h => (by cases h)⟩, fun q h => absurd h List.not_mem_nil⟩
theorem taS : ∀ q ∈ tlS, Cond.classLink "StockYard" q.1 (clsN q.2).1 ∈ goodT := List.forall_mem_cons.mpr ⟨(gQ1 (i := 35) (by decide +kernel) rfl), List.forall_mem_cons.mpr ⟨(gQ1 (i := 88) (by decide +kernel) rfl), List.forall_mem_cons.mpr ⟨(gQ1 (i := 90) (by decide +kernel) rfl), List.forall_mem_cons.mpr ⟨(gQ1 (i := 108) (by decide +kernel) rfl), List.forall_mem_cons.mpr ⟨(gQ1 (i := 121) (by decide +kernel) rfl), List.forall_mem_cons.mpr ⟨(gQ1 (i := 138) (by decide +kernel) rfl), List.forall_mem_cons.mpr ⟨(gQ1 (i := 217) (by decide +kernel) rfl), List.forall_mem_cons.mpr ⟨(gQ1 (i := 235) (by decide +kernel) rfl), List.forall_mem_cons.mpr ⟨(gQ2 (i := 226) (by decide +kernel) rfl), List.forall_mem_cons.mpr ⟨(gQ4 (i := 66) (by decide +kernel) rfl), fun q h => absurd h List.not_mem_nil⟩⟩⟩⟩⟩⟩⟩⟩⟩⟩
theorem eoS : envOk "StockYard" cenS := ⟨fun i c k h => faS _ (alk_mem h), fun i c h => maS _ (alk_mem h), fun i v h => (kaS _ (alk_mem h)).1 v rfl, fun i v h => (kaS _ (alk_mem h)).2 v rfl, fun i c h => taS _ (alk_mem h)⟩
def flY : List (Nat × (Nat × Nat)) := [(12, 1, 0), (18, 1, 1), (22, 1, 2), (27, 1, 3), (30, 1, 4), (89, 8, 2), (73, 9, 2)]
def mlY : List (Nat × Cal) := [(11, mL_init, 0, 2), (41, mA_init, 3, 2), (44, mL_add1z, 1, 0), (48, mY_minutesBetween, 2, 0), (34, mY_hasPlace, 1, 0), (52, mJm_min, 2, 1), (57, mL_size, 0, 0), (61, mW_clear, 0, 0), (66, mY_leastAlleyToward, 2, 0), (69, mL_get, 1, 0), (82, mA_touches, 1, 0), (78, mA_otherEnd, 1, 0), (75, mW_add, 2, 0), (85, mY_putOff, 2, 0), (92, mW_alleyAt, 1, 0), (95, mW_aheadOf, 1, 0), (98, mA_freeFrom, 1, 0), (101, mA_take, 1, 0), (105, mA_giveBack, 0, 0), (108, mA_forgetBefore, 1, 0)]
def klY : List (Nat × AV) := [(38, .inl 1000000)]
def tlY : List (Nat × Nat) := [(9, 2), (39, 9)]
def cenY : CE := (alk flY, alk mlY, alk klY, alk tlY)
theorem kfY_12 : fldOk "StockYard$Yard" 12 1 0 := ⟨by decide, by decide, "StockYard$Yard", (gQ1 (i := 69) (by decide +kernel) rfl), Or.inl rfl⟩
theorem kfY_18 : fldOk "StockYard$Yard" 18 1 1 := ⟨by decide, by decide, "StockYard$Yard", (gQ1 (i := 71) (by decide +kernel) rfl), Or.inl rfl⟩
theorem kfY_22 : fldOk "StockYard$Yard" 22 1 2 := ⟨by decide, by decide, "StockYard$Yard", (gQ1 (i := 72) (by decide +kernel) rfl), Or.inl rfl⟩
theorem kfY_27 : fldOk "StockYard$Yard" 27 1 3 := ⟨by decide, by decide, "StockYard$Yard", (gQ1 (i := 73) (by decide +kernel) rfl), Or.inl rfl⟩
theorem kfY_30 : fldOk "StockYard$Yard" 30 1 4 := ⟨by decide, by decide, "StockYard$Yard", (gQ1 (i := 74) (by decide +kernel) rfl), Or.inl rfl⟩
theorem kfY_89 : fldOk "StockYard$Yard" 89 8 2 := ⟨by decide, by decide, "StockYard$Way", (gQ1 (i := 156) (by decide +kernel) rfl), Or.inl rfl⟩
theorem kfY_73 : fldOk "StockYard$Yard" 73 9 2 := ⟨by decide, by decide, "StockYard$Alley", (gQ2 (i := 69) (by decide +kernel) rfl), Or.inl rfl⟩
theorem kmY_11 : calOk "StockYard$Yard" 11 (mL_init, 0, 2) := ⟨(gQ1 (i := 45) (by decide +kernel) rfl), (gQ1 (i := 5) (by decide +kernel) rfl), by decide +kernel, by decide, fun _ => (gQ1 (i := 43) (by decide +kernel) rfl), fun h => absurd h (by decide), fun h => absurd h (by decide), fun h => absurd h (by decide), fun _ => ⟨(gQ1 (i := 44) (by decide +kernel) rfl), rfl, rfl⟩⟩
theorem kmY_41 : calOk "StockYard$Yard" 41 (mA_init, 3, 2) := ⟨(gQ2 (i := 64) (by decide +kernel) rfl), (gQ1 (i := 13) (by decide +kernel) rfl), by decide +kernel, by decide, fun _ => (gQ2 (i := 62) (by decide +kernel) rfl), fun h => absurd h (by decide), fun h => absurd h (by decide), fun h => absurd h (by decide), fun _ => ⟨(gQ2 (i := 63) (by decide +kernel) rfl), rfl, rfl⟩⟩
theorem kmY_44 : calOk "StockYard$Yard" 44 (mL_add1z, 1, 0) := ⟨(gQ2 (i := 86) (by decide +kernel) rfl), (gQ1 (i := 5) (by decide +kernel) rfl), by decide +kernel, by decide, fun _ => (gQ2 (i := 83) (by decide +kernel) rfl), fun h => absurd h (by decide), fun _ => ⟨(gQ2 (i := 84) (by decide +kernel) rfl), (gQ2 (i := 85) (by decide +kernel) rfl)⟩, fun h => absurd h (by decide), fun h => absurd h (by decide)⟩
theorem kmY_48 : calOk "StockYard$Yard" 48 (mY_minutesBetween, 2, 0) := ⟨(gQ2 (i := 147) (by decide +kernel) rfl), (gQ1 (i := 2) (by decide +kernel) rfl), by decide +kernel, by decide, fun _ => (gQ2 (i := 144) (by decide +kernel) rfl), fun h => absurd h (by decide), fun _ => ⟨(gQ2 (i := 146) (by decide +kernel) rfl), (gP1 (i := 4) (by decide +kernel) rfl)⟩, fun h => absurd h (by decide), fun h => absurd h (by decide)⟩
theorem kmY_34 : calOk "StockYard$Yard" 34 (mY_hasPlace, 1, 0) := ⟨(gQ2 (i := 51) (by decide +kernel) rfl), (gQ1 (i := 2) (by decide +kernel) rfl), by decide +kernel, by decide, fun _ => (gQ2 (i := 148) (by decide +kernel) rfl), fun h => absurd h (by decide), fun _ => ⟨(gQ2 (i := 49) (by decide +kernel) rfl), (gQ2 (i := 50) (by decide +kernel) rfl)⟩, fun h => absurd h (by decide), fun h => absurd h (by decide)⟩
theorem kmY_52 : calOk "StockYard$Yard" 52 (mJm_min, 2, 1) := ⟨(gQ2 (i := 138) (by decide +kernel) rfl), (gQ1 (i := 15) (by decide +kernel) rfl), by decide +kernel, by decide, fun _ => (gQ2 (i := 149) (by decide +kernel) rfl), fun h => absurd h (by decide), fun h => absurd h (by decide), fun _ => (gQ2 (i := 137) (by decide +kernel) rfl), fun h => absurd h (by decide)⟩
theorem kmY_57 : calOk "StockYard$Yard" 57 (mL_size, 0, 0) := ⟨(gQ2 (i := 55) (by decide +kernel) rfl), (gQ1 (i := 5) (by decide +kernel) rfl), by decide +kernel, by decide, fun _ => (gQ2 (i := 150) (by decide +kernel) rfl), fun h => absurd h (by decide), fun _ => ⟨(gQ2 (i := 53) (by decide +kernel) rfl), (gQ2 (i := 54) (by decide +kernel) rfl)⟩, fun h => absurd h (by decide), fun h => absurd h (by decide)⟩
theorem kmY_61 : calOk "StockYard$Yard" 61 (mW_clear, 0, 0) := ⟨(gQ2 (i := 162) (by decide +kernel) rfl), (gQ1 (i := 10) (by decide +kernel) rfl), by decide +kernel, by decide, fun _ => (gQ2 (i := 159) (by decide +kernel) rfl), fun h => absurd h (by decide), fun _ => ⟨(gQ2 (i := 160) (by decide +kernel) rfl), (gQ2 (i := 161) (by decide +kernel) rfl)⟩, fun h => absurd h (by decide), fun h => absurd h (by decide)⟩
theorem kmY_66 : calOk "StockYard$Yard" 66 (mY_leastAlleyToward, 2, 0) := ⟨(gQ2 (i := 166) (by decide +kernel) rfl), (gQ1 (i := 2) (by decide +kernel) rfl), by decide +kernel, by decide, fun _ => (gQ2 (i := 163) (by decide +kernel) rfl), fun h => absurd h (by decide), fun _ => ⟨(gQ2 (i := 165) (by decide +kernel) rfl), (gP1 (i := 5) (by decide +kernel) rfl)⟩, fun h => absurd h (by decide), fun h => absurd h (by decide)⟩
theorem kmY_69 : calOk "StockYard$Yard" 69 (mL_get, 1, 0) := ⟨(gQ2 (i := 170) (by decide +kernel) rfl), (gQ1 (i := 5) (by decide +kernel) rfl), by decide +kernel, by decide, fun _ => (gQ2 (i := 167) (by decide +kernel) rfl), fun h => absurd h (by decide), fun _ => ⟨(gQ2 (i := 168) (by decide +kernel) rfl), (gQ2 (i := 169) (by decide +kernel) rfl)⟩, fun h => absurd h (by decide), fun h => absurd h (by decide)⟩
theorem kmY_82 : calOk "StockYard$Yard" 82 (mA_touches, 1, 0) := ⟨(gQ2 (i := 184) (by decide +kernel) rfl), (gQ1 (i := 13) (by decide +kernel) rfl), by decide +kernel, by decide, fun _ => (gQ2 (i := 181) (by decide +kernel) rfl), fun h => absurd h (by decide), fun _ => ⟨(gQ2 (i := 182) (by decide +kernel) rfl), (gQ2 (i := 183) (by decide +kernel) rfl)⟩, fun h => absurd h (by decide), fun h => absurd h (by decide)⟩
theorem kmY_78 : calOk "StockYard$Yard" 78 (mA_otherEnd, 1, 0) := ⟨(gQ2 (i := 188) (by decide +kernel) rfl), (gQ1 (i := 13) (by decide +kernel) rfl), by decide +kernel, by decide, fun _ => (gQ2 (i := 185) (by decide +kernel) rfl), fun h => absurd h (by decide), fun _ => ⟨(gQ2 (i := 186) (by decide +kernel) rfl), (gQ2 (i := 187) (by decide +kernel) rfl)⟩, fun h => absurd h (by decide), fun h => absurd h (by decide)⟩
theorem kmY_75 : calOk "StockYard$Yard" 75 (mW_add, 2, 0) := ⟨(gQ2 (i := 192) (by decide +kernel) rfl), (gQ1 (i := 10) (by decide +kernel) rfl), by decide +kernel, by decide, fun _ => (gQ2 (i := 189) (by decide +kernel) rfl), fun h => absurd h (by decide), fun _ => ⟨(gQ2 (i := 190) (by decide +kernel) rfl), (gQ2 (i := 191) (by decide +kernel) rfl)⟩, fun h => absurd h (by decide), fun h => absurd h (by decide)⟩
theorem kmY_85 : calOk "StockYard$Yard" 85 (mY_putOff, 2, 0) := ⟨(gQ3 (i := 168) (by decide +kernel) rfl), (gQ1 (i := 2) (by decide +kernel) rfl), by decide +kernel, by decide, fun _ => (gQ3 (i := 165) (by decide +kernel) rfl), fun h => absurd h (by decide), fun _ => ⟨(gQ3 (i := 167) (by decide +kernel) rfl), (gP1 (i := 13) (by decide +kernel) rfl)⟩, fun h => absurd h (by decide), fun h => absurd h (by decide)⟩
theorem kmY_92 : calOk "StockYard$Yard" 92 (mW_alleyAt, 1, 0) := ⟨(gQ2 (i := 200) (by decide +kernel) rfl), (gQ1 (i := 10) (by decide +kernel) rfl), by decide +kernel, by decide, fun _ => (gQ3 (i := 169) (by decide +kernel) rfl), fun h => absurd h (by decide), fun _ => ⟨(gQ2 (i := 198) (by decide +kernel) rfl), (gQ2 (i := 199) (by decide +kernel) rfl)⟩, fun h => absurd h (by decide), fun h => absurd h (by decide)⟩
theorem kmY_95 : calOk "StockYard$Yard" 95 (mW_aheadOf, 1, 0) := ⟨(gQ3 (i := 173) (by decide +kernel) rfl), (gQ1 (i := 10) (by decide +kernel) rfl), by decide +kernel, by decide, fun _ => (gQ3 (i := 170) (by decide +kernel) rfl), fun h => absurd h (by decide), fun _ => ⟨(gQ3 (i := 171) (by decide +kernel) rfl), (gQ3 (i := 172) (by decide +kernel) rfl)⟩, fun h => absurd h (by decide), fun h => absurd h (by decide)⟩
theorem kmY_98 : calOk "StockYard$Yard" 98 (mA_freeFrom, 1, 0) := ⟨(gQ3 (i := 177) (by decide +kernel) rfl), (gQ1 (i := 13) (by decide +kernel) rfl), by decide +kernel, by decide, fun _ => (gQ3 (i := 174) (by decide +kernel) rfl), fun h => absurd h (by decide), fun _ => ⟨(gQ3 (i := 175) (by decide +kernel) rfl), (gQ3 (i := 176) (by decide +kernel) rfl)⟩, fun h => absurd h (by decide), fun h => absurd h (by decide)⟩
theorem kmY_101 : calOk "StockYard$Yard" 101 (mA_take, 1, 0) := ⟨(gQ3 (i := 189) (by decide +kernel) rfl), (gQ1 (i := 13) (by decide +kernel) rfl), by decide +kernel, by decide, fun _ => (gQ3 (i := 186) (by decide +kernel) rfl), fun h => absurd h (by decide), fun _ => ⟨(gQ3 (i := 187) (by decide +kernel) rfl), (gQ3 (i := 188) (by decide +kernel) rfl)⟩, fun h => absurd h (by decide), fun h => absurd h (by decide)⟩
theorem kmY_105 : calOk "StockYard$Yard" 105 (mA_giveBack, 0, 0) := ⟨(gQ4 (i := 36) (by decide +kernel) rfl), (gQ1 (i := 13) (by decide +kernel) rfl), by decide +kernel, by decide, fun _ => (gQ4 (i := 33) (by decide +kernel) rfl), fun h => absurd h (by decide), fun _ => ⟨(gQ4 (i := 34) (by decide +kernel) rfl), (gQ4 (i := 35) (by decide +kernel) rfl)⟩, fun h => absurd h (by decide), fun h => absurd h (by decide)⟩
theorem kmY_108 : calOk "StockYard$Yard" 108 (mA_forgetBefore, 1, 0) := ⟨(gQ5 (i := 95) (by decide +kernel) rfl), (gQ1 (i := 13) (by decide +kernel) rfl), by decide +kernel, by decide, fun _ => (gQ5 (i := 92) (by decide +kernel) rfl), fun h => absurd h (by decide), fun _ => ⟨(gQ5 (i := 93) (by decide +kernel) rfl), (gQ5 (i := 94) (by decide +kernel) rfl)⟩, fun h => absurd h (by decide), fun h => absurd h (by decide)⟩
set_option maxRecDepth 100000 in
theorem faY : ∀ q ∈ flY, fldOk "StockYard$Yard" q.1 q.2.1 q.2.2 := List.forall_mem_cons.mpr ⟨kfY_12, List.forall_mem_cons.mpr ⟨kfY_18, List.forall_mem_cons.mpr ⟨kfY_22, List.forall_mem_cons.mpr ⟨kfY_27, List.forall_mem_cons.mpr ⟨kfY_30, List.forall_mem_cons.mpr ⟨kfY_89, List.forall_mem_cons.mpr ⟨kfY_73, fun q h => absurd h List.not_mem_nil⟩⟩⟩⟩⟩⟩⟩
set_option maxRecDepth 100000 in
theorem maY : ∀ q ∈ mlY, calOk "StockYard$Yard" q.1 q.2 := List.forall_mem_cons.mpr ⟨kmY_11, List.forall_mem_cons.mpr ⟨kmY_41, List.forall_mem_cons.mpr ⟨kmY_44, List.forall_mem_cons.mpr ⟨kmY_48, List.forall_mem_cons.mpr ⟨kmY_34, List.forall_mem_cons.mpr ⟨kmY_52, List.forall_mem_cons.mpr ⟨kmY_57, List.forall_mem_cons.mpr ⟨kmY_61, List.forall_mem_cons.mpr ⟨kmY_66, List.forall_mem_cons.mpr ⟨kmY_69, List.forall_mem_cons.mpr ⟨kmY_82, List.forall_mem_cons.mpr ⟨kmY_78, List.forall_mem_cons.mpr ⟨kmY_75, List.forall_mem_cons.mpr ⟨kmY_85, List.forall_mem_cons.mpr ⟨kmY_92, List.forall_mem_cons.mpr ⟨kmY_95, List.forall_mem_cons.mpr ⟨kmY_98, List.forall_mem_cons.mpr ⟨kmY_101, List.forall_mem_cons.mpr ⟨kmY_105, List.forall_mem_cons.mpr ⟨kmY_108, fun q h => absurd h List.not_mem_nil⟩⟩⟩⟩⟩⟩⟩⟩⟩⟩⟩⟩⟩⟩⟩⟩⟩⟩⟩⟩
theorem kaY : ∀ q ∈ klY, (∀ v, q.2 = .inl v → Cond.constant "StockYard$Yard" q.1 v ∈ goodT) ∧ ∀ v, q.2 = .inr (.inl v) → Cond.constantLong "StockYard$Yard" q.1 v ∈ goodT := List.forall_mem_cons.mpr ⟨⟨fun v h => (by cases h; exact (gQ2 (i := 43) (by decide +kernel) rfl)), fun v h => (by cases h)⟩, fun q h => absurd h List.not_mem_nil⟩
theorem taY : ∀ q ∈ tlY, Cond.classLink "StockYard$Yard" q.1 (clsN q.2).1 ∈ goodT := List.forall_mem_cons.mpr ⟨(gQ1 (i := 41) (by decide +kernel) rfl), List.forall_mem_cons.mpr ⟨(gQ2 (i := 60) (by decide +kernel) rfl), fun q h => absurd h List.not_mem_nil⟩⟩
theorem eoY : envOk "StockYard$Yard" cenY := ⟨fun i c k h => faY _ (alk_mem h), fun i c h => maY _ (alk_mem h), fun i v h => (kaY _ (alk_mem h)).1 v rfl, fun i v h => (kaY _ (alk_mem h)).2 v rfl, fun i c h => taY _ (alk_mem h)⟩
def flT : List (Nat × (Nat × Nat)) := [(9, 3, 0), (15, 3, 1), (19, 3, 2), (26, 12, 7), (39, 12, 8)]
def mlT : List (Nat × Cal) := [(22, mT_readWord, 1, 0), (70, mT_keyName, 1, 1), (74, mT_fieldName, 1, 1), (66, mJs_charAt, 1, 0), (44, mT_readText, 1, 0), (61, mJs_length, 0, 0), (31, mT_readSign, 1, 0), (35, mT_readNumber, 0, 0), (77, mJm_max, 2, 1), (48, mT_readTests, 1, 0), (52, mT_readTest, 1, 0), (57, mU_addTest, 4, 0)]
def klT : List (Nat × AV) := []
def tlT : List (Nat × Nat) := []
def cenT : CE := (alk flT, alk mlT, alk klT, alk tlT)
theorem kfT_9 : fldOk "StockYard$Tape" 9 3 0 := ⟨by decide, by decide, "StockYard$Tape", (gQ1 (i := 96) (by decide +kernel) rfl), Or.inl rfl⟩
theorem kfT_15 : fldOk "StockYard$Tape" 15 3 1 := ⟨by decide, by decide, "StockYard$Tape", (gQ1 (i := 97) (by decide +kernel) rfl), Or.inl rfl⟩
theorem kfT_19 : fldOk "StockYard$Tape" 19 3 2 := ⟨by decide, by decide, "StockYard$Tape", (gQ1 (i := 99) (by decide +kernel) rfl), Or.inl rfl⟩
theorem kfT_26 : fldOk "StockYard$Tape" 26 12 7 := ⟨by decide, by decide, "StockYard$Rule", (gQ4 (i := 80) (by decide +kernel) rfl), Or.inl rfl⟩
theorem kfT_39 : fldOk "StockYard$Tape" 39 12 8 := ⟨by decide, by decide, "StockYard$Rule", (gQ4 (i := 83) (by decide +kernel) rfl), Or.inl rfl⟩
theorem kmT_22 : calOk "StockYard$Tape" 22 (mT_readWord, 1, 0) := ⟨(gQ4 (i := 111) (by decide +kernel) rfl), (gQ1 (i := 6) (by decide +kernel) rfl), by decide +kernel, by decide, fun _ => (gQ4 (i := 108) (by decide +kernel) rfl), fun h => absurd h (by decide), fun _ => ⟨(gQ4 (i := 110) (by decide +kernel) rfl), (gP2 (i := 6) (by decide +kernel) rfl)⟩, fun h => absurd h (by decide), fun h => absurd h (by decide)⟩
theorem kmT_70 : calOk "StockYard$Tape" 70 (mT_keyName, 1, 1) := ⟨(gQ4 (i := 114) (by decide +kernel) rfl), (gQ1 (i := 6) (by decide +kernel) rfl), by decide +kernel, by decide, fun _ => (gQ4 (i := 112) (by decide +kernel) rfl), fun h => absurd h (by decide), fun h => absurd h (by decide), fun _ => (gQ4 (i := 113) (by decide +kernel) rfl), fun h => absurd h (by decide)⟩
theorem kmT_74 : calOk "StockYard$Tape" 74 (mT_fieldName, 1, 1) := ⟨(gQ4 (i := 121) (by decide +kernel) rfl), (gQ1 (i := 6) (by decide +kernel) rfl), by decide +kernel, by decide, fun _ => (gQ4 (i := 119) (by decide +kernel) rfl), fun h => absurd h (by decide), fun h => absurd h (by decide), fun _ => (gQ4 (i := 120) (by decide +kernel) rfl), fun h => absurd h (by decide)⟩
theorem kmT_66 : calOk "StockYard$Tape" 66 (mJs_charAt, 1, 0) := ⟨(gQ4 (i := 130) (by decide +kernel) rfl), (gQ1 (i := 24) (by decide +kernel) rfl), by decide +kernel, by decide, fun _ => (gQ4 (i := 127) (by decide +kernel) rfl), fun h => absurd h (by decide), fun _ => ⟨(gQ4 (i := 128) (by decide +kernel) rfl), (gQ4 (i := 129) (by decide +kernel) rfl)⟩, fun h => absurd h (by decide), fun h => absurd h (by decide)⟩
theorem kmT_44 : calOk "StockYard$Tape" 44 (mT_readText, 1, 0) := ⟨(gQ4 (i := 168) (by decide +kernel) rfl), (gQ1 (i := 6) (by decide +kernel) rfl), by decide +kernel, by decide, fun _ => (gQ4 (i := 165) (by decide +kernel) rfl), fun h => absurd h (by decide), fun _ => ⟨(gQ4 (i := 167) (by decide +kernel) rfl), (gP2 (i := 7) (by decide +kernel) rfl)⟩, fun h => absurd h (by decide), fun h => absurd h (by decide)⟩
theorem kmT_61 : calOk "StockYard$Tape" 61 (mJs_length, 0, 0) := ⟨(gQ4 (i := 172) (by decide +kernel) rfl), (gQ1 (i := 24) (by decide +kernel) rfl), by decide +kernel, by decide, fun _ => (gQ4 (i := 169) (by decide +kernel) rfl), fun h => absurd h (by decide), fun _ => ⟨(gQ4 (i := 170) (by decide +kernel) rfl), (gQ4 (i := 171) (by decide +kernel) rfl)⟩, fun h => absurd h (by decide), fun h => absurd h (by decide)⟩
theorem kmT_31 : calOk "StockYard$Tape" 31 (mT_readSign, 1, 0) := ⟨(gQ4 (i := 180) (by decide +kernel) rfl), (gQ1 (i := 6) (by decide +kernel) rfl), by decide +kernel, by decide, fun _ => (gQ4 (i := 177) (by decide +kernel) rfl), fun h => absurd h (by decide), fun _ => ⟨(gQ4 (i := 179) (by decide +kernel) rfl), (gP2 (i := 8) (by decide +kernel) rfl)⟩, fun h => absurd h (by decide), fun h => absurd h (by decide)⟩
theorem kmT_35 : calOk "StockYard$Tape" 35 (mT_readNumber, 0, 0) := ⟨(gQ4 (i := 184) (by decide +kernel) rfl), (gQ1 (i := 6) (by decide +kernel) rfl), by decide +kernel, by decide, fun _ => (gQ4 (i := 181) (by decide +kernel) rfl), fun h => absurd h (by decide), fun _ => ⟨(gQ4 (i := 183) (by decide +kernel) rfl), (gP2 (i := 9) (by decide +kernel) rfl)⟩, fun h => absurd h (by decide), fun h => absurd h (by decide)⟩
theorem kmT_77 : calOk "StockYard$Tape" 77 (mJm_max, 2, 1) := ⟨(gQ2 (i := 104) (by decide +kernel) rfl), (gQ1 (i := 15) (by decide +kernel) rfl), by decide +kernel, by decide, fun _ => (gQ4 (i := 185) (by decide +kernel) rfl), fun h => absurd h (by decide), fun h => absurd h (by decide), fun _ => (gQ2 (i := 103) (by decide +kernel) rfl), fun h => absurd h (by decide)⟩
theorem kmT_48 : calOk "StockYard$Tape" 48 (mT_readTests, 1, 0) := ⟨(gQ4 (i := 190) (by decide +kernel) rfl), (gQ1 (i := 6) (by decide +kernel) rfl), by decide +kernel, by decide, fun _ => (gQ4 (i := 187) (by decide +kernel) rfl), fun h => absurd h (by decide), fun _ => ⟨(gQ4 (i := 189) (by decide +kernel) rfl), (gP2 (i := 10) (by decide +kernel) rfl)⟩, fun h => absurd h (by decide), fun h => absurd h (by decide)⟩
theorem kmT_52 : calOk "StockYard$Tape" 52 (mT_readTest, 1, 0) := ⟨(gQ4 (i := 194) (by decide +kernel) rfl), (gQ1 (i := 6) (by decide +kernel) rfl), by decide +kernel, by decide, fun _ => (gQ4 (i := 191) (by decide +kernel) rfl), fun h => absurd h (by decide), fun _ => ⟨(gQ4 (i := 193) (by decide +kernel) rfl), (gP2 (i := 11) (by decide +kernel) rfl)⟩, fun h => absurd h (by decide), fun h => absurd h (by decide)⟩
theorem kmT_57 : calOk "StockYard$Tape" 57 (mU_addTest, 4, 0) := ⟨(gQ4 (i := 198) (by decide +kernel) rfl), (gQ1 (i := 22) (by decide +kernel) rfl), by decide +kernel, by decide, fun _ => (gQ4 (i := 195) (by decide +kernel) rfl), fun h => absurd h (by decide), fun _ => ⟨(gQ4 (i := 196) (by decide +kernel) rfl), (gQ4 (i := 197) (by decide +kernel) rfl)⟩, fun h => absurd h (by decide), fun h => absurd h (by decide)⟩
set_option maxRecDepth 100000 in
theorem faT : ∀ q ∈ flT, fldOk "StockYard$Tape" q.1 q.2.1 q.2.2 := List.forall_mem_cons.mpr ⟨kfT_9, List.forall_mem_cons.mpr ⟨kfT_15, List.forall_mem_cons.mpr ⟨kfT_19, List.forall_mem_cons.mpr ⟨kfT_26, List.forall_mem_cons.mpr ⟨kfT_39, fun q h => absurd h List.not_mem_nil⟩⟩⟩⟩⟩
set_option maxRecDepth 100000 in
theorem maT : ∀ q ∈ mlT, calOk "StockYard$Tape" q.1 q.2 := List.forall_mem_cons.mpr ⟨kmT_22, List.forall_mem_cons.mpr ⟨kmT_70, List.forall_mem_cons.mpr ⟨kmT_74, List.forall_mem_cons.mpr ⟨kmT_66, List.forall_mem_cons.mpr ⟨kmT_44, List.forall_mem_cons.mpr ⟨kmT_61, List.forall_mem_cons.mpr ⟨kmT_31, List.forall_mem_cons.mpr ⟨kmT_35, List.forall_mem_cons.mpr ⟨kmT_77, List.forall_mem_cons.mpr ⟨kmT_48, List.forall_mem_cons.mpr ⟨kmT_52, List.forall_mem_cons.mpr ⟨kmT_57, fun q h => absurd h List.not_mem_nil⟩⟩⟩⟩⟩⟩⟩⟩⟩⟩⟩⟩
theorem kaT : ∀ q ∈ klT, (∀ v, q.2 = .inl v → Cond.constant "StockYard$Tape" q.1 v ∈ goodT) ∧ ∀ v, q.2 = .inr (.inl v) → Cond.constantLong "StockYard$Tape" q.1 v ∈ goodT := fun q h => absurd h List.not_mem_nil
theorem taT : ∀ q ∈ tlT, Cond.classLink "StockYard$Tape" q.1 (clsN q.2).1 ∈ goodT := fun q h => absurd h List.not_mem_nil
theorem eoT : envOk "StockYard$Tape" cenT := ⟨fun i c k h => faT _ (alk_mem h), fun i c h => maT _ (alk_mem h), fun i v h => (kaT _ (alk_mem h)).1 v rfl, fun i v h => (kaT _ (alk_mem h)).2 v rfl, fun i c h => taT _ (alk_mem h)⟩
def flB : List (Nat × (Nat × Nat)) := [(12, 4, 0), (28, 12, 7), (36, 12, 8)]
def mlB : List (Nat × Cal) := [(11, mL_init, 0, 2), (39, mO_thirst, 1, 0), (45, mB_saying, 4, 0), (18, mL_size, 0, 0), (22, mL_get, 1, 0), (32, mU_appliesTo, 3, 0)]
def klB : List (Nat × AV) := []
def tlB : List (Nat × Nat) := [(9, 2), (26, 12)]
def cenB : CE := (alk flB, alk mlB, alk klB, alk tlB)
theorem kfB_12 : fldOk "StockYard$RuleBook" 12 4 0 := ⟨by decide, by decide, "StockYard$RuleBook", (gQ1 (i := 116) (by decide +kernel) rfl), Or.inl rfl⟩
theorem kfB_28 : fldOk "StockYard$RuleBook" 28 12 7 := ⟨by decide, by decide, "StockYard$Rule", (gQ4 (i := 79) (by decide +kernel) rfl), Or.inl rfl⟩
theorem kfB_36 : fldOk "StockYard$RuleBook" 36 12 8 := ⟨by decide, by decide, "StockYard$Rule", (gQ4 (i := 82) (by decide +kernel) rfl), Or.inl rfl⟩
theorem kmB_11 : calOk "StockYard$RuleBook" 11 (mL_init, 0, 2) := ⟨(gQ1 (i := 45) (by decide +kernel) rfl), (gQ1 (i := 5) (by decide +kernel) rfl), by decide +kernel, by decide, fun _ => (gQ1 (i := 115) (by decide +kernel) rfl), fun h => absurd h (by decide), fun h => absurd h (by decide), fun h => absurd h (by decide), fun _ => ⟨(gQ1 (i := 44) (by decide +kernel) rfl), rfl, rfl⟩⟩
theorem kmB_39 : calOk "StockYard$RuleBook" 39 (mO_thirst, 1, 0) := ⟨(gQ3 (i := 108) (by decide +kernel) rfl), (gQ1 (i := 20) (by decide +kernel) rfl), by decide +kernel, by decide, fun _ => (gQ3 (i := 113) (by decide +kernel) rfl), fun h => absurd h (by decide), fun _ => ⟨(gQ3 (i := 106) (by decide +kernel) rfl), (gQ3 (i := 107) (by decide +kernel) rfl)⟩, fun h => absurd h (by decide), fun h => absurd h (by decide)⟩
theorem kmB_45 : calOk "StockYard$RuleBook" 45 (mB_saying, 4, 0) := ⟨(gQ3 (i := 117) (by decide +kernel) rfl), (gQ1 (i := 7) (by decide +kernel) rfl), by decide +kernel, by decide, fun _ => (gQ3 (i := 114) (by decide +kernel) rfl), fun h => absurd h (by decide), fun _ => ⟨(gQ3 (i := 115) (by decide +kernel) rfl), (gQ3 (i := 116) (by decide +kernel) rfl)⟩, fun h => absurd h (by decide), fun h => absurd h (by decide)⟩
theorem kmB_18 : calOk "StockYard$RuleBook" 18 (mL_size, 0, 0) := ⟨(gQ2 (i := 55) (by decide +kernel) rfl), (gQ1 (i := 5) (by decide +kernel) rfl), by decide +kernel, by decide, fun _ => (gQ3 (i := 118) (by decide +kernel) rfl), fun h => absurd h (by decide), fun _ => ⟨(gQ2 (i := 53) (by decide +kernel) rfl), (gQ2 (i := 54) (by decide +kernel) rfl)⟩, fun h => absurd h (by decide), fun h => absurd h (by decide)⟩
theorem kmB_22 : calOk "StockYard$RuleBook" 22 (mL_get, 1, 0) := ⟨(gQ2 (i := 170) (by decide +kernel) rfl), (gQ1 (i := 5) (by decide +kernel) rfl), by decide +kernel, by decide, fun _ => (gQ3 (i := 119) (by decide +kernel) rfl), fun h => absurd h (by decide), fun _ => ⟨(gQ2 (i := 168) (by decide +kernel) rfl), (gQ2 (i := 169) (by decide +kernel) rfl)⟩, fun h => absurd h (by decide), fun h => absurd h (by decide)⟩
theorem kmB_32 : calOk "StockYard$RuleBook" 32 (mU_appliesTo, 3, 0) := ⟨(gQ3 (i := 124) (by decide +kernel) rfl), (gQ1 (i := 22) (by decide +kernel) rfl), by decide +kernel, by decide, fun _ => (gQ3 (i := 121) (by decide +kernel) rfl), fun h => absurd h (by decide), fun _ => ⟨(gQ3 (i := 122) (by decide +kernel) rfl), (gQ3 (i := 123) (by decide +kernel) rfl)⟩, fun h => absurd h (by decide), fun h => absurd h (by decide)⟩
set_option maxRecDepth 100000 in
theorem faB : ∀ q ∈ flB, fldOk "StockYard$RuleBook" q.1 q.2.1 q.2.2 := List.forall_mem_cons.mpr ⟨kfB_12, List.forall_mem_cons.mpr ⟨kfB_28, List.forall_mem_cons.mpr ⟨kfB_36, fun q h => absurd h List.not_mem_nil⟩⟩⟩
set_option maxRecDepth 100000 in
theorem maB : ∀ q ∈ mlB, calOk "StockYard$RuleBook" q.1 q.2 := List.forall_mem_cons.mpr ⟨kmB_11, List.forall_mem_cons.mpr ⟨kmB_39, List.forall_mem_cons.mpr ⟨kmB_45, List.forall_mem_cons.mpr ⟨kmB_18, List.forall_mem_cons.mpr ⟨kmB_22, List.forall_mem_cons.mpr ⟨kmB_32, fun q h => absurd h List.not_mem_nil⟩⟩⟩⟩⟩⟩
theorem kaB : ∀ q ∈ klB, (∀ v, q.2 = .inl v → Cond.constant "StockYard$RuleBook" q.1 v ∈ goodT) ∧ ∀ v, q.2 = .inr (.inl v) → Cond.constantLong "StockYard$RuleBook" q.1 v ∈ goodT := fun q h => absurd h List.not_mem_nil
theorem taB : ∀ q ∈ tlB, Cond.classLink "StockYard$RuleBook" q.1 (clsN q.2).1 ∈ goodT := List.forall_mem_cons.mpr ⟨(gQ1 (i := 114) (by decide +kernel) rfl), List.forall_mem_cons.mpr ⟨(gQ3 (i := 120) (by decide +kernel) rfl), fun q h => absurd h List.not_mem_nil⟩⟩
theorem eoB : envOk "StockYard$RuleBook" cenB := ⟨fun i c k h => faB _ (alk_mem h), fun i c h => maB _ (alk_mem h), fun i v h => (kaB _ (alk_mem h)).1 v rfl, fun i v h => (kaB _ (alk_mem h)).2 v rfl, fun i c h => taB _ (alk_mem h)⟩
def flK : List (Nat × (Nat × Nat)) := [(9, 5, 0), (15, 5, 1), (18, 5, 2)]
def mlK : List (Nat × Cal) := [(26, mK_ownerOf, 1, 0), (22, mK_areNear, 2, 1)]
def klK : List (Nat × AV) := []
def tlK : List (Nat × Nat) := []
def cenK : CE := (alk flK, alk mlK, alk klK, alk tlK)
theorem kfK_9 : fldOk "StockYard$MarkBook" 9 5 0 := ⟨by decide, by decide, "StockYard$MarkBook", (gQ1 (i := 127) (by decide +kernel) rfl), Or.inl rfl⟩
theorem kfK_15 : fldOk "StockYard$MarkBook" 15 5 1 := ⟨by decide, by decide, "StockYard$MarkBook", (gQ1 (i := 128) (by decide +kernel) rfl), Or.inl rfl⟩
theorem kfK_18 : fldOk "StockYard$MarkBook" 18 5 2 := ⟨by decide, by decide, "StockYard$MarkBook", (gQ1 (i := 129) (by decide +kernel) rfl), Or.inl rfl⟩
theorem kmK_26 : calOk "StockYard$MarkBook" 26 (mK_ownerOf, 1, 0) := ⟨(gQ3 (i := 145) (by decide +kernel) rfl), (gQ1 (i := 8) (by decide +kernel) rfl), by decide +kernel, by decide, fun _ => (gQ3 (i := 142) (by decide +kernel) rfl), fun h => absurd h (by decide), fun _ => ⟨(gQ3 (i := 143) (by decide +kernel) rfl), (gQ3 (i := 144) (by decide +kernel) rfl)⟩, fun h => absurd h (by decide), fun h => absurd h (by decide)⟩
theorem kmK_22 : calOk "StockYard$MarkBook" 22 (mK_areNear, 2, 1) := ⟨(gQ3 (i := 148) (by decide +kernel) rfl), (gQ1 (i := 8) (by decide +kernel) rfl), by decide +kernel, by decide, fun _ => (gQ3 (i := 146) (by decide +kernel) rfl), fun h => absurd h (by decide), fun h => absurd h (by decide), fun _ => (gQ3 (i := 147) (by decide +kernel) rfl), fun h => absurd h (by decide)⟩
set_option maxRecDepth 100000 in
theorem faK : ∀ q ∈ flK, fldOk "StockYard$MarkBook" q.1 q.2.1 q.2.2 := List.forall_mem_cons.mpr ⟨kfK_9, List.forall_mem_cons.mpr ⟨kfK_15, List.forall_mem_cons.mpr ⟨kfK_18, fun q h => absurd h List.not_mem_nil⟩⟩⟩
set_option maxRecDepth 100000 in
theorem maK : ∀ q ∈ mlK, calOk "StockYard$MarkBook" q.1 q.2 := List.forall_mem_cons.mpr ⟨kmK_26, List.forall_mem_cons.mpr ⟨kmK_22, fun q h => absurd h List.not_mem_nil⟩⟩
theorem kaK : ∀ q ∈ klK, (∀ v, q.2 = .inl v → Cond.constant "StockYard$MarkBook" q.1 v ∈ goodT) ∧ ∀ v, q.2 = .inr (.inl v) → Cond.constantLong "StockYard$MarkBook" q.1 v ∈ goodT := fun q h => absurd h List.not_mem_nil
theorem taK : ∀ q ∈ tlK, Cond.classLink "StockYard$MarkBook" q.1 (clsN q.2).1 ∈ goodT := fun q h => absurd h List.not_mem_nil
theorem eoK : envOk "StockYard$MarkBook" cenK := ⟨fun i c k h => faK _ (alk_mem h), fun i c h => maK _ (alk_mem h), fun i v h => (kaK _ (alk_mem h)).1 v rfl, fun i v h => (kaK _ (alk_mem h)).2 v rfl, fun i c h => taK _ (alk_mem h)⟩
def flP : List (Nat × (Nat × Nat)) := [(86, 8, 2), (89, 8, 3), (58, 6, 0), (9, 6, 1), (15, 6, 2), (20, 6, 3), (24, 6, 4), (27, 6, 5), (30, 6, 6), (33, 6, 7), (36, 6, 8), (40, 6, 9), (43, 6, 10), (46, 6, 11), (49, 6, 12), (52, 6, 13), (55, 6, 14)]
def mlP : List (Nat × Cal) := [(62, mW_init, 0, 5), (63, mY_find, 3, 0), (70, mP_tell, 2, 0), (74, mP_keep, 1, 0), (78, mS_inSet, 2, 4), (82, mP_tellOne, 4, 0), (92, mY_firstFree, 2, 0), (96, mJm_max, 2, 1), (102, mY_take, 2, 0), (106, mY_giveBack, 1, 0)]
def klP : List (Nat × AV) := [(69, .inl 2000000000)]
def tlP : List (Nat × Nat) := [(18, 8)]
def cenP : CE := (alk flP, alk mlP, alk klP, alk tlP)
theorem kfP_86 : fldOk "StockYard$Planner" 86 8 2 := ⟨by decide, by decide, "StockYard$Way", (gQ1 (i := 155) (by decide +kernel) rfl), Or.inl rfl⟩
theorem kfP_89 : fldOk "StockYard$Planner" 89 8 3 := ⟨by decide, by decide, "StockYard$Way", (gQ1 (i := 159) (by decide +kernel) rfl), Or.inl rfl⟩
theorem kfP_58 : fldOk "StockYard$Planner" 58 6 0 := ⟨by decide, by decide, "StockYard$Planner", (gQ1 (i := 169) (by decide +kernel) rfl), Or.inl rfl⟩
theorem kfP_9 : fldOk "StockYard$Planner" 9 6 1 := ⟨by decide, by decide, "StockYard$Planner", (gQ1 (i := 170) (by decide +kernel) rfl), Or.inl rfl⟩
theorem kfP_15 : fldOk "StockYard$Planner" 15 6 2 := ⟨by decide, by decide, "StockYard$Planner", (gQ1 (i := 171) (by decide +kernel) rfl), Or.inl rfl⟩
theorem kfP_20 : fldOk "StockYard$Planner" 20 6 3 := ⟨by decide, by decide, "StockYard$Planner", (gQ1 (i := 172) (by decide +kernel) rfl), Or.inl rfl⟩
theorem kfP_24 : fldOk "StockYard$Planner" 24 6 4 := ⟨by decide, by decide, "StockYard$Planner", (gQ1 (i := 173) (by decide +kernel) rfl), Or.inl rfl⟩
theorem kfP_27 : fldOk "StockYard$Planner" 27 6 5 := ⟨by decide, by decide, "StockYard$Planner", (gQ1 (i := 174) (by decide +kernel) rfl), Or.inl rfl⟩
theorem kfP_30 : fldOk "StockYard$Planner" 30 6 6 := ⟨by decide, by decide, "StockYard$Planner", (gQ1 (i := 175) (by decide +kernel) rfl), Or.inl rfl⟩
theorem kfP_33 : fldOk "StockYard$Planner" 33 6 7 := ⟨by decide, by decide, "StockYard$Planner", (gQ1 (i := 176) (by decide +kernel) rfl), Or.inl rfl⟩
theorem kfP_36 : fldOk "StockYard$Planner" 36 6 8 := ⟨by decide, by decide, "StockYard$Planner", (gQ1 (i := 177) (by decide +kernel) rfl), Or.inl rfl⟩
theorem kfP_40 : fldOk "StockYard$Planner" 40 6 9 := ⟨by decide, by decide, "StockYard$Planner", (gQ1 (i := 178) (by decide +kernel) rfl), Or.inl rfl⟩
theorem kfP_43 : fldOk "StockYard$Planner" 43 6 10 := ⟨by decide, by decide, "StockYard$Planner", (gQ1 (i := 179) (by decide +kernel) rfl), Or.inl rfl⟩
theorem kfP_46 : fldOk "StockYard$Planner" 46 6 11 := ⟨by decide, by decide, "StockYard$Planner", (gQ1 (i := 180) (by decide +kernel) rfl), Or.inl rfl⟩
theorem kfP_49 : fldOk "StockYard$Planner" 49 6 12 := ⟨by decide, by decide, "StockYard$Planner", (gQ1 (i := 181) (by decide +kernel) rfl), Or.inl rfl⟩
theorem kfP_52 : fldOk "StockYard$Planner" 52 6 13 := ⟨by decide, by decide, "StockYard$Planner", (gQ1 (i := 182) (by decide +kernel) rfl), Or.inl rfl⟩
theorem kfP_55 : fldOk "StockYard$Planner" 55 6 14 := ⟨by decide, by decide, "StockYard$Planner", (gQ1 (i := 184) (by decide +kernel) rfl), Or.inl rfl⟩
theorem kmP_62 : calOk "StockYard$Planner" 62 (mW_init, 0, 5) := ⟨(gQ1 (i := 149) (by decide +kernel) rfl), (gQ1 (i := 10) (by decide +kernel) rfl), by decide +kernel, by decide, fun h => absurd h (by decide), fun _ => ⟨"StockYard", List.mem_filter.mpr ⟨(hQ1 (i := 147) (by decide +kernel)), rfl⟩⟩, fun h => absurd h (by decide), fun h => absurd h (by decide), fun _ => ⟨(gQ1 (i := 148) (by decide +kernel) rfl), rfl, rfl⟩⟩
theorem kmP_63 : calOk "StockYard$Planner" 63 (mY_find, 3, 0) := ⟨(gQ2 (i := 158) (by decide +kernel) rfl), (gQ1 (i := 2) (by decide +kernel) rfl), by decide +kernel, by decide, fun _ => (gQ4 (i := 7) (by decide +kernel) rfl), fun h => absurd h (by decide), fun _ => ⟨(gQ2 (i := 156) (by decide +kernel) rfl), (gQ2 (i := 157) (by decide +kernel) rfl)⟩, fun h => absurd h (by decide), fun h => absurd h (by decide)⟩
theorem kmP_70 : calOk "StockYard$Planner" 70 (mP_tell, 2, 0) := ⟨(gQ4 (i := 16) (by decide +kernel) rfl), (gQ1 (i := 9) (by decide +kernel) rfl), by decide +kernel, by decide, fun _ => (gQ4 (i := 13) (by decide +kernel) rfl), fun h => absurd h (by decide), fun _ => ⟨(gQ4 (i := 15) (by decide +kernel) rfl), (gP2 (i := 3) (by decide +kernel) rfl)⟩, fun h => absurd h (by decide), fun h => absurd h (by decide)⟩
theorem kmP_74 : calOk "StockYard$Planner" 74 (mP_keep, 1, 0) := ⟨(gQ4 (i := 20) (by decide +kernel) rfl), (gQ1 (i := 9) (by decide +kernel) rfl), by decide +kernel, by decide, fun _ => (gQ4 (i := 17) (by decide +kernel) rfl), fun h => absurd h (by decide), fun _ => ⟨(gQ4 (i := 19) (by decide +kernel) rfl), (gP2 (i := 4) (by decide +kernel) rfl)⟩, fun h => absurd h (by decide), fun h => absurd h (by decide)⟩
theorem kmP_78 : calOk "StockYard$Planner" 78 (mS_inSet, 2, 4) := ⟨(gQ3 (i := 216) (by decide +kernel) rfl), (gQ1 (i := 1) (by decide +kernel) rfl), by decide +kernel, by decide, fun h => absurd h (by decide), fun _ => ⟨"StockYard", List.mem_filter.mpr ⟨(hQ4 (i := 21) (by decide +kernel)), rfl⟩⟩, fun h => absurd h (by decide), fun _ => (gQ3 (i := 215) (by decide +kernel) rfl), fun h => absurd h (by decide)⟩
theorem kmP_82 : calOk "StockYard$Planner" 82 (mP_tellOne, 4, 0) := ⟨(gQ4 (i := 25) (by decide +kernel) rfl), (gQ1 (i := 9) (by decide +kernel) rfl), by decide +kernel, by decide, fun _ => (gQ4 (i := 22) (by decide +kernel) rfl), fun h => absurd h (by decide), fun _ => ⟨(gQ4 (i := 24) (by decide +kernel) rfl), (gP2 (i := 5) (by decide +kernel) rfl)⟩, fun h => absurd h (by decide), fun h => absurd h (by decide)⟩
theorem kmP_92 : calOk "StockYard$Planner" 92 (mY_firstFree, 2, 0) := ⟨(gQ3 (i := 164) (by decide +kernel) rfl), (gQ1 (i := 2) (by decide +kernel) rfl), by decide +kernel, by decide, fun _ => (gQ4 (i := 26) (by decide +kernel) rfl), fun h => absurd h (by decide), fun _ => ⟨(gQ3 (i := 162) (by decide +kernel) rfl), (gQ3 (i := 163) (by decide +kernel) rfl)⟩, fun h => absurd h (by decide), fun h => absurd h (by decide)⟩
theorem kmP_96 : calOk "StockYard$Planner" 96 (mJm_max, 2, 1) := ⟨(gQ2 (i := 104) (by decide +kernel) rfl), (gQ1 (i := 15) (by decide +kernel) rfl), by decide +kernel, by decide, fun _ => (gQ4 (i := 27) (by decide +kernel) rfl), fun h => absurd h (by decide), fun h => absurd h (by decide), fun _ => (gQ2 (i := 103) (by decide +kernel) rfl), fun h => absurd h (by decide)⟩
theorem kmP_102 : calOk "StockYard$Planner" 102 (mY_take, 2, 0) := ⟨(gQ3 (i := 185) (by decide +kernel) rfl), (gQ1 (i := 2) (by decide +kernel) rfl), by decide +kernel, by decide, fun _ => (gQ4 (i := 28) (by decide +kernel) rfl), fun h => absurd h (by decide), fun _ => ⟨(gQ3 (i := 183) (by decide +kernel) rfl), (gQ3 (i := 184) (by decide +kernel) rfl)⟩, fun h => absurd h (by decide), fun h => absurd h (by decide)⟩
theorem kmP_106 : calOk "StockYard$Planner" 106 (mY_giveBack, 1, 0) := ⟨(gQ4 (i := 32) (by decide +kernel) rfl), (gQ1 (i := 2) (by decide +kernel) rfl), by decide +kernel, by decide, fun _ => (gQ4 (i := 29) (by decide +kernel) rfl), fun h => absurd h (by decide), fun _ => ⟨(gQ4 (i := 30) (by decide +kernel) rfl), (gQ4 (i := 31) (by decide +kernel) rfl)⟩, fun h => absurd h (by decide), fun h => absurd h (by decide)⟩
set_option maxRecDepth 100000 in
theorem faP : ∀ q ∈ flP, fldOk "StockYard$Planner" q.1 q.2.1 q.2.2 := List.forall_mem_cons.mpr ⟨kfP_86, List.forall_mem_cons.mpr ⟨kfP_89, List.forall_mem_cons.mpr ⟨kfP_58, List.forall_mem_cons.mpr ⟨kfP_9, List.forall_mem_cons.mpr ⟨kfP_15, List.forall_mem_cons.mpr ⟨kfP_20, List.forall_mem_cons.mpr ⟨kfP_24, List.forall_mem_cons.mpr ⟨kfP_27, List.forall_mem_cons.mpr ⟨kfP_30, List.forall_mem_cons.mpr ⟨kfP_33, List.forall_mem_cons.mpr ⟨kfP_36, List.forall_mem_cons.mpr ⟨kfP_40, List.forall_mem_cons.mpr ⟨kfP_43, List.forall_mem_cons.mpr ⟨kfP_46, List.forall_mem_cons.mpr ⟨kfP_49, List.forall_mem_cons.mpr ⟨kfP_52, List.forall_mem_cons.mpr ⟨kfP_55, fun q h => absurd h List.not_mem_nil⟩⟩⟩⟩⟩⟩⟩⟩⟩⟩⟩⟩⟩⟩⟩⟩⟩
set_option maxRecDepth 100000 in
theorem maP : ∀ q ∈ mlP, calOk "StockYard$Planner" q.1 q.2 := List.forall_mem_cons.mpr ⟨kmP_62, List.forall_mem_cons.mpr ⟨kmP_63, List.forall_mem_cons.mpr ⟨kmP_70, List.forall_mem_cons.mpr ⟨kmP_74, List.forall_mem_cons.mpr ⟨kmP_78, List.forall_mem_cons.mpr ⟨kmP_82, List.forall_mem_cons.mpr ⟨kmP_92, List.forall_mem_cons.mpr ⟨kmP_96, List.forall_mem_cons.mpr ⟨kmP_102, List.forall_mem_cons.mpr ⟨kmP_106, fun q h => absurd h List.not_mem_nil⟩⟩⟩⟩⟩⟩⟩⟩⟩⟩
theorem kaP : ∀ q ∈ klP, (∀ v, q.2 = .inl v → Cond.constant "StockYard$Planner" q.1 v ∈ goodT) ∧ ∀ v, q.2 = .inr (.inl v) → Cond.constantLong "StockYard$Planner" q.1 v ∈ goodT := List.forall_mem_cons.mpr ⟨⟨fun v h => (by cases h; exact (gQ4 (i := 12) (by decide +kernel) rfl)), fun v h => (by cases h)⟩, fun q h => absurd h List.not_mem_nil⟩
theorem taP : ∀ q ∈ tlP, Cond.classLink "StockYard$Planner" q.1 (clsN q.2).1 ∈ goodT := List.forall_mem_cons.mpr ⟨(gQ1 (i := 144) (by decide +kernel) rfl), fun q h => absurd h List.not_mem_nil⟩
theorem eoP : envOk "StockYard$Planner" cenP := ⟨fun i c k h => faP _ (alk_mem h), fun i c h => maP _ (alk_mem h), fun i v h => (kaP _ (alk_mem h)).1 v rfl, fun i v h => (kaP _ (alk_mem h)).2 v rfl, fun i c h => taP _ (alk_mem h)⟩
def flR : List (Nat × (Nat × Nat)) := [(9, 7, 0), (15, 7, 1), (19, 7, 2)]
def mlR : List (Nat × Cal) := [(23, mJm_min, 2, 1), (29, mR_spans, 2, 0)]
def klR : List (Nat × AV) := []
def tlR : List (Nat × Nat) := []
def cenR : CE := (alk flR, alk mlR, alk klR, alk tlR)
theorem kfR_9 : fldOk "StockYard$Row" 9 7 0 := ⟨by decide, by decide, "StockYard$Row", (gQ1 (i := 223) (by decide +kernel) rfl), Or.inl rfl⟩
theorem kfR_15 : fldOk "StockYard$Row" 15 7 1 := ⟨by decide, by decide, "StockYard$Row", (gQ1 (i := 224) (by decide +kernel) rfl), Or.inl rfl⟩
theorem kfR_19 : fldOk "StockYard$Row" 19 7 2 := ⟨by decide, by decide, "StockYard$Row", (gQ1 (i := 226) (by decide +kernel) rfl), Or.inl rfl⟩
theorem kmR_23 : calOk "StockYard$Row" 23 (mJm_min, 2, 1) := ⟨(gQ2 (i := 138) (by decide +kernel) rfl), (gQ1 (i := 15) (by decide +kernel) rfl), by decide +kernel, by decide, fun _ => (gQ5 (i := 129) (by decide +kernel) rfl), fun h => absurd h (by decide), fun h => absurd h (by decide), fun _ => (gQ2 (i := 137) (by decide +kernel) rfl), fun h => absurd h (by decide)⟩
theorem kmR_29 : calOk "StockYard$Row" 29 (mR_spans, 2, 0) := ⟨(gQ5 (i := 153) (by decide +kernel) rfl), (gQ1 (i := 11) (by decide +kernel) rfl), by decide +kernel, by decide, fun _ => (gQ5 (i := 158) (by decide +kernel) rfl), fun h => absurd h (by decide), fun _ => ⟨(gQ5 (i := 151) (by decide +kernel) rfl), (gQ5 (i := 152) (by decide +kernel) rfl)⟩, fun h => absurd h (by decide), fun h => absurd h (by decide)⟩
set_option maxRecDepth 100000 in
theorem faR : ∀ q ∈ flR, fldOk "StockYard$Row" q.1 q.2.1 q.2.2 := List.forall_mem_cons.mpr ⟨kfR_9, List.forall_mem_cons.mpr ⟨kfR_15, List.forall_mem_cons.mpr ⟨kfR_19, fun q h => absurd h List.not_mem_nil⟩⟩⟩
set_option maxRecDepth 100000 in
theorem maR : ∀ q ∈ mlR, calOk "StockYard$Row" q.1 q.2 := List.forall_mem_cons.mpr ⟨kmR_23, List.forall_mem_cons.mpr ⟨kmR_29, fun q h => absurd h List.not_mem_nil⟩⟩
theorem kaR : ∀ q ∈ klR, (∀ v, q.2 = .inl v → Cond.constant "StockYard$Row" q.1 v ∈ goodT) ∧ ∀ v, q.2 = .inr (.inl v) → Cond.constantLong "StockYard$Row" q.1 v ∈ goodT := fun q h => absurd h List.not_mem_nil
theorem taR : ∀ q ∈ tlR, Cond.classLink "StockYard$Row" q.1 (clsN q.2).1 ∈ goodT := fun q h => absurd h List.not_mem_nil
theorem eoR : envOk "StockYard$Row" cenR := ⟨fun i c k h => faR _ (alk_mem h), fun i c h => maR _ (alk_mem h), fun i v h => (kaR _ (alk_mem h)).1 v rfl, fun i v h => (kaR _ (alk_mem h)).2 v rfl, fun i c h => taR _ (alk_mem h)⟩
def flW : List (Nat × (Nat × Nat)) := [(9, 8, 0), (15, 8, 1), (18, 8, 2), (22, 8, 3)]
def mlW : List (Nat × Cal) := []
def klW : List (Nat × AV) := []
def tlW : List (Nat × Nat) := []
def cenW : CE := (alk flW, alk mlW, alk klW, alk tlW)
theorem kfW_9 : fldOk "StockYard$Way" 9 8 0 := ⟨by decide, by decide, "StockYard$Way", (gQ1 (i := 151) (by decide +kernel) rfl), Or.inl rfl⟩
theorem kfW_15 : fldOk "StockYard$Way" 15 8 1 := ⟨by decide, by decide, "StockYard$Way", (gQ1 (i := 152) (by decide +kernel) rfl), Or.inl rfl⟩
theorem kfW_18 : fldOk "StockYard$Way" 18 8 2 := ⟨by decide, by decide, "StockYard$Way", (gQ1 (i := 153) (by decide +kernel) rfl), Or.inl rfl⟩
theorem kfW_22 : fldOk "StockYard$Way" 22 8 3 := ⟨by decide, by decide, "StockYard$Way", (gQ1 (i := 157) (by decide +kernel) rfl), Or.inl rfl⟩
set_option maxRecDepth 100000 in
theorem faW : ∀ q ∈ flW, fldOk "StockYard$Way" q.1 q.2.1 q.2.2 := List.forall_mem_cons.mpr ⟨kfW_9, List.forall_mem_cons.mpr ⟨kfW_15, List.forall_mem_cons.mpr ⟨kfW_18, List.forall_mem_cons.mpr ⟨kfW_22, fun q h => absurd h List.not_mem_nil⟩⟩⟩⟩
set_option maxRecDepth 100000 in
theorem maW : ∀ q ∈ mlW, calOk "StockYard$Way" q.1 q.2 := fun q h => absurd h List.not_mem_nil
theorem kaW : ∀ q ∈ klW, (∀ v, q.2 = .inl v → Cond.constant "StockYard$Way" q.1 v ∈ goodT) ∧ ∀ v, q.2 = .inr (.inl v) → Cond.constantLong "StockYard$Way" q.1 v ∈ goodT := fun q h => absurd h List.not_mem_nil
theorem taW : ∀ q ∈ tlW, Cond.classLink "StockYard$Way" q.1 (clsN q.2).1 ∈ goodT := fun q h => absurd h List.not_mem_nil
theorem eoW : envOk "StockYard$Way" cenW := ⟨fun i c k h => faW _ (alk_mem h), fun i c h => maW _ (alk_mem h), fun i v h => (kaW _ (alk_mem h)).1 v rfl, fun i v h => (kaW _ (alk_mem h)).2 v rfl, fun i c h => taW _ (alk_mem h)⟩
def flA : List (Nat × (Nat × Nat)) := [(19, 9, 0), (22, 9, 1), (25, 9, 2), (9, 9, 3), (15, 9, 4)]
def mlA : List (Nat × Cal) := [(28, mA_meets, 1, 0)]
def klA : List (Nat × AV) := []
def tlA : List (Nat × Nat) := []
def cenA : CE := (alk flA, alk mlA, alk klA, alk tlA)
theorem kfA_19 : fldOk "StockYard$Alley" 19 9 0 := ⟨by decide, by decide, "StockYard$Alley", (gQ2 (i := 66) (by decide +kernel) rfl), Or.inl rfl⟩
theorem kfA_22 : fldOk "StockYard$Alley" 22 9 1 := ⟨by decide, by decide, "StockYard$Alley", (gQ2 (i := 67) (by decide +kernel) rfl), Or.inl rfl⟩
theorem kfA_25 : fldOk "StockYard$Alley" 25 9 2 := ⟨by decide, by decide, "StockYard$Alley", (gQ2 (i := 68) (by decide +kernel) rfl), Or.inl rfl⟩
theorem kfA_9 : fldOk "StockYard$Alley" 9 9 3 := ⟨by decide, by decide, "StockYard$Alley", (gQ2 (i := 70) (by decide +kernel) rfl), Or.inl rfl⟩
theorem kfA_15 : fldOk "StockYard$Alley" 15 9 4 := ⟨by decide, by decide, "StockYard$Alley", (gQ2 (i := 71) (by decide +kernel) rfl), Or.inl rfl⟩
theorem kmA_28 : calOk "StockYard$Alley" 28 (mA_meets, 1, 0) := ⟨(gQ3 (i := 181) (by decide +kernel) rfl), (gQ1 (i := 13) (by decide +kernel) rfl), by decide +kernel, by decide, fun _ => (gQ3 (i := 178) (by decide +kernel) rfl), fun h => absurd h (by decide), fun _ => ⟨(gQ3 (i := 180) (by decide +kernel) rfl), (gP1 (i := 14) (by decide +kernel) rfl)⟩, fun h => absurd h (by decide), fun h => absurd h (by decide)⟩
set_option maxRecDepth 100000 in
theorem faA : ∀ q ∈ flA, fldOk "StockYard$Alley" q.1 q.2.1 q.2.2 := List.forall_mem_cons.mpr ⟨kfA_19, List.forall_mem_cons.mpr ⟨kfA_22, List.forall_mem_cons.mpr ⟨kfA_25, List.forall_mem_cons.mpr ⟨kfA_9, List.forall_mem_cons.mpr ⟨kfA_15, fun q h => absurd h List.not_mem_nil⟩⟩⟩⟩⟩
set_option maxRecDepth 100000 in
theorem maA : ∀ q ∈ mlA, calOk "StockYard$Alley" q.1 q.2 := List.forall_mem_cons.mpr ⟨kmA_28, fun q h => absurd h List.not_mem_nil⟩
theorem kaA : ∀ q ∈ klA, (∀ v, q.2 = .inl v → Cond.constant "StockYard$Alley" q.1 v ∈ goodT) ∧ ∀ v, q.2 = .inr (.inl v) → Cond.constantLong "StockYard$Alley" q.1 v ∈ goodT := fun q h => absurd h List.not_mem_nil
theorem taA : ∀ q ∈ tlA, Cond.classLink "StockYard$Alley" q.1 (clsN q.2).1 ∈ goodT := fun q h => absurd h List.not_mem_nil
theorem eoA : envOk "StockYard$Alley" cenA := ⟨fun i c k h => faA _ (alk_mem h), fun i c h => maA _ (alk_mem h), fun i v h => (kaA _ (alk_mem h)).1 v rfl, fun i v h => (kaA _ (alk_mem h)).2 v rfl, fun i c h => taA _ (alk_mem h)⟩
def flO : List (Nat × (Nat × Nat)) := [(38, 10, 0), (41, 10, 1), (12, 10, 2), (29, 10, 3), (32, 10, 4), (35, 10, 5), (44, 10, 6), (47, 10, 7), (18, 10, 8), (22, 10, 9), (25, 10, 10)]
def mlO : List (Nat × Cal) := [(11, mE_init, 0, 5), (50, mO_isOnWay, 0, 0)]
def klO : List (Nat × AV) := []
def tlO : List (Nat × Nat) := [(9, 11)]
def cenO : CE := (alk flO, alk mlO, alk klO, alk tlO)
theorem kfO_38 : fldOk "StockYard$Lot" 38 10 0 := ⟨by decide, by decide, "StockYard$Lot", (gQ3 (i := 36) (by decide +kernel) rfl), Or.inl rfl⟩
theorem kfO_41 : fldOk "StockYard$Lot" 41 10 1 := ⟨by decide, by decide, "StockYard$Lot", (gQ3 (i := 38) (by decide +kernel) rfl), Or.inl rfl⟩
theorem kfO_12 : fldOk "StockYard$Lot" 12 10 2 := ⟨by decide, by decide, "StockYard$Lot", (gQ3 (i := 40) (by decide +kernel) rfl), Or.inl rfl⟩
theorem kfO_29 : fldOk "StockYard$Lot" 29 10 3 := ⟨by decide, by decide, "StockYard$Lot", (gQ3 (i := 42) (by decide +kernel) rfl), Or.inl rfl⟩
theorem kfO_32 : fldOk "StockYard$Lot" 32 10 4 := ⟨by decide, by decide, "StockYard$Lot", (gQ3 (i := 45) (by decide +kernel) rfl), Or.inl rfl⟩
theorem kfO_35 : fldOk "StockYard$Lot" 35 10 5 := ⟨by decide, by decide, "StockYard$Lot", (gQ3 (i := 48) (by decide +kernel) rfl), Or.inl rfl⟩
theorem kfO_44 : fldOk "StockYard$Lot" 44 10 6 := ⟨by decide, by decide, "StockYard$Lot", (gQ3 (i := 51) (by decide +kernel) rfl), Or.inl rfl⟩
theorem kfO_47 : fldOk "StockYard$Lot" 47 10 7 := ⟨by decide, by decide, "StockYard$Lot", (gQ3 (i := 53) (by decide +kernel) rfl), Or.inl rfl⟩
theorem kfO_18 : fldOk "StockYard$Lot" 18 10 8 := ⟨by decide, by decide, "StockYard$Lot", (gQ3 (i := 55) (by decide +kernel) rfl), Or.inl rfl⟩
theorem kfO_22 : fldOk "StockYard$Lot" 22 10 9 := ⟨by decide, by decide, "StockYard$Lot", (gQ3 (i := 57) (by decide +kernel) rfl), Or.inl rfl⟩
theorem kfO_25 : fldOk "StockYard$Lot" 25 10 10 := ⟨by decide, by decide, "StockYard$Lot", (gQ3 (i := 59) (by decide +kernel) rfl), Or.inl rfl⟩
theorem kmO_11 : calOk "StockYard$Lot" 11 (mE_init, 0, 5) := ⟨(gQ2 (i := 236) (by decide +kernel) rfl), (gQ1 (i := 21) (by decide +kernel) rfl), by decide +kernel, by decide, fun h => absurd h (by decide), fun _ => ⟨"StockYard", List.mem_filter.mpr ⟨(hQ2 (i := 234) (by decide +kernel)), rfl⟩⟩, fun h => absurd h (by decide), fun h => absurd h (by decide), fun _ => ⟨(gQ2 (i := 235) (by decide +kernel) rfl), rfl, rfl⟩⟩
theorem kmO_50 : calOk "StockYard$Lot" 50 (mO_isOnWay, 0, 0) := ⟨(gQ3 (i := 160) (by decide +kernel) rfl), (gQ1 (i := 20) (by decide +kernel) rfl), by decide +kernel, by decide, fun _ => (gQ5 (i := 100) (by decide +kernel) rfl), fun h => absurd h (by decide), fun _ => ⟨(gQ3 (i := 158) (by decide +kernel) rfl), (gQ3 (i := 159) (by decide +kernel) rfl)⟩, fun h => absurd h (by decide), fun h => absurd h (by decide)⟩
set_option maxRecDepth 100000 in
theorem faO : ∀ q ∈ flO, fldOk "StockYard$Lot" q.1 q.2.1 q.2.2 := List.forall_mem_cons.mpr ⟨kfO_38, List.forall_mem_cons.mpr ⟨kfO_41, List.forall_mem_cons.mpr ⟨kfO_12, List.forall_mem_cons.mpr ⟨kfO_29, List.forall_mem_cons.mpr ⟨kfO_32, List.forall_mem_cons.mpr ⟨kfO_35, List.forall_mem_cons.mpr ⟨kfO_44, List.forall_mem_cons.mpr ⟨kfO_47, List.forall_mem_cons.mpr ⟨kfO_18, List.forall_mem_cons.mpr ⟨kfO_22, List.forall_mem_cons.mpr ⟨kfO_25, fun q h => absurd h List.not_mem_nil⟩⟩⟩⟩⟩⟩⟩⟩⟩⟩⟩
set_option maxRecDepth 100000 in
theorem maO : ∀ q ∈ mlO, calOk "StockYard$Lot" q.1 q.2 := List.forall_mem_cons.mpr ⟨kmO_11, List.forall_mem_cons.mpr ⟨kmO_50, fun q h => absurd h List.not_mem_nil⟩⟩
theorem kaO : ∀ q ∈ klO, (∀ v, q.2 = .inl v → Cond.constant "StockYard$Lot" q.1 v ∈ goodT) ∧ ∀ v, q.2 = .inr (.inl v) → Cond.constantLong "StockYard$Lot" q.1 v ∈ goodT := fun q h => absurd h List.not_mem_nil
theorem taO : ∀ q ∈ tlO, Cond.classLink "StockYard$Lot" q.1 (clsN q.2).1 ∈ goodT := List.forall_mem_cons.mpr ⟨(gQ2 (i := 232) (by decide +kernel) rfl), fun q h => absurd h List.not_mem_nil⟩
theorem eoO : envOk "StockYard$Lot" cenO := ⟨fun i c k h => faO _ (alk_mem h), fun i c h => maO _ (alk_mem h), fun i v h => (kaO _ (alk_mem h)).1 v rfl, fun i v h => (kaO _ (alk_mem h)).2 v rfl, fun i c h => taO _ (alk_mem h)⟩
def flE : List (Nat × (Nat × Nat)) := [(9, 11, 0), (15, 11, 1), (18, 11, 2), (22, 11, 3), (25, 11, 4), (28, 11, 5), (31, 11, 6), (34, 11, 7), (37, 11, 8), (40, 11, 9), (44, 11, 10)]
def mlE : List (Nat × Cal) := [(47, mS_isBuyer, 1, 4), (51, mS_inSet, 2, 4), (55, mE_moneyFor, 1, 0), (59, mJm_max, 2, 1)]
def klE : List (Nat × AV) := [(65, .inr (.inl 100))]
def tlE : List (Nat × Nat) := []
def cenE : CE := (alk flE, alk mlE, alk klE, alk tlE)
theorem kfE_9 : fldOk "StockYard$Sale" 9 11 0 := ⟨by decide, by decide, "StockYard$Sale", (gQ2 (i := 238) (by decide +kernel) rfl), Or.inl rfl⟩
theorem kfE_15 : fldOk "StockYard$Sale" 15 11 1 := ⟨by decide, by decide, "StockYard$Sale", (gQ2 (i := 239) (by decide +kernel) rfl), Or.inl rfl⟩
theorem kfE_18 : fldOk "StockYard$Sale" 18 11 2 := ⟨by decide, by decide, "StockYard$Sale", (gQ3 (i := 0) (by decide +kernel) rfl), Or.inl rfl⟩
theorem kfE_22 : fldOk "StockYard$Sale" 22 11 3 := ⟨by decide, by decide, "StockYard$Sale", (gQ3 (i := 1) (by decide +kernel) rfl), Or.inl rfl⟩
theorem kfE_25 : fldOk "StockYard$Sale" 25 11 4 := ⟨by decide, by decide, "StockYard$Sale", (gQ3 (i := 2) (by decide +kernel) rfl), Or.inl rfl⟩
theorem kfE_28 : fldOk "StockYard$Sale" 28 11 5 := ⟨by decide, by decide, "StockYard$Sale", (gQ3 (i := 3) (by decide +kernel) rfl), Or.inl rfl⟩
theorem kfE_31 : fldOk "StockYard$Sale" 31 11 6 := ⟨by decide, by decide, "StockYard$Sale", (gQ3 (i := 4) (by decide +kernel) rfl), Or.inl rfl⟩
theorem kfE_34 : fldOk "StockYard$Sale" 34 11 7 := ⟨by decide, by decide, "StockYard$Sale", (gQ3 (i := 5) (by decide +kernel) rfl), Or.inl rfl⟩
theorem kfE_37 : fldOk "StockYard$Sale" 37 11 8 := ⟨by decide, by decide, "StockYard$Sale", (gQ3 (i := 7) (by decide +kernel) rfl), Or.inl rfl⟩
theorem kfE_40 : fldOk "StockYard$Sale" 40 11 9 := ⟨by decide, by decide, "StockYard$Sale", (gQ3 (i := 9) (by decide +kernel) rfl), Or.inl rfl⟩
theorem kfE_44 : fldOk "StockYard$Sale" 44 11 10 := ⟨by decide, by decide, "StockYard$Sale", (gQ3 (i := 11) (by decide +kernel) rfl), Or.inl rfl⟩
theorem kmE_47 : calOk "StockYard$Sale" 47 (mS_isBuyer, 1, 4) := ⟨(gQ4 (i := 217) (by decide +kernel) rfl), (gQ1 (i := 1) (by decide +kernel) rfl), by decide +kernel, by decide, fun h => absurd h (by decide), fun _ => ⟨"StockYard", List.mem_filter.mpr ⟨(hQ4 (i := 222) (by decide +kernel)), rfl⟩⟩, fun h => absurd h (by decide), fun _ => (gQ4 (i := 216) (by decide +kernel) rfl), fun h => absurd h (by decide)⟩
theorem kmE_51 : calOk "StockYard$Sale" 51 (mS_inSet, 2, 4) := ⟨(gQ3 (i := 216) (by decide +kernel) rfl), (gQ1 (i := 1) (by decide +kernel) rfl), by decide +kernel, by decide, fun h => absurd h (by decide), fun _ => ⟨"StockYard", List.mem_filter.mpr ⟨(hQ4 (i := 223) (by decide +kernel)), rfl⟩⟩, fun h => absurd h (by decide), fun _ => (gQ3 (i := 215) (by decide +kernel) rfl), fun h => absurd h (by decide)⟩
theorem kmE_55 : calOk "StockYard$Sale" 55 (mE_moneyFor, 1, 0) := ⟨(gQ5 (i := 32) (by decide +kernel) rfl), (gQ1 (i := 21) (by decide +kernel) rfl), by decide +kernel, by decide, fun _ => (gQ5 (i := 29) (by decide +kernel) rfl), fun h => absurd h (by decide), fun _ => ⟨(gQ5 (i := 31) (by decide +kernel) rfl), (gP2 (i := 13) (by decide +kernel) rfl)⟩, fun h => absurd h (by decide), fun h => absurd h (by decide)⟩
theorem kmE_59 : calOk "StockYard$Sale" 59 (mJm_max, 2, 1) := ⟨(gQ2 (i := 104) (by decide +kernel) rfl), (gQ1 (i := 15) (by decide +kernel) rfl), by decide +kernel, by decide, fun _ => (gQ5 (i := 54) (by decide +kernel) rfl), fun h => absurd h (by decide), fun h => absurd h (by decide), fun _ => (gQ2 (i := 103) (by decide +kernel) rfl), fun h => absurd h (by decide)⟩
set_option maxRecDepth 100000 in
theorem faE : ∀ q ∈ flE, fldOk "StockYard$Sale" q.1 q.2.1 q.2.2 := List.forall_mem_cons.mpr ⟨kfE_9, List.forall_mem_cons.mpr ⟨kfE_15, List.forall_mem_cons.mpr ⟨kfE_18, List.forall_mem_cons.mpr ⟨kfE_22, List.forall_mem_cons.mpr ⟨kfE_25, List.forall_mem_cons.mpr ⟨kfE_28, List.forall_mem_cons.mpr ⟨kfE_31, List.forall_mem_cons.mpr ⟨kfE_34, List.forall_mem_cons.mpr ⟨kfE_37, List.forall_mem_cons.mpr ⟨kfE_40, List.forall_mem_cons.mpr ⟨kfE_44, fun q h => absurd h List.not_mem_nil⟩⟩⟩⟩⟩⟩⟩⟩⟩⟩⟩
set_option maxRecDepth 100000 in
theorem maE : ∀ q ∈ mlE, calOk "StockYard$Sale" q.1 q.2 := List.forall_mem_cons.mpr ⟨kmE_47, List.forall_mem_cons.mpr ⟨kmE_51, List.forall_mem_cons.mpr ⟨kmE_55, List.forall_mem_cons.mpr ⟨kmE_59, fun q h => absurd h List.not_mem_nil⟩⟩⟩⟩
theorem kaE : ∀ q ∈ klE, (∀ v, q.2 = .inl v → Cond.constant "StockYard$Sale" q.1 v ∈ goodT) ∧ ∀ v, q.2 = .inr (.inl v) → Cond.constantLong "StockYard$Sale" q.1 v ∈ goodT := List.forall_mem_cons.mpr ⟨⟨fun v h => (by cases h), fun v h => (by cases h; exact (gQ5 (i := 33) (by decide +kernel) rfl))⟩, fun q h => absurd h List.not_mem_nil⟩
theorem taE : ∀ q ∈ tlE, Cond.classLink "StockYard$Sale" q.1 (clsN q.2).1 ∈ goodT := fun q h => absurd h List.not_mem_nil
theorem eoE : envOk "StockYard$Sale" cenE := ⟨fun i c k h => faE _ (alk_mem h), fun i c h => maE _ (alk_mem h), fun i v h => (kaE _ (alk_mem h)).1 v rfl, fun i v h => (kaE _ (alk_mem h)).2 v rfl, fun i c h => taE _ (alk_mem h)⟩
def flU : List (Nat × (Nat × Nat)) := [(49, 10, 3), (54, 10, 4), (57, 10, 5), (35, 12, 0), (38, 12, 1), (9, 12, 2), (15, 12, 3), (19, 12, 4), (22, 12, 5), (25, 12, 6), (29, 12, 7), (32, 12, 8)]
def mlU : List (Nat × Cal) := [(41, mU_isMet, 4, 0), (45, mU_valueOf, 4, 1), (60, mO_thirst, 1, 0)]
def klU : List (Nat × AV) := []
def tlU : List (Nat × Nat) := []
def cenU : CE := (alk flU, alk mlU, alk klU, alk tlU)
theorem kfU_49 : fldOk "StockYard$Rule" 49 10 3 := ⟨by decide, by decide, "StockYard$Lot", (gQ3 (i := 43) (by decide +kernel) rfl), Or.inl rfl⟩
theorem kfU_54 : fldOk "StockYard$Rule" 54 10 4 := ⟨by decide, by decide, "StockYard$Lot", (gQ3 (i := 46) (by decide +kernel) rfl), Or.inl rfl⟩
theorem kfU_57 : fldOk "StockYard$Rule" 57 10 5 := ⟨by decide, by decide, "StockYard$Lot", (gQ3 (i := 49) (by decide +kernel) rfl), Or.inl rfl⟩
theorem kfU_35 : fldOk "StockYard$Rule" 35 12 0 := ⟨by decide, by decide, "StockYard$Rule", (gQ4 (i := 71) (by decide +kernel) rfl), Or.inl rfl⟩
theorem kfU_38 : fldOk "StockYard$Rule" 38 12 1 := ⟨by decide, by decide, "StockYard$Rule", (gQ4 (i := 72) (by decide +kernel) rfl), Or.inl rfl⟩
theorem kfU_9 : fldOk "StockYard$Rule" 9 12 2 := ⟨by decide, by decide, "StockYard$Rule", (gQ4 (i := 73) (by decide +kernel) rfl), Or.inl rfl⟩
theorem kfU_15 : fldOk "StockYard$Rule" 15 12 3 := ⟨by decide, by decide, "StockYard$Rule", (gQ4 (i := 74) (by decide +kernel) rfl), Or.inl rfl⟩
theorem kfU_19 : fldOk "StockYard$Rule" 19 12 4 := ⟨by decide, by decide, "StockYard$Rule", (gQ4 (i := 75) (by decide +kernel) rfl), Or.inl rfl⟩
theorem kfU_22 : fldOk "StockYard$Rule" 22 12 5 := ⟨by decide, by decide, "StockYard$Rule", (gQ4 (i := 76) (by decide +kernel) rfl), Or.inl rfl⟩
theorem kfU_25 : fldOk "StockYard$Rule" 25 12 6 := ⟨by decide, by decide, "StockYard$Rule", (gQ4 (i := 77) (by decide +kernel) rfl), Or.inl rfl⟩
theorem kfU_29 : fldOk "StockYard$Rule" 29 12 7 := ⟨by decide, by decide, "StockYard$Rule", (gQ4 (i := 78) (by decide +kernel) rfl), Or.inl rfl⟩
theorem kfU_32 : fldOk "StockYard$Rule" 32 12 8 := ⟨by decide, by decide, "StockYard$Rule", (gQ4 (i := 81) (by decide +kernel) rfl), Or.inl rfl⟩
theorem kmU_41 : calOk "StockYard$Rule" 41 (mU_isMet, 4, 0) := ⟨(gQ3 (i := 129) (by decide +kernel) rfl), (gQ1 (i := 22) (by decide +kernel) rfl), by decide +kernel, by decide, fun _ => (gQ3 (i := 125) (by decide +kernel) rfl), fun h => absurd h (by decide), fun _ => ⟨(gQ3 (i := 127) (by decide +kernel) rfl), (gP1 (i := 10) (by decide +kernel) rfl)⟩, fun h => absurd h (by decide), fun h => absurd h (by decide)⟩
theorem kmU_45 : calOk "StockYard$Rule" 45 (mU_valueOf, 4, 1) := ⟨(gQ3 (i := 132) (by decide +kernel) rfl), (gQ1 (i := 22) (by decide +kernel) rfl), by decide +kernel, by decide, fun _ => (gQ3 (i := 130) (by decide +kernel) rfl), fun h => absurd h (by decide), fun h => absurd h (by decide), fun _ => (gQ3 (i := 131) (by decide +kernel) rfl), fun h => absurd h (by decide)⟩
theorem kmU_60 : calOk "StockYard$Rule" 60 (mO_thirst, 1, 0) := ⟨(gQ3 (i := 108) (by decide +kernel) rfl), (gQ1 (i := 20) (by decide +kernel) rfl), by decide +kernel, by decide, fun _ => (gQ3 (i := 133) (by decide +kernel) rfl), fun h => absurd h (by decide), fun _ => ⟨(gQ3 (i := 106) (by decide +kernel) rfl), (gQ3 (i := 107) (by decide +kernel) rfl)⟩, fun h => absurd h (by decide), fun h => absurd h (by decide)⟩
set_option maxRecDepth 100000 in
theorem faU : ∀ q ∈ flU, fldOk "StockYard$Rule" q.1 q.2.1 q.2.2 := List.forall_mem_cons.mpr ⟨kfU_49, List.forall_mem_cons.mpr ⟨kfU_54, List.forall_mem_cons.mpr ⟨kfU_57, List.forall_mem_cons.mpr ⟨kfU_35, List.forall_mem_cons.mpr ⟨kfU_38, List.forall_mem_cons.mpr ⟨kfU_9, List.forall_mem_cons.mpr ⟨kfU_15, List.forall_mem_cons.mpr ⟨kfU_19, List.forall_mem_cons.mpr ⟨kfU_22, List.forall_mem_cons.mpr ⟨kfU_25, List.forall_mem_cons.mpr ⟨kfU_29, List.forall_mem_cons.mpr ⟨kfU_32, fun q h => absurd h List.not_mem_nil⟩⟩⟩⟩⟩⟩⟩⟩⟩⟩⟩⟩
set_option maxRecDepth 100000 in
theorem maU : ∀ q ∈ mlU, calOk "StockYard$Rule" q.1 q.2 := List.forall_mem_cons.mpr ⟨kmU_41, List.forall_mem_cons.mpr ⟨kmU_45, List.forall_mem_cons.mpr ⟨kmU_60, fun q h => absurd h List.not_mem_nil⟩⟩⟩
theorem kaU : ∀ q ∈ klU, (∀ v, q.2 = .inl v → Cond.constant "StockYard$Rule" q.1 v ∈ goodT) ∧ ∀ v, q.2 = .inr (.inl v) → Cond.constantLong "StockYard$Rule" q.1 v ∈ goodT := fun q h => absurd h List.not_mem_nil
theorem taU : ∀ q ∈ tlU, Cond.classLink "StockYard$Rule" q.1 (clsN q.2).1 ∈ goodT := fun q h => absurd h List.not_mem_nil
theorem eoU : envOk "StockYard$Rule" cenU := ⟨fun i c k h => faU _ (alk_mem h), fun i c h => maU _ (alk_mem h), fun i v h => (kaU _ (alk_mem h)).1 v rfl, fun i v h => (kaU _ (alk_mem h)).2 v rfl, fun i c h => taU _ (alk_mem h)⟩
def flZ : List (Nat × (Nat × Nat)) := []
def mlZ : List (Nat × Cal) := [(9, mS_init, 0, 2), (13, mS_place, 1, 0), (18, mS_alley, 3, 0), (23, mS_way, 2, 0), (28, mS_by, 3, 0), (32, mS_lot, 5, 0), (37, mS_sort, 4, 0), (42, mS_look, 2, 0), (46, mS_drive, 2, 0), (50, mS_water, 1, 0), (54, mS_hold, 2, 0), (58, mS_plan, 2, 0), (62, mS_planned, 2, 0), (66, mS_feed, 2, 0), (70, mS_wipe, 0, 0), (75, mS_rule, 2, 0), (79, mS_holds, 3, 0), (83, mS_said, 2, 0), (87, mS_see, 2, 0), (91, mS_bid, 3, 0), (95, mS_sell, 1, 0), (99, mS_weigh, 1, 0), (103, mS_off, 2, 0), (107, mS_test, 1, 0), (111, mS_account, 1, 0), (116, mS_write, 2, 0), (120, mS_whose, 1, 0), (124, mS_near, 1, 0), (128, mS_judge, 2, 0), (132, mS_run, 1, 0), (136, mS_count, 1, 0), (140, mS_lay, 0, 0), (144, mS_tear, 0, 0), (148, mS_row, 1, 0), (152, mS_copy, 3, 0), (156, mS_status, 1, 0), (12, mM_init, 0, 2), (159, mM_status, 1, 0), (17, mM_place, 1, 0), (22, mM_alley, 3, 0), (27, mM_way, 2, 0), (31, mM_by, 3, 0), (36, mM_lot, 5, 0), (41, mM_sort, 4, 0), (45, mM_look, 2, 0), (49, mM_drive, 2, 0), (53, mM_water, 1, 0), (57, mM_hold, 2, 0), (61, mM_plan, 2, 0), (65, mM_planned, 2, 0), (69, mM_feed, 2, 0), (74, mM_wipe, 0, 0), (78, mM_rule, 2, 0), (82, mM_holds, 3, 0), (86, mM_said, 2, 0), (90, mM_see, 2, 0), (94, mM_bid, 3, 0), (98, mM_sell, 1, 0), (102, mM_weigh, 1, 0), (106, mM_off, 2, 0), (110, mM_test, 1, 0), (115, mM_account, 1, 0), (119, mM_write, 2, 0), (123, mM_whose, 1, 0), (127, mM_near, 1, 0), (131, mM_judge, 2, 0), (135, mM_run, 1, 0), (139, mM_count, 1, 0), (143, mM_lay, 0, 0), (147, mM_tear, 0, 0), (151, mM_row, 1, 0), (155, mM_copy, 3, 0)]
def klZ : List (Nat × AV) := []
def tlZ : List (Nat × Nat) := [(7, 0), (10, 13)]
def cenZ : CE := (alk flZ, alk mlZ, alk klZ, alk tlZ)
theorem kmZ_9 : calOk "StockYardLaw" 9 (mS_init, 0, 2) := ⟨(gQ1 (i := 31) (by decide +kernel) rfl), (gQ1 (i := 1) (by decide +kernel) rfl), by decide +kernel, by decide, fun _ => (gQ1 (i := 29) (by decide +kernel) rfl), fun h => absurd h (by decide), fun h => absurd h (by decide), fun h => absurd h (by decide), fun _ => ⟨(gQ1 (i := 30) (by decide +kernel) rfl), rfl, rfl⟩⟩
theorem kmZ_13 : calOk "StockYardLaw" 13 (mS_place, 1, 0) := ⟨(gQ2 (i := 31) (by decide +kernel) rfl), (gQ1 (i := 1) (by decide +kernel) rfl), by decide +kernel, by decide, fun _ => (gQ2 (i := 28) (by decide +kernel) rfl), fun h => absurd h (by decide), fun _ => ⟨(gQ2 (i := 29) (by decide +kernel) rfl), (gQ2 (i := 30) (by decide +kernel) rfl)⟩, fun h => absurd h (by decide), fun h => absurd h (by decide)⟩
theorem kmZ_18 : calOk "StockYardLaw" 18 (mS_alley, 3, 0) := ⟨(gQ2 (i := 47) (by decide +kernel) rfl), (gQ1 (i := 1) (by decide +kernel) rfl), by decide +kernel, by decide, fun _ => (gQ2 (i := 44) (by decide +kernel) rfl), fun h => absurd h (by decide), fun _ => ⟨(gQ2 (i := 45) (by decide +kernel) rfl), (gQ2 (i := 46) (by decide +kernel) rfl)⟩, fun h => absurd h (by decide), fun h => absurd h (by decide)⟩
theorem kmZ_23 : calOk "StockYardLaw" 23 (mS_way, 2, 0) := ⟨(gQ2 (i := 154) (by decide +kernel) rfl), (gQ1 (i := 1) (by decide +kernel) rfl), by decide +kernel, by decide, fun _ => (gQ2 (i := 151) (by decide +kernel) rfl), fun h => absurd h (by decide), fun _ => ⟨(gQ2 (i := 152) (by decide +kernel) rfl), (gQ2 (i := 153) (by decide +kernel) rfl)⟩, fun h => absurd h (by decide), fun h => absurd h (by decide)⟩
theorem kmZ_28 : calOk "StockYardLaw" 28 (mS_by, 3, 0) := ⟨(gQ2 (i := 196) (by decide +kernel) rfl), (gQ1 (i := 1) (by decide +kernel) rfl), by decide +kernel, by decide, fun _ => (gQ2 (i := 193) (by decide +kernel) rfl), fun h => absurd h (by decide), fun _ => ⟨(gQ2 (i := 194) (by decide +kernel) rfl), (gQ2 (i := 195) (by decide +kernel) rfl)⟩, fun h => absurd h (by decide), fun h => absurd h (by decide)⟩
theorem kmZ_32 : calOk "StockYardLaw" 32 (mS_lot, 5, 0) := ⟨(gQ2 (i := 204) (by decide +kernel) rfl), (gQ1 (i := 1) (by decide +kernel) rfl), by decide +kernel, by decide, fun _ => (gQ2 (i := 201) (by decide +kernel) rfl), fun h => absurd h (by decide), fun _ => ⟨(gQ2 (i := 202) (by decide +kernel) rfl), (gQ2 (i := 203) (by decide +kernel) rfl)⟩, fun h => absurd h (by decide), fun h => absurd h (by decide)⟩
theorem kmZ_37 : calOk "StockYardLaw" 37 (mS_sort, 4, 0) := ⟨(gQ3 (i := 92) (by decide +kernel) rfl), (gQ1 (i := 1) (by decide +kernel) rfl), by decide +kernel, by decide, fun _ => (gQ3 (i := 89) (by decide +kernel) rfl), fun h => absurd h (by decide), fun _ => ⟨(gQ3 (i := 90) (by decide +kernel) rfl), (gQ3 (i := 91) (by decide +kernel) rfl)⟩, fun h => absurd h (by decide), fun h => absurd h (by decide)⟩
theorem kmZ_42 : calOk "StockYardLaw" 42 (mS_look, 2, 0) := ⟨(gQ3 (i := 104) (by decide +kernel) rfl), (gQ1 (i := 1) (by decide +kernel) rfl), by decide +kernel, by decide, fun _ => (gQ3 (i := 101) (by decide +kernel) rfl), fun h => absurd h (by decide), fun _ => ⟨(gQ3 (i := 102) (by decide +kernel) rfl), (gQ3 (i := 103) (by decide +kernel) rfl)⟩, fun h => absurd h (by decide), fun h => absurd h (by decide)⟩
theorem kmZ_46 : calOk "StockYardLaw" 46 (mS_drive, 2, 0) := ⟨(gQ3 (i := 152) (by decide +kernel) rfl), (gQ1 (i := 1) (by decide +kernel) rfl), by decide +kernel, by decide, fun _ => (gQ3 (i := 149) (by decide +kernel) rfl), fun h => absurd h (by decide), fun _ => ⟨(gQ3 (i := 150) (by decide +kernel) rfl), (gQ3 (i := 151) (by decide +kernel) rfl)⟩, fun h => absurd h (by decide), fun h => absurd h (by decide)⟩
theorem kmZ_50 : calOk "StockYardLaw" 50 (mS_water, 1, 0) := ⟨(gQ3 (i := 197) (by decide +kernel) rfl), (gQ1 (i := 1) (by decide +kernel) rfl), by decide +kernel, by decide, fun _ => (gQ3 (i := 194) (by decide +kernel) rfl), fun h => absurd h (by decide), fun _ => ⟨(gQ3 (i := 195) (by decide +kernel) rfl), (gQ3 (i := 196) (by decide +kernel) rfl)⟩, fun h => absurd h (by decide), fun h => absurd h (by decide)⟩
theorem kmZ_54 : calOk "StockYardLaw" 54 (mS_hold, 2, 0) := ⟨(gQ3 (i := 201) (by decide +kernel) rfl), (gQ1 (i := 1) (by decide +kernel) rfl), by decide +kernel, by decide, fun _ => (gQ3 (i := 198) (by decide +kernel) rfl), fun h => absurd h (by decide), fun _ => ⟨(gQ3 (i := 199) (by decide +kernel) rfl), (gQ3 (i := 200) (by decide +kernel) rfl)⟩, fun h => absurd h (by decide), fun h => absurd h (by decide)⟩
theorem kmZ_58 : calOk "StockYardLaw" 58 (mS_plan, 2, 0) := ⟨(gQ3 (i := 209) (by decide +kernel) rfl), (gQ1 (i := 1) (by decide +kernel) rfl), by decide +kernel, by decide, fun _ => (gQ3 (i := 206) (by decide +kernel) rfl), fun h => absurd h (by decide), fun _ => ⟨(gQ3 (i := 207) (by decide +kernel) rfl), (gQ3 (i := 208) (by decide +kernel) rfl)⟩, fun h => absurd h (by decide), fun h => absurd h (by decide)⟩
theorem kmZ_62 : calOk "StockYardLaw" 62 (mS_planned, 2, 0) := ⟨(gQ4 (i := 40) (by decide +kernel) rfl), (gQ1 (i := 1) (by decide +kernel) rfl), by decide +kernel, by decide, fun _ => (gQ4 (i := 37) (by decide +kernel) rfl), fun h => absurd h (by decide), fun _ => ⟨(gQ4 (i := 38) (by decide +kernel) rfl), (gQ4 (i := 39) (by decide +kernel) rfl)⟩, fun h => absurd h (by decide), fun h => absurd h (by decide)⟩
theorem kmZ_66 : calOk "StockYardLaw" 66 (mS_feed, 2, 0) := ⟨(gQ4 (i := 52) (by decide +kernel) rfl), (gQ1 (i := 1) (by decide +kernel) rfl), by decide +kernel, by decide, fun _ => (gQ4 (i := 49) (by decide +kernel) rfl), fun h => absurd h (by decide), fun _ => ⟨(gQ4 (i := 50) (by decide +kernel) rfl), (gQ4 (i := 51) (by decide +kernel) rfl)⟩, fun h => absurd h (by decide), fun h => absurd h (by decide)⟩
theorem kmZ_70 : calOk "StockYardLaw" 70 (mS_wipe, 0, 0) := ⟨(gQ4 (i := 60) (by decide +kernel) rfl), (gQ1 (i := 1) (by decide +kernel) rfl), by decide +kernel, by decide, fun _ => (gQ4 (i := 57) (by decide +kernel) rfl), fun h => absurd h (by decide), fun _ => ⟨(gQ4 (i := 58) (by decide +kernel) rfl), (gQ4 (i := 59) (by decide +kernel) rfl)⟩, fun h => absurd h (by decide), fun h => absurd h (by decide)⟩
theorem kmZ_75 : calOk "StockYardLaw" 75 (mS_rule, 2, 0) := ⟨(gQ4 (i := 64) (by decide +kernel) rfl), (gQ1 (i := 1) (by decide +kernel) rfl), by decide +kernel, by decide, fun _ => (gQ4 (i := 61) (by decide +kernel) rfl), fun h => absurd h (by decide), fun _ => ⟨(gQ4 (i := 62) (by decide +kernel) rfl), (gQ4 (i := 63) (by decide +kernel) rfl)⟩, fun h => absurd h (by decide), fun h => absurd h (by decide)⟩
theorem kmZ_79 : calOk "StockYardLaw" 79 (mS_holds, 3, 0) := ⟨(gQ4 (i := 204) (by decide +kernel) rfl), (gQ1 (i := 1) (by decide +kernel) rfl), by decide +kernel, by decide, fun _ => (gQ4 (i := 201) (by decide +kernel) rfl), fun h => absurd h (by decide), fun _ => ⟨(gQ4 (i := 202) (by decide +kernel) rfl), (gQ4 (i := 203) (by decide +kernel) rfl)⟩, fun h => absurd h (by decide), fun h => absurd h (by decide)⟩
theorem kmZ_83 : calOk "StockYardLaw" 83 (mS_said, 2, 0) := ⟨(gQ4 (i := 209) (by decide +kernel) rfl), (gQ1 (i := 1) (by decide +kernel) rfl), by decide +kernel, by decide, fun _ => (gQ4 (i := 206) (by decide +kernel) rfl), fun h => absurd h (by decide), fun _ => ⟨(gQ4 (i := 207) (by decide +kernel) rfl), (gQ4 (i := 208) (by decide +kernel) rfl)⟩, fun h => absurd h (by decide), fun h => absurd h (by decide)⟩
theorem kmZ_87 : calOk "StockYardLaw" 87 (mS_see, 2, 0) := ⟨(gQ4 (i := 214) (by decide +kernel) rfl), (gQ1 (i := 1) (by decide +kernel) rfl), by decide +kernel, by decide, fun _ => (gQ4 (i := 211) (by decide +kernel) rfl), fun h => absurd h (by decide), fun _ => ⟨(gQ4 (i := 212) (by decide +kernel) rfl), (gQ4 (i := 213) (by decide +kernel) rfl)⟩, fun h => absurd h (by decide), fun h => absurd h (by decide)⟩
theorem kmZ_91 : calOk "StockYardLaw" 91 (mS_bid, 3, 0) := ⟨(gQ4 (i := 231) (by decide +kernel) rfl), (gQ1 (i := 1) (by decide +kernel) rfl), by decide +kernel, by decide, fun _ => (gQ4 (i := 228) (by decide +kernel) rfl), fun h => absurd h (by decide), fun _ => ⟨(gQ4 (i := 229) (by decide +kernel) rfl), (gQ4 (i := 230) (by decide +kernel) rfl)⟩, fun h => absurd h (by decide), fun h => absurd h (by decide)⟩
theorem kmZ_95 : calOk "StockYardLaw" 95 (mS_sell, 1, 0) := ⟨(gQ5 (i := 7) (by decide +kernel) rfl), (gQ1 (i := 1) (by decide +kernel) rfl), by decide +kernel, by decide, fun _ => (gQ5 (i := 4) (by decide +kernel) rfl), fun h => absurd h (by decide), fun _ => ⟨(gQ5 (i := 5) (by decide +kernel) rfl), (gQ5 (i := 6) (by decide +kernel) rfl)⟩, fun h => absurd h (by decide), fun h => absurd h (by decide)⟩
theorem kmZ_99 : calOk "StockYardLaw" 99 (mS_weigh, 1, 0) := ⟨(gQ5 (i := 15) (by decide +kernel) rfl), (gQ1 (i := 1) (by decide +kernel) rfl), by decide +kernel, by decide, fun _ => (gQ5 (i := 12) (by decide +kernel) rfl), fun h => absurd h (by decide), fun _ => ⟨(gQ5 (i := 13) (by decide +kernel) rfl), (gQ5 (i := 14) (by decide +kernel) rfl)⟩, fun h => absurd h (by decide), fun h => absurd h (by decide)⟩
theorem kmZ_103 : calOk "StockYardLaw" 103 (mS_off, 2, 0) := ⟨(gQ5 (i := 37) (by decide +kernel) rfl), (gQ1 (i := 1) (by decide +kernel) rfl), by decide +kernel, by decide, fun _ => (gQ5 (i := 34) (by decide +kernel) rfl), fun h => absurd h (by decide), fun _ => ⟨(gQ5 (i := 35) (by decide +kernel) rfl), (gQ5 (i := 36) (by decide +kernel) rfl)⟩, fun h => absurd h (by decide), fun h => absurd h (by decide)⟩
theorem kmZ_107 : calOk "StockYardLaw" 107 (mS_test, 1, 0) := ⟨(gQ5 (i := 45) (by decide +kernel) rfl), (gQ1 (i := 1) (by decide +kernel) rfl), by decide +kernel, by decide, fun _ => (gQ5 (i := 42) (by decide +kernel) rfl), fun h => absurd h (by decide), fun _ => ⟨(gQ5 (i := 43) (by decide +kernel) rfl), (gQ5 (i := 44) (by decide +kernel) rfl)⟩, fun h => absurd h (by decide), fun h => absurd h (by decide)⟩
theorem kmZ_111 : calOk "StockYardLaw" 111 (mS_account, 1, 0) := ⟨(gQ5 (i := 58) (by decide +kernel) rfl), (gQ1 (i := 1) (by decide +kernel) rfl), by decide +kernel, by decide, fun _ => (gQ5 (i := 55) (by decide +kernel) rfl), fun h => absurd h (by decide), fun _ => ⟨(gQ5 (i := 56) (by decide +kernel) rfl), (gQ5 (i := 57) (by decide +kernel) rfl)⟩, fun h => absurd h (by decide), fun h => absurd h (by decide)⟩
theorem kmZ_116 : calOk "StockYardLaw" 116 (mS_write, 2, 0) := ⟨(gQ5 (i := 62) (by decide +kernel) rfl), (gQ1 (i := 1) (by decide +kernel) rfl), by decide +kernel, by decide, fun _ => (gQ5 (i := 59) (by decide +kernel) rfl), fun h => absurd h (by decide), fun _ => ⟨(gQ5 (i := 60) (by decide +kernel) rfl), (gQ5 (i := 61) (by decide +kernel) rfl)⟩, fun h => absurd h (by decide), fun h => absurd h (by decide)⟩
theorem kmZ_120 : calOk "StockYardLaw" 120 (mS_whose, 1, 0) := ⟨(gQ5 (i := 71) (by decide +kernel) rfl), (gQ1 (i := 1) (by decide +kernel) rfl), by decide +kernel, by decide, fun _ => (gQ5 (i := 68) (by decide +kernel) rfl), fun h => absurd h (by decide), fun _ => ⟨(gQ5 (i := 69) (by decide +kernel) rfl), (gQ5 (i := 70) (by decide +kernel) rfl)⟩, fun h => absurd h (by decide), fun h => absurd h (by decide)⟩
theorem kmZ_124 : calOk "StockYardLaw" 124 (mS_near, 1, 0) := ⟨(gQ5 (i := 75) (by decide +kernel) rfl), (gQ1 (i := 1) (by decide +kernel) rfl), by decide +kernel, by decide, fun _ => (gQ5 (i := 72) (by decide +kernel) rfl), fun h => absurd h (by decide), fun _ => ⟨(gQ5 (i := 73) (by decide +kernel) rfl), (gQ5 (i := 74) (by decide +kernel) rfl)⟩, fun h => absurd h (by decide), fun h => absurd h (by decide)⟩
theorem kmZ_128 : calOk "StockYardLaw" 128 (mS_judge, 2, 0) := ⟨(gQ5 (i := 83) (by decide +kernel) rfl), (gQ1 (i := 1) (by decide +kernel) rfl), by decide +kernel, by decide, fun _ => (gQ5 (i := 80) (by decide +kernel) rfl), fun h => absurd h (by decide), fun _ => ⟨(gQ5 (i := 81) (by decide +kernel) rfl), (gQ5 (i := 82) (by decide +kernel) rfl)⟩, fun h => absurd h (by decide), fun h => absurd h (by decide)⟩
theorem kmZ_132 : calOk "StockYardLaw" 132 (mS_run, 1, 0) := ⟨(gQ5 (i := 87) (by decide +kernel) rfl), (gQ1 (i := 1) (by decide +kernel) rfl), by decide +kernel, by decide, fun _ => (gQ5 (i := 84) (by decide +kernel) rfl), fun h => absurd h (by decide), fun _ => ⟨(gQ5 (i := 85) (by decide +kernel) rfl), (gQ5 (i := 86) (by decide +kernel) rfl)⟩, fun h => absurd h (by decide), fun h => absurd h (by decide)⟩
theorem kmZ_136 : calOk "StockYardLaw" 136 (mS_count, 1, 0) := ⟨(gQ5 (i := 104) (by decide +kernel) rfl), (gQ1 (i := 1) (by decide +kernel) rfl), by decide +kernel, by decide, fun _ => (gQ5 (i := 101) (by decide +kernel) rfl), fun h => absurd h (by decide), fun _ => ⟨(gQ5 (i := 102) (by decide +kernel) rfl), (gQ5 (i := 103) (by decide +kernel) rfl)⟩, fun h => absurd h (by decide), fun h => absurd h (by decide)⟩
theorem kmZ_140 : calOk "StockYardLaw" 140 (mS_lay, 0, 0) := ⟨(gQ5 (i := 124) (by decide +kernel) rfl), (gQ1 (i := 1) (by decide +kernel) rfl), by decide +kernel, by decide, fun _ => (gQ5 (i := 121) (by decide +kernel) rfl), fun h => absurd h (by decide), fun _ => ⟨(gQ5 (i := 122) (by decide +kernel) rfl), (gQ5 (i := 123) (by decide +kernel) rfl)⟩, fun h => absurd h (by decide), fun h => absurd h (by decide)⟩
theorem kmZ_144 : calOk "StockYardLaw" 144 (mS_tear, 0, 0) := ⟨(gQ5 (i := 137) (by decide +kernel) rfl), (gQ1 (i := 1) (by decide +kernel) rfl), by decide +kernel, by decide, fun _ => (gQ5 (i := 134) (by decide +kernel) rfl), fun h => absurd h (by decide), fun _ => ⟨(gQ5 (i := 135) (by decide +kernel) rfl), (gQ5 (i := 136) (by decide +kernel) rfl)⟩, fun h => absurd h (by decide), fun h => absurd h (by decide)⟩
theorem kmZ_148 : calOk "StockYardLaw" 148 (mS_row, 1, 0) := ⟨(gQ5 (i := 141) (by decide +kernel) rfl), (gQ1 (i := 1) (by decide +kernel) rfl), by decide +kernel, by decide, fun _ => (gQ5 (i := 138) (by decide +kernel) rfl), fun h => absurd h (by decide), fun _ => ⟨(gQ5 (i := 139) (by decide +kernel) rfl), (gQ5 (i := 140) (by decide +kernel) rfl)⟩, fun h => absurd h (by decide), fun h => absurd h (by decide)⟩
theorem kmZ_152 : calOk "StockYardLaw" 152 (mS_copy, 3, 0) := ⟨(gQ5 (i := 149) (by decide +kernel) rfl), (gQ1 (i := 1) (by decide +kernel) rfl), by decide +kernel, by decide, fun _ => (gQ5 (i := 146) (by decide +kernel) rfl), fun h => absurd h (by decide), fun _ => ⟨(gQ5 (i := 147) (by decide +kernel) rfl), (gQ5 (i := 148) (by decide +kernel) rfl)⟩, fun h => absurd h (by decide), fun h => absurd h (by decide)⟩
theorem kmZ_156 : calOk "StockYardLaw" 156 (mS_status, 1, 0) := ⟨(gQ5 (i := 163) (by decide +kernel) rfl), (gQ1 (i := 1) (by decide +kernel) rfl), by decide +kernel, by decide, fun _ => (gQ5 (i := 160) (by decide +kernel) rfl), fun h => absurd h (by decide), fun _ => ⟨(gQ5 (i := 161) (by decide +kernel) rfl), (gQ5 (i := 162) (by decide +kernel) rfl)⟩, fun h => absurd h (by decide), fun h => absurd h (by decide)⟩
theorem kmZ_12 : calOk "StockYardLaw" 12 (mM_init, 0, 2) := ⟨(gQ5 (i := 168) (by decide +kernel) rfl), (gQ1 (i := 12) (by decide +kernel) rfl), by decide +kernel, by decide, fun _ => (gQ5 (i := 166) (by decide +kernel) rfl), fun h => absurd h (by decide), fun h => absurd h (by decide), fun h => absurd h (by decide), fun _ => ⟨(gQ5 (i := 167) (by decide +kernel) rfl), rfl, rfl⟩⟩
theorem kmZ_159 : calOk "StockYardLaw" 159 (mM_status, 1, 0) := ⟨(gQ6 (i := 139) (by decide +kernel) rfl), (gQ1 (i := 12) (by decide +kernel) rfl), by decide +kernel, by decide, fun _ => (gQ6 (i := 136) (by decide +kernel) rfl), fun h => absurd h (by decide), fun _ => ⟨(gQ6 (i := 137) (by decide +kernel) rfl), (gQ6 (i := 138) (by decide +kernel) rfl)⟩, fun h => absurd h (by decide), fun h => absurd h (by decide)⟩
theorem kmZ_17 : calOk "StockYardLaw" 17 (mM_place, 1, 0) := ⟨(gQ6 (i := 150) (by decide +kernel) rfl), (gQ1 (i := 12) (by decide +kernel) rfl), by decide +kernel, by decide, fun _ => (gQ6 (i := 147) (by decide +kernel) rfl), fun h => absurd h (by decide), fun _ => ⟨(gQ6 (i := 148) (by decide +kernel) rfl), (gQ6 (i := 149) (by decide +kernel) rfl)⟩, fun h => absurd h (by decide), fun h => absurd h (by decide)⟩
theorem kmZ_22 : calOk "StockYardLaw" 22 (mM_alley, 3, 0) := ⟨(gQ6 (i := 154) (by decide +kernel) rfl), (gQ1 (i := 12) (by decide +kernel) rfl), by decide +kernel, by decide, fun _ => (gQ6 (i := 151) (by decide +kernel) rfl), fun h => absurd h (by decide), fun _ => ⟨(gQ6 (i := 152) (by decide +kernel) rfl), (gQ6 (i := 153) (by decide +kernel) rfl)⟩, fun h => absurd h (by decide), fun h => absurd h (by decide)⟩
theorem kmZ_27 : calOk "StockYardLaw" 27 (mM_way, 2, 0) := ⟨(gQ6 (i := 162) (by decide +kernel) rfl), (gQ1 (i := 12) (by decide +kernel) rfl), by decide +kernel, by decide, fun _ => (gQ6 (i := 159) (by decide +kernel) rfl), fun h => absurd h (by decide), fun _ => ⟨(gQ6 (i := 160) (by decide +kernel) rfl), (gQ6 (i := 161) (by decide +kernel) rfl)⟩, fun h => absurd h (by decide), fun h => absurd h (by decide)⟩
theorem kmZ_31 : calOk "StockYardLaw" 31 (mM_by, 3, 0) := ⟨(gQ6 (i := 175) (by decide +kernel) rfl), (gQ1 (i := 12) (by decide +kernel) rfl), by decide +kernel, by decide, fun _ => (gQ6 (i := 172) (by decide +kernel) rfl), fun h => absurd h (by decide), fun _ => ⟨(gQ6 (i := 173) (by decide +kernel) rfl), (gQ6 (i := 174) (by decide +kernel) rfl)⟩, fun h => absurd h (by decide), fun h => absurd h (by decide)⟩
theorem kmZ_36 : calOk "StockYardLaw" 36 (mM_lot, 5, 0) := ⟨(gQ6 (i := 179) (by decide +kernel) rfl), (gQ1 (i := 12) (by decide +kernel) rfl), by decide +kernel, by decide, fun _ => (gQ6 (i := 176) (by decide +kernel) rfl), fun h => absurd h (by decide), fun _ => ⟨(gQ6 (i := 177) (by decide +kernel) rfl), (gQ6 (i := 178) (by decide +kernel) rfl)⟩, fun h => absurd h (by decide), fun h => absurd h (by decide)⟩
theorem kmZ_41 : calOk "StockYardLaw" 41 (mM_sort, 4, 0) := ⟨(gQ6 (i := 194) (by decide +kernel) rfl), (gQ1 (i := 12) (by decide +kernel) rfl), by decide +kernel, by decide, fun _ => (gQ6 (i := 191) (by decide +kernel) rfl), fun h => absurd h (by decide), fun _ => ⟨(gQ6 (i := 192) (by decide +kernel) rfl), (gQ6 (i := 193) (by decide +kernel) rfl)⟩, fun h => absurd h (by decide), fun h => absurd h (by decide)⟩
theorem kmZ_45 : calOk "StockYardLaw" 45 (mM_look, 2, 0) := ⟨(gQ6 (i := 206) (by decide +kernel) rfl), (gQ1 (i := 12) (by decide +kernel) rfl), by decide +kernel, by decide, fun _ => (gQ6 (i := 203) (by decide +kernel) rfl), fun h => absurd h (by decide), fun _ => ⟨(gQ6 (i := 204) (by decide +kernel) rfl), (gQ6 (i := 205) (by decide +kernel) rfl)⟩, fun h => absurd h (by decide), fun h => absurd h (by decide)⟩
theorem kmZ_49 : calOk "StockYardLaw" 49 (mM_drive, 2, 0) := ⟨(gQ7 (i := 5) (by decide +kernel) rfl), (gQ1 (i := 12) (by decide +kernel) rfl), by decide +kernel, by decide, fun _ => (gQ7 (i := 2) (by decide +kernel) rfl), fun h => absurd h (by decide), fun _ => ⟨(gQ7 (i := 3) (by decide +kernel) rfl), (gQ7 (i := 4) (by decide +kernel) rfl)⟩, fun h => absurd h (by decide), fun h => absurd h (by decide)⟩
theorem kmZ_53 : calOk "StockYardLaw" 53 (mM_water, 1, 0) := ⟨(gQ7 (i := 21) (by decide +kernel) rfl), (gQ1 (i := 12) (by decide +kernel) rfl), by decide +kernel, by decide, fun _ => (gQ7 (i := 18) (by decide +kernel) rfl), fun h => absurd h (by decide), fun _ => ⟨(gQ7 (i := 19) (by decide +kernel) rfl), (gQ7 (i := 20) (by decide +kernel) rfl)⟩, fun h => absurd h (by decide), fun h => absurd h (by decide)⟩
theorem kmZ_57 : calOk "StockYardLaw" 57 (mM_hold, 2, 0) := ⟨(gQ7 (i := 25) (by decide +kernel) rfl), (gQ1 (i := 12) (by decide +kernel) rfl), by decide +kernel, by decide, fun _ => (gQ7 (i := 22) (by decide +kernel) rfl), fun h => absurd h (by decide), fun _ => ⟨(gQ7 (i := 23) (by decide +kernel) rfl), (gQ7 (i := 24) (by decide +kernel) rfl)⟩, fun h => absurd h (by decide), fun h => absurd h (by decide)⟩
theorem kmZ_61 : calOk "StockYardLaw" 61 (mM_plan, 2, 0) := ⟨(gQ7 (i := 29) (by decide +kernel) rfl), (gQ1 (i := 12) (by decide +kernel) rfl), by decide +kernel, by decide, fun _ => (gQ7 (i := 26) (by decide +kernel) rfl), fun h => absurd h (by decide), fun _ => ⟨(gQ7 (i := 27) (by decide +kernel) rfl), (gQ7 (i := 28) (by decide +kernel) rfl)⟩, fun h => absurd h (by decide), fun h => absurd h (by decide)⟩
theorem kmZ_65 : calOk "StockYardLaw" 65 (mM_planned, 2, 0) := ⟨(gQ7 (i := 40) (by decide +kernel) rfl), (gQ1 (i := 12) (by decide +kernel) rfl), by decide +kernel, by decide, fun _ => (gQ7 (i := 37) (by decide +kernel) rfl), fun h => absurd h (by decide), fun _ => ⟨(gQ7 (i := 38) (by decide +kernel) rfl), (gQ7 (i := 39) (by decide +kernel) rfl)⟩, fun h => absurd h (by decide), fun h => absurd h (by decide)⟩
theorem kmZ_69 : calOk "StockYardLaw" 69 (mM_feed, 2, 0) := ⟨(gQ7 (i := 44) (by decide +kernel) rfl), (gQ1 (i := 12) (by decide +kernel) rfl), by decide +kernel, by decide, fun _ => (gQ7 (i := 41) (by decide +kernel) rfl), fun h => absurd h (by decide), fun _ => ⟨(gQ7 (i := 42) (by decide +kernel) rfl), (gQ7 (i := 43) (by decide +kernel) rfl)⟩, fun h => absurd h (by decide), fun h => absurd h (by decide)⟩
theorem kmZ_74 : calOk "StockYardLaw" 74 (mM_wipe, 0, 0) := ⟨(gQ7 (i := 48) (by decide +kernel) rfl), (gQ1 (i := 12) (by decide +kernel) rfl), by decide +kernel, by decide, fun _ => (gQ7 (i := 45) (by decide +kernel) rfl), fun h => absurd h (by decide), fun _ => ⟨(gQ7 (i := 46) (by decide +kernel) rfl), (gQ7 (i := 47) (by decide +kernel) rfl)⟩, fun h => absurd h (by decide), fun h => absurd h (by decide)⟩
theorem kmZ_78 : calOk "StockYardLaw" 78 (mM_rule, 2, 0) := ⟨(gQ7 (i := 52) (by decide +kernel) rfl), (gQ1 (i := 12) (by decide +kernel) rfl), by decide +kernel, by decide, fun _ => (gQ7 (i := 49) (by decide +kernel) rfl), fun h => absurd h (by decide), fun _ => ⟨(gQ7 (i := 50) (by decide +kernel) rfl), (gQ7 (i := 51) (by decide +kernel) rfl)⟩, fun h => absurd h (by decide), fun h => absurd h (by decide)⟩
theorem kmZ_82 : calOk "StockYardLaw" 82 (mM_holds, 3, 0) := ⟨(gQ7 (i := 94) (by decide +kernel) rfl), (gQ1 (i := 12) (by decide +kernel) rfl), by decide +kernel, by decide, fun _ => (gQ7 (i := 91) (by decide +kernel) rfl), fun h => absurd h (by decide), fun _ => ⟨(gQ7 (i := 92) (by decide +kernel) rfl), (gQ7 (i := 93) (by decide +kernel) rfl)⟩, fun h => absurd h (by decide), fun h => absurd h (by decide)⟩
theorem kmZ_86 : calOk "StockYardLaw" 86 (mM_said, 2, 0) := ⟨(gQ7 (i := 98) (by decide +kernel) rfl), (gQ1 (i := 12) (by decide +kernel) rfl), by decide +kernel, by decide, fun _ => (gQ7 (i := 95) (by decide +kernel) rfl), fun h => absurd h (by decide), fun _ => ⟨(gQ7 (i := 96) (by decide +kernel) rfl), (gQ7 (i := 97) (by decide +kernel) rfl)⟩, fun h => absurd h (by decide), fun h => absurd h (by decide)⟩
theorem kmZ_90 : calOk "StockYardLaw" 90 (mM_see, 2, 0) := ⟨(gQ7 (i := 102) (by decide +kernel) rfl), (gQ1 (i := 12) (by decide +kernel) rfl), by decide +kernel, by decide, fun _ => (gQ7 (i := 99) (by decide +kernel) rfl), fun h => absurd h (by decide), fun _ => ⟨(gQ7 (i := 100) (by decide +kernel) rfl), (gQ7 (i := 101) (by decide +kernel) rfl)⟩, fun h => absurd h (by decide), fun h => absurd h (by decide)⟩
theorem kmZ_94 : calOk "StockYardLaw" 94 (mM_bid, 3, 0) := ⟨(gQ7 (i := 109) (by decide +kernel) rfl), (gQ1 (i := 12) (by decide +kernel) rfl), by decide +kernel, by decide, fun _ => (gQ7 (i := 106) (by decide +kernel) rfl), fun h => absurd h (by decide), fun _ => ⟨(gQ7 (i := 107) (by decide +kernel) rfl), (gQ7 (i := 108) (by decide +kernel) rfl)⟩, fun h => absurd h (by decide), fun h => absurd h (by decide)⟩
theorem kmZ_98 : calOk "StockYardLaw" 98 (mM_sell, 1, 0) := ⟨(gQ7 (i := 117) (by decide +kernel) rfl), (gQ1 (i := 12) (by decide +kernel) rfl), by decide +kernel, by decide, fun _ => (gQ7 (i := 114) (by decide +kernel) rfl), fun h => absurd h (by decide), fun _ => ⟨(gQ7 (i := 115) (by decide +kernel) rfl), (gQ7 (i := 116) (by decide +kernel) rfl)⟩, fun h => absurd h (by decide), fun h => absurd h (by decide)⟩
theorem kmZ_102 : calOk "StockYardLaw" 102 (mM_weigh, 1, 0) := ⟨(gQ7 (i := 121) (by decide +kernel) rfl), (gQ1 (i := 12) (by decide +kernel) rfl), by decide +kernel, by decide, fun _ => (gQ7 (i := 118) (by decide +kernel) rfl), fun h => absurd h (by decide), fun _ => ⟨(gQ7 (i := 119) (by decide +kernel) rfl), (gQ7 (i := 120) (by decide +kernel) rfl)⟩, fun h => absurd h (by decide), fun h => absurd h (by decide)⟩
theorem kmZ_106 : calOk "StockYardLaw" 106 (mM_off, 2, 0) := ⟨(gQ7 (i := 130) (by decide +kernel) rfl), (gQ1 (i := 12) (by decide +kernel) rfl), by decide +kernel, by decide, fun _ => (gQ7 (i := 127) (by decide +kernel) rfl), fun h => absurd h (by decide), fun _ => ⟨(gQ7 (i := 128) (by decide +kernel) rfl), (gQ7 (i := 129) (by decide +kernel) rfl)⟩, fun h => absurd h (by decide), fun h => absurd h (by decide)⟩
theorem kmZ_110 : calOk "StockYardLaw" 110 (mM_test, 1, 0) := ⟨(gQ7 (i := 138) (by decide +kernel) rfl), (gQ1 (i := 12) (by decide +kernel) rfl), by decide +kernel, by decide, fun _ => (gQ7 (i := 135) (by decide +kernel) rfl), fun h => absurd h (by decide), fun _ => ⟨(gQ7 (i := 136) (by decide +kernel) rfl), (gQ7 (i := 137) (by decide +kernel) rfl)⟩, fun h => absurd h (by decide), fun h => absurd h (by decide)⟩
theorem kmZ_115 : calOk "StockYardLaw" 115 (mM_account, 1, 0) := ⟨(gQ7 (i := 142) (by decide +kernel) rfl), (gQ1 (i := 12) (by decide +kernel) rfl), by decide +kernel, by decide, fun _ => (gQ7 (i := 139) (by decide +kernel) rfl), fun h => absurd h (by decide), fun _ => ⟨(gQ7 (i := 140) (by decide +kernel) rfl), (gQ7 (i := 141) (by decide +kernel) rfl)⟩, fun h => absurd h (by decide), fun h => absurd h (by decide)⟩
theorem kmZ_119 : calOk "StockYardLaw" 119 (mM_write, 2, 0) := ⟨(gQ7 (i := 146) (by decide +kernel) rfl), (gQ1 (i := 12) (by decide +kernel) rfl), by decide +kernel, by decide, fun _ => (gQ7 (i := 143) (by decide +kernel) rfl), fun h => absurd h (by decide), fun _ => ⟨(gQ7 (i := 144) (by decide +kernel) rfl), (gQ7 (i := 145) (by decide +kernel) rfl)⟩, fun h => absurd h (by decide), fun h => absurd h (by decide)⟩
theorem kmZ_123 : calOk "StockYardLaw" 123 (mM_whose, 1, 0) := ⟨(gQ7 (i := 150) (by decide +kernel) rfl), (gQ1 (i := 12) (by decide +kernel) rfl), by decide +kernel, by decide, fun _ => (gQ7 (i := 147) (by decide +kernel) rfl), fun h => absurd h (by decide), fun _ => ⟨(gQ7 (i := 148) (by decide +kernel) rfl), (gQ7 (i := 149) (by decide +kernel) rfl)⟩, fun h => absurd h (by decide), fun h => absurd h (by decide)⟩
theorem kmZ_127 : calOk "StockYardLaw" 127 (mM_near, 1, 0) := ⟨(gQ7 (i := 154) (by decide +kernel) rfl), (gQ1 (i := 12) (by decide +kernel) rfl), by decide +kernel, by decide, fun _ => (gQ7 (i := 151) (by decide +kernel) rfl), fun h => absurd h (by decide), fun _ => ⟨(gQ7 (i := 152) (by decide +kernel) rfl), (gQ7 (i := 153) (by decide +kernel) rfl)⟩, fun h => absurd h (by decide), fun h => absurd h (by decide)⟩
theorem kmZ_131 : calOk "StockYardLaw" 131 (mM_judge, 2, 0) := ⟨(gQ7 (i := 158) (by decide +kernel) rfl), (gQ1 (i := 12) (by decide +kernel) rfl), by decide +kernel, by decide, fun _ => (gQ7 (i := 155) (by decide +kernel) rfl), fun h => absurd h (by decide), fun _ => ⟨(gQ7 (i := 156) (by decide +kernel) rfl), (gQ7 (i := 157) (by decide +kernel) rfl)⟩, fun h => absurd h (by decide), fun h => absurd h (by decide)⟩
theorem kmZ_135 : calOk "StockYardLaw" 135 (mM_run, 1, 0) := ⟨(gQ7 (i := 162) (by decide +kernel) rfl), (gQ1 (i := 12) (by decide +kernel) rfl), by decide +kernel, by decide, fun _ => (gQ7 (i := 159) (by decide +kernel) rfl), fun h => absurd h (by decide), fun _ => ⟨(gQ7 (i := 160) (by decide +kernel) rfl), (gQ7 (i := 161) (by decide +kernel) rfl)⟩, fun h => absurd h (by decide), fun h => absurd h (by decide)⟩
theorem kmZ_139 : calOk "StockYardLaw" 139 (mM_count, 1, 0) := ⟨(gQ7 (i := 170) (by decide +kernel) rfl), (gQ1 (i := 12) (by decide +kernel) rfl), by decide +kernel, by decide, fun _ => (gQ7 (i := 167) (by decide +kernel) rfl), fun h => absurd h (by decide), fun _ => ⟨(gQ7 (i := 168) (by decide +kernel) rfl), (gQ7 (i := 169) (by decide +kernel) rfl)⟩, fun h => absurd h (by decide), fun h => absurd h (by decide)⟩
theorem kmZ_143 : calOk "StockYardLaw" 143 (mM_lay, 0, 0) := ⟨(gQ7 (i := 174) (by decide +kernel) rfl), (gQ1 (i := 12) (by decide +kernel) rfl), by decide +kernel, by decide, fun _ => (gQ7 (i := 171) (by decide +kernel) rfl), fun h => absurd h (by decide), fun _ => ⟨(gQ7 (i := 172) (by decide +kernel) rfl), (gQ7 (i := 173) (by decide +kernel) rfl)⟩, fun h => absurd h (by decide), fun h => absurd h (by decide)⟩
theorem kmZ_147 : calOk "StockYardLaw" 147 (mM_tear, 0, 0) := ⟨(gQ7 (i := 178) (by decide +kernel) rfl), (gQ1 (i := 12) (by decide +kernel) rfl), by decide +kernel, by decide, fun _ => (gQ7 (i := 175) (by decide +kernel) rfl), fun h => absurd h (by decide), fun _ => ⟨(gQ7 (i := 176) (by decide +kernel) rfl), (gQ7 (i := 177) (by decide +kernel) rfl)⟩, fun h => absurd h (by decide), fun h => absurd h (by decide)⟩
theorem kmZ_151 : calOk "StockYardLaw" 151 (mM_row, 1, 0) := ⟨(gQ7 (i := 182) (by decide +kernel) rfl), (gQ1 (i := 12) (by decide +kernel) rfl), by decide +kernel, by decide, fun _ => (gQ7 (i := 179) (by decide +kernel) rfl), fun h => absurd h (by decide), fun _ => ⟨(gQ7 (i := 180) (by decide +kernel) rfl), (gQ7 (i := 181) (by decide +kernel) rfl)⟩, fun h => absurd h (by decide), fun h => absurd h (by decide)⟩
theorem kmZ_155 : calOk "StockYardLaw" 155 (mM_copy, 3, 0) := ⟨(gQ7 (i := 186) (by decide +kernel) rfl), (gQ1 (i := 12) (by decide +kernel) rfl), by decide +kernel, by decide, fun _ => (gQ7 (i := 183) (by decide +kernel) rfl), fun h => absurd h (by decide), fun _ => ⟨(gQ7 (i := 184) (by decide +kernel) rfl), (gQ7 (i := 185) (by decide +kernel) rfl)⟩, fun h => absurd h (by decide), fun h => absurd h (by decide)⟩
set_option maxRecDepth 100000 in
theorem faZ : ∀ q ∈ flZ, fldOk "StockYardLaw" q.1 q.2.1 q.2.2 := fun q h => absurd h List.not_mem_nil
set_option maxRecDepth 100000 in
theorem maZ : ∀ q ∈ mlZ, calOk "StockYardLaw" q.1 q.2 := List.forall_mem_cons.mpr ⟨kmZ_9, List.forall_mem_cons.mpr ⟨kmZ_13, List.forall_mem_cons.mpr ⟨kmZ_18, List.forall_mem_cons.mpr ⟨kmZ_23, List.forall_mem_cons.mpr ⟨kmZ_28, List.forall_mem_cons.mpr ⟨kmZ_32, List.forall_mem_cons.mpr ⟨kmZ_37, List.forall_mem_cons.mpr ⟨kmZ_42, List.forall_mem_cons.mpr ⟨kmZ_46, List.forall_mem_cons.mpr ⟨kmZ_50, List.forall_mem_cons.mpr ⟨kmZ_54, List.forall_mem_cons.mpr ⟨kmZ_58, List.forall_mem_cons.mpr ⟨kmZ_62, List.forall_mem_cons.mpr ⟨kmZ_66, List.forall_mem_cons.mpr ⟨kmZ_70, List.forall_mem_cons.mpr ⟨kmZ_75, List.forall_mem_cons.mpr ⟨kmZ_79, List.forall_mem_cons.mpr ⟨kmZ_83, List.forall_mem_cons.mpr ⟨kmZ_87, List.forall_mem_cons.mpr ⟨kmZ_91, List.forall_mem_cons.mpr ⟨kmZ_95, List.forall_mem_cons.mpr ⟨kmZ_99, List.forall_mem_cons.mpr ⟨kmZ_103, List.forall_mem_cons.mpr ⟨kmZ_107, List.forall_mem_cons.mpr ⟨kmZ_111, List.forall_mem_cons.mpr ⟨kmZ_116, List.forall_mem_cons.mpr ⟨kmZ_120, List.forall_mem_cons.mpr ⟨kmZ_124, List.forall_mem_cons.mpr ⟨kmZ_128, List.forall_mem_cons.mpr ⟨kmZ_132, List.forall_mem_cons.mpr ⟨kmZ_136, List.forall_mem_cons.mpr ⟨kmZ_140, List.forall_mem_cons.mpr ⟨kmZ_144, List.forall_mem_cons.mpr ⟨kmZ_148, List.forall_mem_cons.mpr ⟨kmZ_152, List.forall_mem_cons.mpr ⟨kmZ_156, List.forall_mem_cons.mpr ⟨kmZ_12, List.forall_mem_cons.mpr ⟨kmZ_159, List.forall_mem_cons.mpr ⟨kmZ_17, List.forall_mem_cons.mpr ⟨kmZ_22, List.forall_mem_cons.mpr ⟨kmZ_27, List.forall_mem_cons.mpr ⟨kmZ_31, List.forall_mem_cons.mpr ⟨kmZ_36, List.forall_mem_cons.mpr ⟨kmZ_41, List.forall_mem_cons.mpr ⟨kmZ_45, List.forall_mem_cons.mpr ⟨kmZ_49, List.forall_mem_cons.mpr ⟨kmZ_53, List.forall_mem_cons.mpr ⟨kmZ_57, List.forall_mem_cons.mpr ⟨kmZ_61, List.forall_mem_cons.mpr ⟨kmZ_65, List.forall_mem_cons.mpr ⟨kmZ_69, List.forall_mem_cons.mpr ⟨kmZ_74, List.forall_mem_cons.mpr ⟨kmZ_78, List.forall_mem_cons.mpr ⟨kmZ_82, List.forall_mem_cons.mpr ⟨kmZ_86, List.forall_mem_cons.mpr ⟨kmZ_90, List.forall_mem_cons.mpr ⟨kmZ_94, List.forall_mem_cons.mpr ⟨kmZ_98, List.forall_mem_cons.mpr ⟨kmZ_102, List.forall_mem_cons.mpr ⟨kmZ_106, List.forall_mem_cons.mpr ⟨kmZ_110, List.forall_mem_cons.mpr ⟨kmZ_115, List.forall_mem_cons.mpr ⟨kmZ_119, List.forall_mem_cons.mpr ⟨kmZ_123, List.forall_mem_cons.mpr ⟨kmZ_127, List.forall_mem_cons.mpr ⟨kmZ_131, List.forall_mem_cons.mpr ⟨kmZ_135, List.forall_mem_cons.mpr ⟨kmZ_139, List.forall_mem_cons.mpr ⟨kmZ_143, List.forall_mem_cons.mpr ⟨kmZ_147, List.forall_mem_cons.mpr ⟨kmZ_151, List.forall_mem_cons.mpr ⟨kmZ_155, fun q h => absurd h List.not_mem_nil⟩⟩⟩⟩⟩⟩⟩⟩⟩⟩⟩⟩⟩⟩⟩⟩⟩⟩⟩⟩⟩⟩⟩⟩⟩⟩⟩⟩⟩⟩⟩⟩⟩⟩⟩⟩⟩⟩⟩⟩⟩⟩⟩⟩⟩⟩⟩⟩⟩⟩⟩⟩⟩⟩⟩⟩⟩⟩⟩⟩⟩⟩⟩⟩⟩⟩⟩⟩⟩⟩⟩⟩
theorem kaZ : ∀ q ∈ klZ, (∀ v, q.2 = .inl v → Cond.constant "StockYardLaw" q.1 v ∈ goodT) ∧ ∀ v, q.2 = .inr (.inl v) → Cond.constantLong "StockYardLaw" q.1 v ∈ goodT := fun q h => absurd h List.not_mem_nil
theorem taZ : ∀ q ∈ tlZ, Cond.classLink "StockYardLaw" q.1 (clsN q.2).1 ∈ goodT := List.forall_mem_cons.mpr ⟨(gQ1 (i := 27) (by decide +kernel) rfl), List.forall_mem_cons.mpr ⟨(gQ5 (i := 164) (by decide +kernel) rfl), fun q h => absurd h List.not_mem_nil⟩⟩
theorem eoZ : envOk "StockYardLaw" cenZ := ⟨fun i c k h => faZ _ (alk_mem h), fun i c h => maZ _ (alk_mem h), fun i v h => (kaZ _ (alk_mem h)).1 v rfl, fun i v h => (kaZ _ (alk_mem h)).2 v rfl, fun i c h => taZ _ (alk_mem h)⟩
def flL : List (Nat × (Nat × Nat)) := [(9, 2, 1), (48, 2, 2), (63, 2, 0)]
def mlL : List (Nat × Cal) := [(1, mJa_init, 0, 2), (131, mL_add3v, 3, 0), (129, mL_grow0, 0, 0), (69, mL_grow1, 1, 0), (73, mJx_newLength, 3, 1), (66, mJr_copyOf2, 2, 1), (79, mJm_max, 2, 1), (118, mJo_checkIndex, 2, 1), (123, mL_elementData, 1, 0)]
def klL : List (Nat × AV) := []
def tlL : List (Nat × Nat) := []
def cenL : CE := (alk flL, alk mlL, alk klL, alk tlL)
theorem kfL_9 : fldOk "java/util/ArrayList" 9 2 1 := ⟨by decide, by decide, "java/util/ArrayList", (gQ1 (i := 55) (by decide +kernel) rfl), Or.inl rfl⟩
theorem kfL_48 : fldOk "java/util/ArrayList" 48 2 2 := ⟨by decide, by decide, "java/util/ArrayList", (gQ1 (i := 56) (by decide +kernel) rfl), Or.inl rfl⟩
theorem kfL_63 : fldOk "java/util/ArrayList" 63 2 0 := ⟨by decide, by decide, "java/util/ArrayList", (gQ1 (i := 58) (by decide +kernel) rfl), Or.inr ((gQ1 (i := 59) (by decide +kernel) rfl))⟩
theorem kmL_1 : calOk "java/util/ArrayList" 1 (mJa_init, 0, 2) := ⟨(gQ1 (i := 48) (by decide +kernel) rfl), (gQ1 (i := 4) (by decide +kernel) rfl), by decide +kernel, by decide, fun _ => (gQ1 (i := 46) (by decide +kernel) rfl), fun h => absurd h (by decide), fun h => absurd h (by decide), fun h => absurd h (by decide), fun _ => ⟨(gQ1 (i := 47) (by decide +kernel) rfl), rfl, rfl⟩⟩
theorem kmL_131 : calOk "java/util/ArrayList" 131 (mL_add3v, 3, 0) := ⟨(gQ2 (i := 90) (by decide +kernel) rfl), (gQ1 (i := 5) (by decide +kernel) rfl), by decide +kernel, by decide, fun _ => (gQ2 (i := 87) (by decide +kernel) rfl), fun h => absurd h (by decide), fun _ => ⟨(gQ2 (i := 89) (by decide +kernel) rfl), (gP1 (i := 1) (by decide +kernel) rfl)⟩, fun h => absurd h (by decide), fun h => absurd h (by decide)⟩
theorem kmL_129 : calOk "java/util/ArrayList" 129 (mL_grow0, 0, 0) := ⟨(gQ2 (i := 94) (by decide +kernel) rfl), (gQ1 (i := 5) (by decide +kernel) rfl), by decide +kernel, by decide, fun _ => (gQ2 (i := 91) (by decide +kernel) rfl), fun h => absurd h (by decide), fun _ => ⟨(gQ2 (i := 93) (by decide +kernel) rfl), (gP1 (i := 2) (by decide +kernel) rfl)⟩, fun h => absurd h (by decide), fun h => absurd h (by decide)⟩
theorem kmL_69 : calOk "java/util/ArrayList" 69 (mL_grow1, 1, 0) := ⟨(gQ2 (i := 98) (by decide +kernel) rfl), (gQ1 (i := 5) (by decide +kernel) rfl), by decide +kernel, by decide, fun _ => (gQ2 (i := 95) (by decide +kernel) rfl), fun h => absurd h (by decide), fun _ => ⟨(gQ2 (i := 97) (by decide +kernel) rfl), (gP1 (i := 3) (by decide +kernel) rfl)⟩, fun h => absurd h (by decide), fun h => absurd h (by decide)⟩
theorem kmL_73 : calOk "java/util/ArrayList" 73 (mJx_newLength, 3, 1) := ⟨(gQ2 (i := 101) (by decide +kernel) rfl), (gQ1 (i := 14) (by decide +kernel) rfl), by decide +kernel, by decide, fun _ => (gQ2 (i := 99) (by decide +kernel) rfl), fun h => absurd h (by decide), fun h => absurd h (by decide), fun _ => (gQ2 (i := 100) (by decide +kernel) rfl), fun h => absurd h (by decide)⟩
theorem kmL_66 : calOk "java/util/ArrayList" 66 (mJr_copyOf2, 2, 1) := ⟨(gQ2 (i := 111) (by decide +kernel) rfl), (gQ1 (i := 16) (by decide +kernel) rfl), by decide +kernel, by decide, fun _ => (gQ2 (i := 109) (by decide +kernel) rfl), fun h => absurd h (by decide), fun h => absurd h (by decide), fun _ => (gQ2 (i := 110) (by decide +kernel) rfl), fun h => absurd h (by decide)⟩
theorem kmL_79 : calOk "java/util/ArrayList" 79 (mJm_max, 2, 1) := ⟨(gQ2 (i := 104) (by decide +kernel) rfl), (gQ1 (i := 15) (by decide +kernel) rfl), by decide +kernel, by decide, fun _ => (gQ2 (i := 142) (by decide +kernel) rfl), fun h => absurd h (by decide), fun h => absurd h (by decide), fun _ => (gQ2 (i := 103) (by decide +kernel) rfl), fun h => absurd h (by decide)⟩
theorem kmL_118 : calOk "java/util/ArrayList" 118 (mJo_checkIndex, 2, 1) := ⟨(gQ2 (i := 173) (by decide +kernel) rfl), (gQ1 (i := 18) (by decide +kernel) rfl), by decide +kernel, by decide, fun _ => (gQ2 (i := 171) (by decide +kernel) rfl), fun h => absurd h (by decide), fun h => absurd h (by decide), fun _ => (gQ2 (i := 172) (by decide +kernel) rfl), fun h => absurd h (by decide)⟩
theorem kmL_123 : calOk "java/util/ArrayList" 123 (mL_elementData, 1, 0) := ⟨(gQ2 (i := 180) (by decide +kernel) rfl), (gQ1 (i := 5) (by decide +kernel) rfl), by decide +kernel, by decide, fun _ => (gQ2 (i := 177) (by decide +kernel) rfl), fun h => absurd h (by decide), fun _ => ⟨(gQ2 (i := 178) (by decide +kernel) rfl), (gQ2 (i := 179) (by decide +kernel) rfl)⟩, fun h => absurd h (by decide), fun h => absurd h (by decide)⟩
set_option maxRecDepth 100000 in
theorem faL : ∀ q ∈ flL, fldOk "java/util/ArrayList" q.1 q.2.1 q.2.2 := List.forall_mem_cons.mpr ⟨kfL_9, List.forall_mem_cons.mpr ⟨kfL_48, List.forall_mem_cons.mpr ⟨kfL_63, fun q h => absurd h List.not_mem_nil⟩⟩⟩
set_option maxRecDepth 100000 in
theorem maL : ∀ q ∈ mlL, calOk "java/util/ArrayList" q.1 q.2 := List.forall_mem_cons.mpr ⟨kmL_1, List.forall_mem_cons.mpr ⟨kmL_131, List.forall_mem_cons.mpr ⟨kmL_129, List.forall_mem_cons.mpr ⟨kmL_69, List.forall_mem_cons.mpr ⟨kmL_73, List.forall_mem_cons.mpr ⟨kmL_66, List.forall_mem_cons.mpr ⟨kmL_79, List.forall_mem_cons.mpr ⟨kmL_118, List.forall_mem_cons.mpr ⟨kmL_123, fun q h => absurd h List.not_mem_nil⟩⟩⟩⟩⟩⟩⟩⟩⟩
theorem kaL : ∀ q ∈ klL, (∀ v, q.2 = .inl v → Cond.constant "java/util/ArrayList" q.1 v ∈ goodT) ∧ ∀ v, q.2 = .inr (.inl v) → Cond.constantLong "java/util/ArrayList" q.1 v ∈ goodT := fun q h => absurd h List.not_mem_nil
theorem taL : ∀ q ∈ tlL, Cond.classLink "java/util/ArrayList" q.1 (clsN q.2).1 ∈ goodT := fun q h => absurd h List.not_mem_nil
theorem eoL : envOk "java/util/ArrayList" cenL := ⟨fun i c k h => faL _ (alk_mem h), fun i c h => maL _ (alk_mem h), fun i v h => (kaL _ (alk_mem h)).1 v rfl, fun i v h => (kaL _ (alk_mem h)).2 v rfl, fun i c h => taL _ (alk_mem h)⟩
def flJs : List (Nat × (Nat × Nat)) := []
def mlJs : List (Nat × Cal) := [(492, mJs_isLatin1, 0, 0), (495, mJl_charAt, 2, 1), (1059, mJp_checkIndex, 3, 1), (498, mJu_charAt, 2, 1), (335, mJs_coder, 0, 0)]
def klJs : List (Nat × AV) := []
def tlJs : List (Nat × Nat) := []
def cenJs : CE := (alk flJs, alk mlJs, alk klJs, alk tlJs)
theorem kmJs_492 : calOk "java/lang/String" 492 (mJs_isLatin1, 0, 0) := ⟨(gQ4 (i := 134) (by decide +kernel) rfl), (gQ1 (i := 24) (by decide +kernel) rfl), by decide +kernel, by decide, fun _ => (gQ4 (i := 131) (by decide +kernel) rfl), fun h => absurd h (by decide), fun _ => ⟨(gQ4 (i := 132) (by decide +kernel) rfl), (gQ4 (i := 133) (by decide +kernel) rfl)⟩, fun h => absurd h (by decide), fun h => absurd h (by decide)⟩
theorem kmJs_495 : calOk "java/lang/String" 495 (mJl_charAt, 2, 1) := ⟨(gQ4 (i := 139) (by decide +kernel) rfl), (gQ1 (i := 25) (by decide +kernel) rfl), by decide +kernel, by decide, fun _ => (gQ4 (i := 137) (by decide +kernel) rfl), fun h => absurd h (by decide), fun h => absurd h (by decide), fun _ => (gQ4 (i := 138) (by decide +kernel) rfl), fun h => absurd h (by decide)⟩
theorem kmJs_1059 : calOk "java/lang/String" 1059 (mJp_checkIndex, 3, 1) := ⟨(gQ2 (i := 176) (by decide +kernel) rfl), (gQ1 (i := 19) (by decide +kernel) rfl), by decide +kernel, by decide, fun _ => (gQ4 (i := 145) (by decide +kernel) rfl), fun h => absurd h (by decide), fun h => absurd h (by decide), fun _ => (gQ2 (i := 175) (by decide +kernel) rfl), fun h => absurd h (by decide)⟩
theorem kmJs_498 : calOk "java/lang/String" 498 (mJu_charAt, 2, 1) := ⟨(gQ4 (i := 148) (by decide +kernel) rfl), (gQ1 (i := 26) (by decide +kernel) rfl), by decide +kernel, by decide, fun _ => (gQ4 (i := 146) (by decide +kernel) rfl), fun h => absurd h (by decide), fun h => absurd h (by decide), fun _ => (gQ4 (i := 147) (by decide +kernel) rfl), fun h => absurd h (by decide)⟩
theorem kmJs_335 : calOk "java/lang/String" 335 (mJs_coder, 0, 0) := ⟨(gQ4 (i := 176) (by decide +kernel) rfl), (gQ1 (i := 24) (by decide +kernel) rfl), by decide +kernel, by decide, fun _ => (gQ4 (i := 173) (by decide +kernel) rfl), fun h => absurd h (by decide), fun _ => ⟨(gQ4 (i := 174) (by decide +kernel) rfl), (gQ4 (i := 175) (by decide +kernel) rfl)⟩, fun h => absurd h (by decide), fun h => absurd h (by decide)⟩
set_option maxRecDepth 100000 in
theorem faJs : ∀ q ∈ flJs, fldOk "java/lang/String" q.1 q.2.1 q.2.2 := fun q h => absurd h List.not_mem_nil
set_option maxRecDepth 100000 in
theorem maJs : ∀ q ∈ mlJs, calOk "java/lang/String" q.1 q.2 := List.forall_mem_cons.mpr ⟨kmJs_492, List.forall_mem_cons.mpr ⟨kmJs_495, List.forall_mem_cons.mpr ⟨kmJs_1059, List.forall_mem_cons.mpr ⟨kmJs_498, List.forall_mem_cons.mpr ⟨kmJs_335, fun q h => absurd h List.not_mem_nil⟩⟩⟩⟩⟩
theorem kaJs : ∀ q ∈ klJs, (∀ v, q.2 = .inl v → Cond.constant "java/lang/String" q.1 v ∈ goodT) ∧ ∀ v, q.2 = .inr (.inl v) → Cond.constantLong "java/lang/String" q.1 v ∈ goodT := fun q h => absurd h List.not_mem_nil
theorem taJs : ∀ q ∈ tlJs, Cond.classLink "java/lang/String" q.1 (clsN q.2).1 ∈ goodT := fun q h => absurd h List.not_mem_nil
theorem eoJs : envOk "java/lang/String" cenJs := ⟨fun i c k h => faJs _ (alk_mem h), fun i c h => maJs _ (alk_mem h), fun i v h => (kaJs _ (alk_mem h)).1 v rfl, fun i v h => (kaJs _ (alk_mem h)).2 v rfl, fun i c h => taJs _ (alk_mem h)⟩
def flJa : List (Nat × (Nat × Nat)) := [(7, 2, 0)]
def mlJa : List (Nat × Cal) := [(1, mJc_init, 0, 2)]
def klJa : List (Nat × AV) := []
def tlJa : List (Nat × Nat) := []
def cenJa : CE := (alk flJa, alk mlJa, alk klJa, alk tlJa)
theorem kfJa_7 : fldOk "java/util/AbstractList" 7 2 0 := ⟨by decide, by decide, "java/util/AbstractList", (gQ1 (i := 57) (by decide +kernel) rfl), Or.inl rfl⟩
theorem kmJa_1 : calOk "java/util/AbstractList" 1 (mJc_init, 0, 2) := ⟨(gQ1 (i := 51) (by decide +kernel) rfl), (gQ1 (i := 3) (by decide +kernel) rfl), by decide +kernel, by decide, fun _ => (gQ1 (i := 49) (by decide +kernel) rfl), fun h => absurd h (by decide), fun h => absurd h (by decide), fun h => absurd h (by decide), fun _ => ⟨(gQ1 (i := 50) (by decide +kernel) rfl), rfl, rfl⟩⟩
set_option maxRecDepth 100000 in
theorem faJa : ∀ q ∈ flJa, fldOk "java/util/AbstractList" q.1 q.2.1 q.2.2 := List.forall_mem_cons.mpr ⟨kfJa_7, fun q h => absurd h List.not_mem_nil⟩
set_option maxRecDepth 100000 in
theorem maJa : ∀ q ∈ mlJa, calOk "java/util/AbstractList" q.1 q.2 := List.forall_mem_cons.mpr ⟨kmJa_1, fun q h => absurd h List.not_mem_nil⟩
theorem kaJa : ∀ q ∈ klJa, (∀ v, q.2 = .inl v → Cond.constant "java/util/AbstractList" q.1 v ∈ goodT) ∧ ∀ v, q.2 = .inr (.inl v) → Cond.constantLong "java/util/AbstractList" q.1 v ∈ goodT := fun q h => absurd h List.not_mem_nil
theorem taJa : ∀ q ∈ tlJa, Cond.classLink "java/util/AbstractList" q.1 (clsN q.2).1 ∈ goodT := fun q h => absurd h List.not_mem_nil
theorem eoJa : envOk "java/util/AbstractList" cenJa := ⟨fun i c k h => faJa _ (alk_mem h), fun i c h => maJa _ (alk_mem h), fun i v h => (kaJa _ (alk_mem h)).1 v rfl, fun i v h => (kaJa _ (alk_mem h)).2 v rfl, fun i c h => taJa _ (alk_mem h)⟩
def flJc : List (Nat × (Nat × Nat)) := []
def mlJc : List (Nat × Cal) := []
def klJc : List (Nat × AV) := []
def tlJc : List (Nat × Nat) := []
def cenJc : CE := (alk flJc, alk mlJc, alk klJc, alk tlJc)
set_option maxRecDepth 100000 in
theorem faJc : ∀ q ∈ flJc, fldOk "java/util/AbstractCollection" q.1 q.2.1 q.2.2 := fun q h => absurd h List.not_mem_nil
set_option maxRecDepth 100000 in
theorem maJc : ∀ q ∈ mlJc, calOk "java/util/AbstractCollection" q.1 q.2 := fun q h => absurd h List.not_mem_nil
theorem kaJc : ∀ q ∈ klJc, (∀ v, q.2 = .inl v → Cond.constant "java/util/AbstractCollection" q.1 v ∈ goodT) ∧ ∀ v, q.2 = .inr (.inl v) → Cond.constantLong "java/util/AbstractCollection" q.1 v ∈ goodT := fun q h => absurd h List.not_mem_nil
theorem taJc : ∀ q ∈ tlJc, Cond.classLink "java/util/AbstractCollection" q.1 (clsN q.2).1 ∈ goodT := fun q h => absurd h List.not_mem_nil
theorem eoJc : envOk "java/util/AbstractCollection" cenJc := ⟨fun i c k h => faJc _ (alk_mem h), fun i c h => maJc _ (alk_mem h), fun i v h => (kaJc _ (alk_mem h)).1 v rfl, fun i v h => (kaJc _ (alk_mem h)).2 v rfl, fun i c h => taJc _ (alk_mem h)⟩
def flJr : List (Nat × (Nat × Nat)) := []
def mlJr : List (Nat × Cal) := [(300, mJr_copyOf3, 3, 1), (304, mJm_min, 2, 1)]
def klJr : List (Nat × AV) := []
def tlJr : List (Nat × Nat) := []
def cenJr : CE := (alk flJr, alk mlJr, alk klJr, alk tlJr)
theorem kmJr_300 : calOk "java/util/Arrays" 300 (mJr_copyOf3, 3, 1) := ⟨(gQ2 (i := 132) (by decide +kernel) rfl), (gQ1 (i := 16) (by decide +kernel) rfl), by decide +kernel, by decide, fun _ => (gQ2 (i := 130) (by decide +kernel) rfl), fun h => absurd h (by decide), fun h => absurd h (by decide), fun _ => (gQ2 (i := 131) (by decide +kernel) rfl), fun h => absurd h (by decide)⟩
theorem kmJr_304 : calOk "java/util/Arrays" 304 (mJm_min, 2, 1) := ⟨(gQ2 (i := 138) (by decide +kernel) rfl), (gQ1 (i := 15) (by decide +kernel) rfl), by decide +kernel, by decide, fun _ => (gQ2 (i := 136) (by decide +kernel) rfl), fun h => absurd h (by decide), fun h => absurd h (by decide), fun _ => (gQ2 (i := 137) (by decide +kernel) rfl), fun h => absurd h (by decide)⟩
set_option maxRecDepth 100000 in
theorem faJr : ∀ q ∈ flJr, fldOk "java/util/Arrays" q.1 q.2.1 q.2.2 := fun q h => absurd h List.not_mem_nil
set_option maxRecDepth 100000 in
theorem maJr : ∀ q ∈ mlJr, calOk "java/util/Arrays" q.1 q.2 := List.forall_mem_cons.mpr ⟨kmJr_300, List.forall_mem_cons.mpr ⟨kmJr_304, fun q h => absurd h List.not_mem_nil⟩⟩
theorem kaJr : ∀ q ∈ klJr, (∀ v, q.2 = .inl v → Cond.constant "java/util/Arrays" q.1 v ∈ goodT) ∧ ∀ v, q.2 = .inr (.inl v) → Cond.constantLong "java/util/Arrays" q.1 v ∈ goodT := fun q h => absurd h List.not_mem_nil
theorem taJr : ∀ q ∈ tlJr, Cond.classLink "java/util/Arrays" q.1 (clsN q.2).1 ∈ goodT := fun q h => absurd h List.not_mem_nil
theorem eoJr : envOk "java/util/Arrays" cenJr := ⟨fun i c k h => faJr _ (alk_mem h), fun i c h => maJr _ (alk_mem h), fun i v h => (kaJr _ (alk_mem h)).1 v rfl, fun i v h => (kaJr _ (alk_mem h)).2 v rfl, fun i c h => taJr _ (alk_mem h)⟩
def flJo : List (Nat × (Nat × Nat)) := []
def mlJo : List (Nat × Cal) := [(105, mJp_checkIndex, 3, 1)]
def klJo : List (Nat × AV) := []
def tlJo : List (Nat × Nat) := []
def cenJo : CE := (alk flJo, alk mlJo, alk klJo, alk tlJo)
theorem kmJo_105 : calOk "java/util/Objects" 105 (mJp_checkIndex, 3, 1) := ⟨(gQ2 (i := 176) (by decide +kernel) rfl), (gQ1 (i := 19) (by decide +kernel) rfl), by decide +kernel, by decide, fun _ => (gQ2 (i := 174) (by decide +kernel) rfl), fun h => absurd h (by decide), fun h => absurd h (by decide), fun _ => (gQ2 (i := 175) (by decide +kernel) rfl), fun h => absurd h (by decide)⟩
set_option maxRecDepth 100000 in
theorem faJo : ∀ q ∈ flJo, fldOk "java/util/Objects" q.1 q.2.1 q.2.2 := fun q h => absurd h List.not_mem_nil
set_option maxRecDepth 100000 in
theorem maJo : ∀ q ∈ mlJo, calOk "java/util/Objects" q.1 q.2 := List.forall_mem_cons.mpr ⟨kmJo_105, fun q h => absurd h List.not_mem_nil⟩
theorem kaJo : ∀ q ∈ klJo, (∀ v, q.2 = .inl v → Cond.constant "java/util/Objects" q.1 v ∈ goodT) ∧ ∀ v, q.2 = .inr (.inl v) → Cond.constantLong "java/util/Objects" q.1 v ∈ goodT := fun q h => absurd h List.not_mem_nil
theorem taJo : ∀ q ∈ tlJo, Cond.classLink "java/util/Objects" q.1 (clsN q.2).1 ∈ goodT := fun q h => absurd h List.not_mem_nil
theorem eoJo : envOk "java/util/Objects" cenJo := ⟨fun i c k h => faJo _ (alk_mem h), fun i c h => maJo _ (alk_mem h), fun i v h => (kaJo _ (alk_mem h)).1 v rfl, fun i v h => (kaJo _ (alk_mem h)).2 v rfl, fun i c h => taJo _ (alk_mem h)⟩
def flJq : List (Nat × (Nat × Nat)) := []
def mlJq : List (Nat × Cal) := []
def klJq : List (Nat × AV) := []
def tlJq : List (Nat × Nat) := []
def cenJq : CE := (alk flJq, alk mlJq, alk klJq, alk tlJq)
set_option maxRecDepth 100000 in
theorem faJq : ∀ q ∈ flJq, fldOk "java/lang/Object" q.1 q.2.1 q.2.2 := fun q h => absurd h List.not_mem_nil
set_option maxRecDepth 100000 in
theorem maJq : ∀ q ∈ mlJq, calOk "java/lang/Object" q.1 q.2 := fun q h => absurd h List.not_mem_nil
theorem kaJq : ∀ q ∈ klJq, (∀ v, q.2 = .inl v → Cond.constant "java/lang/Object" q.1 v ∈ goodT) ∧ ∀ v, q.2 = .inr (.inl v) → Cond.constantLong "java/lang/Object" q.1 v ∈ goodT := fun q h => absurd h List.not_mem_nil
theorem taJq : ∀ q ∈ tlJq, Cond.classLink "java/lang/Object" q.1 (clsN q.2).1 ∈ goodT := fun q h => absurd h List.not_mem_nil
theorem eoJq : envOk "java/lang/Object" cenJq := ⟨fun i c k h => faJq _ (alk_mem h), fun i c h => maJq _ (alk_mem h), fun i v h => (kaJq _ (alk_mem h)).1 v rfl, fun i v h => (kaJq _ (alk_mem h)).2 v rfl, fun i c h => taJq _ (alk_mem h)⟩
def flJm : List (Nat × (Nat × Nat)) := []
def mlJm : List (Nat × Cal) := []
def klJm : List (Nat × AV) := []
def tlJm : List (Nat × Nat) := []
def cenJm : CE := (alk flJm, alk mlJm, alk klJm, alk tlJm)
set_option maxRecDepth 100000 in
theorem faJm : ∀ q ∈ flJm, fldOk "java/lang/Math" q.1 q.2.1 q.2.2 := fun q h => absurd h List.not_mem_nil
set_option maxRecDepth 100000 in
theorem maJm : ∀ q ∈ mlJm, calOk "java/lang/Math" q.1 q.2 := fun q h => absurd h List.not_mem_nil
theorem kaJm : ∀ q ∈ klJm, (∀ v, q.2 = .inl v → Cond.constant "java/lang/Math" q.1 v ∈ goodT) ∧ ∀ v, q.2 = .inr (.inl v) → Cond.constantLong "java/lang/Math" q.1 v ∈ goodT := fun q h => absurd h List.not_mem_nil
theorem taJm : ∀ q ∈ tlJm, Cond.classLink "java/lang/Math" q.1 (clsN q.2).1 ∈ goodT := fun q h => absurd h List.not_mem_nil
theorem eoJm : envOk "java/lang/Math" cenJm := ⟨fun i c k h => faJm _ (alk_mem h), fun i c h => maJm _ (alk_mem h), fun i v h => (kaJm _ (alk_mem h)).1 v rfl, fun i v h => (kaJm _ (alk_mem h)).2 v rfl, fun i c h => taJm _ (alk_mem h)⟩
def flJi : List (Nat × (Nat × Nat)) := []
def mlJi : List (Nat × Cal) := []
def klJi : List (Nat × AV) := [(265, .inl 1431655765), (266, .inl 858993459), (267, .inl 252645135)]
def tlJi : List (Nat × Nat) := []
def cenJi : CE := (alk flJi, alk mlJi, alk klJi, alk tlJi)
set_option maxRecDepth 100000 in
theorem faJi : ∀ q ∈ flJi, fldOk "java/lang/Integer" q.1 q.2.1 q.2.2 := fun q h => absurd h List.not_mem_nil
set_option maxRecDepth 100000 in
theorem maJi : ∀ q ∈ mlJi, calOk "java/lang/Integer" q.1 q.2 := fun q h => absurd h List.not_mem_nil
theorem kaJi : ∀ q ∈ klJi, (∀ v, q.2 = .inl v → Cond.constant "java/lang/Integer" q.1 v ∈ goodT) ∧ ∀ v, q.2 = .inr (.inl v) → Cond.constantLong "java/lang/Integer" q.1 v ∈ goodT := List.forall_mem_cons.mpr ⟨⟨fun v h => (by cases h; exact (gQ3 (i := 220) (by decide +kernel) rfl)), fun v h => (by cases h)⟩, List.forall_mem_cons.mpr ⟨⟨fun v h => (by cases h; exact (gQ3 (i := 221) (by decide +kernel) rfl)), fun v h => (by cases h)⟩, List.forall_mem_cons.mpr ⟨⟨fun v h => (by cases h; exact (gQ3 (i := 222) (by decide +kernel) rfl)), fun v h => (by cases h)⟩, fun q h => absurd h List.not_mem_nil⟩⟩⟩
theorem taJi : ∀ q ∈ tlJi, Cond.classLink "java/lang/Integer" q.1 (clsN q.2).1 ∈ goodT := fun q h => absurd h List.not_mem_nil
theorem eoJi : envOk "java/lang/Integer" cenJi := ⟨fun i c k h => faJi _ (alk_mem h), fun i c h => maJi _ (alk_mem h), fun i v h => (kaJi _ (alk_mem h)).1 v rfl, fun i v h => (kaJi _ (alk_mem h)).2 v rfl, fun i c h => taJi _ (alk_mem h)⟩
def flJp : List (Nat × (Nat × Nat)) := []
def mlJp : List (Nat × Cal) := []
def klJp : List (Nat × AV) := []
def tlJp : List (Nat × Nat) := []
def cenJp : CE := (alk flJp, alk mlJp, alk klJp, alk tlJp)
set_option maxRecDepth 100000 in
theorem faJp : ∀ q ∈ flJp, fldOk "jdk/internal/util/Preconditions" q.1 q.2.1 q.2.2 := fun q h => absurd h List.not_mem_nil
set_option maxRecDepth 100000 in
theorem maJp : ∀ q ∈ mlJp, calOk "jdk/internal/util/Preconditions" q.1 q.2 := fun q h => absurd h List.not_mem_nil
theorem kaJp : ∀ q ∈ klJp, (∀ v, q.2 = .inl v → Cond.constant "jdk/internal/util/Preconditions" q.1 v ∈ goodT) ∧ ∀ v, q.2 = .inr (.inl v) → Cond.constantLong "jdk/internal/util/Preconditions" q.1 v ∈ goodT := fun q h => absurd h List.not_mem_nil
theorem taJp : ∀ q ∈ tlJp, Cond.classLink "jdk/internal/util/Preconditions" q.1 (clsN q.2).1 ∈ goodT := fun q h => absurd h List.not_mem_nil
theorem eoJp : envOk "jdk/internal/util/Preconditions" cenJp := ⟨fun i c k h => faJp _ (alk_mem h), fun i c h => maJp _ (alk_mem h), fun i v h => (kaJp _ (alk_mem h)).1 v rfl, fun i v h => (kaJp _ (alk_mem h)).2 v rfl, fun i c h => taJp _ (alk_mem h)⟩
def flJx : List (Nat × (Nat × Nat)) := []
def mlJx : List (Nat × Cal) := [(194, mJm_max, 2, 1), (201, mJx_hugeLength, 2, 1)]
def klJx : List (Nat × AV) := [(200, .inl 2147483639)]
def tlJx : List (Nat × Nat) := []
def cenJx : CE := (alk flJx, alk mlJx, alk klJx, alk tlJx)
theorem kmJx_194 : calOk "jdk/internal/util/ArraysSupport" 194 (mJm_max, 2, 1) := ⟨(gQ2 (i := 104) (by decide +kernel) rfl), (gQ1 (i := 15) (by decide +kernel) rfl), by decide +kernel, by decide, fun _ => (gQ2 (i := 102) (by decide +kernel) rfl), fun h => absurd h (by decide), fun h => absurd h (by decide), fun _ => (gQ2 (i := 103) (by decide +kernel) rfl), fun h => absurd h (by decide)⟩
theorem kmJx_201 : calOk "jdk/internal/util/ArraysSupport" 201 (mJx_hugeLength, 2, 1) := ⟨(gQ2 (i := 108) (by decide +kernel) rfl), (gQ1 (i := 14) (by decide +kernel) rfl), by decide +kernel, by decide, fun _ => (gQ2 (i := 106) (by decide +kernel) rfl), fun h => absurd h (by decide), fun h => absurd h (by decide), fun _ => (gQ2 (i := 107) (by decide +kernel) rfl), fun h => absurd h (by decide)⟩
set_option maxRecDepth 100000 in
theorem faJx : ∀ q ∈ flJx, fldOk "jdk/internal/util/ArraysSupport" q.1 q.2.1 q.2.2 := fun q h => absurd h List.not_mem_nil
set_option maxRecDepth 100000 in
theorem maJx : ∀ q ∈ mlJx, calOk "jdk/internal/util/ArraysSupport" q.1 q.2 := List.forall_mem_cons.mpr ⟨kmJx_194, List.forall_mem_cons.mpr ⟨kmJx_201, fun q h => absurd h List.not_mem_nil⟩⟩
theorem kaJx : ∀ q ∈ klJx, (∀ v, q.2 = .inl v → Cond.constant "jdk/internal/util/ArraysSupport" q.1 v ∈ goodT) ∧ ∀ v, q.2 = .inr (.inl v) → Cond.constantLong "jdk/internal/util/ArraysSupport" q.1 v ∈ goodT := List.forall_mem_cons.mpr ⟨⟨fun v h => (by cases h; exact (gQ2 (i := 105) (by decide +kernel) rfl)), fun v h => (by cases h)⟩, fun q h => absurd h List.not_mem_nil⟩
theorem taJx : ∀ q ∈ tlJx, Cond.classLink "jdk/internal/util/ArraysSupport" q.1 (clsN q.2).1 ∈ goodT := fun q h => absurd h List.not_mem_nil
theorem eoJx : envOk "jdk/internal/util/ArraysSupport" cenJx := ⟨fun i c k h => faJx _ (alk_mem h), fun i c h => maJx _ (alk_mem h), fun i v h => (kaJx _ (alk_mem h)).1 v rfl, fun i v h => (kaJx _ (alk_mem h)).2 v rfl, fun i c h => taJx _ (alk_mem h)⟩
def flJl : List (Nat × (Nat × Nat)) := []
def mlJl : List (Nat × Cal) := [(9, mJs_checkIndex, 2, 1)]
def klJl : List (Nat × AV) := []
def tlJl : List (Nat × Nat) := []
def cenJl : CE := (alk flJl, alk mlJl, alk klJl, alk tlJl)
theorem kmJl_9 : calOk "java/lang/StringLatin1" 9 (mJs_checkIndex, 2, 1) := ⟨(gQ4 (i := 142) (by decide +kernel) rfl), (gQ1 (i := 24) (by decide +kernel) rfl), by decide +kernel, by decide, fun _ => (gQ4 (i := 140) (by decide +kernel) rfl), fun h => absurd h (by decide), fun h => absurd h (by decide), fun _ => (gQ4 (i := 141) (by decide +kernel) rfl), fun h => absurd h (by decide)⟩
set_option maxRecDepth 100000 in
theorem faJl : ∀ q ∈ flJl, fldOk "java/lang/StringLatin1" q.1 q.2.1 q.2.2 := fun q h => absurd h List.not_mem_nil
set_option maxRecDepth 100000 in
theorem maJl : ∀ q ∈ mlJl, calOk "java/lang/StringLatin1" q.1 q.2 := List.forall_mem_cons.mpr ⟨kmJl_9, fun q h => absurd h List.not_mem_nil⟩
theorem kaJl : ∀ q ∈ klJl, (∀ v, q.2 = .inl v → Cond.constant "java/lang/StringLatin1" q.1 v ∈ goodT) ∧ ∀ v, q.2 = .inr (.inl v) → Cond.constantLong "java/lang/StringLatin1" q.1 v ∈ goodT := fun q h => absurd h List.not_mem_nil
theorem taJl : ∀ q ∈ tlJl, Cond.classLink "java/lang/StringLatin1" q.1 (clsN q.2).1 ∈ goodT := fun q h => absurd h List.not_mem_nil
theorem eoJl : envOk "java/lang/StringLatin1" cenJl := ⟨fun i c k h => faJl _ (alk_mem h), fun i c h => maJl _ (alk_mem h), fun i v h => (kaJl _ (alk_mem h)).1 v rfl, fun i v h => (kaJl _ (alk_mem h)).2 v rfl, fun i c h => taJl _ (alk_mem h)⟩
end
