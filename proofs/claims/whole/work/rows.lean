section
-- ===== PART A: goes FIRST, ahead of the names: the tables' words, and 'selects' of the private methods out of them =====
/-- a private method of a class that the tables say can be made, by its rows of tables_1 -/
def lw_okq (q : MethodName × Nat) : Prop := (q.1.cls ≠ "java/lang/invoke/MethodHandle" ∧ q.1.cls ≠ "java/lang/invoke/VarHandle") ∧ Cond.instantiable q.1.cls q.2 ∈ tables_1 ∧ Cond.privateMethod q.1 ∈ tables_1 ∧ Cond.instanceMethod q.1 ∈ tables_1
theorem lw_p0 : lw_okq (⟨"StockYard", "refuse", "(I)I"⟩, 10) := ⟨⟨by decide +kernel, by decide +kernel⟩, List.mem_of_getElem? (i := 28) (by decide +kernel), List.mem_of_getElem? (i := 276) (by decide +kernel), List.mem_of_getElem? (i := 277) (by decide +kernel)⟩
theorem lw_p1 : lw_okq (⟨"java/util/ArrayList", "add", "(Ljava/lang/Object;[Ljava/lang/Object;I)V"⟩, 3) := ⟨⟨by decide +kernel, by decide +kernel⟩, List.mem_of_getElem? (i := 42) (by decide +kernel), List.mem_of_getElem? (i := 328) (by decide +kernel), List.mem_of_getElem? (i := 329) (by decide +kernel)⟩
theorem lw_p2 : lw_okq (⟨"java/util/ArrayList", "grow", "()[Ljava/lang/Object;"⟩, 3) := ⟨⟨by decide +kernel, by decide +kernel⟩, List.mem_of_getElem? (i := 42) (by decide +kernel), List.mem_of_getElem? (i := 332) (by decide +kernel), List.mem_of_getElem? (i := 333) (by decide +kernel)⟩
theorem lw_p3 : lw_okq (⟨"java/util/ArrayList", "grow", "(I)[Ljava/lang/Object;"⟩, 3) := ⟨⟨by decide +kernel, by decide +kernel⟩, List.mem_of_getElem? (i := 42) (by decide +kernel), List.mem_of_getElem? (i := 336) (by decide +kernel), List.mem_of_getElem? (i := 337) (by decide +kernel)⟩
theorem lw_p4 : lw_okq (⟨"StockYard$Yard", "minutesBetween", "(II)I"⟩, 5) := ⟨⟨by decide +kernel, by decide +kernel⟩, List.mem_of_getElem? (i := 36) (by decide +kernel), List.mem_of_getElem? (i := 385) (by decide +kernel), List.mem_of_getElem? (i := 386) (by decide +kernel)⟩
theorem lw_p5 : lw_okq (⟨"StockYard$Yard", "leastAlleyToward", "(II)I"⟩, 5) := ⟨⟨by decide +kernel, by decide +kernel⟩, List.mem_of_getElem? (i := 36) (by decide +kernel), List.mem_of_getElem? (i := 404) (by decide +kernel), List.mem_of_getElem? (i := 405) (by decide +kernel)⟩
theorem lw_p6 : lw_okq (⟨"StockYard", "hasLot", "(I)Z"⟩, 10) := ⟨⟨by decide +kernel, by decide +kernel⟩, List.mem_of_getElem? (i := 28) (by decide +kernel), List.mem_of_getElem? (i := 462) (by decide +kernel), List.mem_of_getElem? (i := 463) (by decide +kernel)⟩
theorem lw_p7 : lw_okq (⟨"StockYard", "admit", "(LStockYard$Lot;)I"⟩, 10) := ⟨⟨by decide +kernel, by decide +kernel⟩, List.mem_of_getElem? (i := 28) (by decide +kernel), List.mem_of_getElem? (i := 565) (by decide +kernel), List.mem_of_getElem? (i := 566) (by decide +kernel)⟩
theorem lw_p8 : lw_okq (⟨"StockYard", "lotAt", "(I)LStockYard$Lot;"⟩, 10) := ⟨⟨by decide +kernel, by decide +kernel⟩, List.mem_of_getElem? (i := 28) (by decide +kernel), List.mem_of_getElem? (i := 574) (by decide +kernel), List.mem_of_getElem? (i := 575) (by decide +kernel)⟩
theorem lw_p9 : lw_okq (⟨"StockYard", "isIn", "(LStockYard$Lot;I)Z"⟩, 10) := ⟨⟨by decide +kernel, by decide +kernel⟩, List.mem_of_getElem? (i := 28) (by decide +kernel), List.mem_of_getElem? (i := 578) (by decide +kernel), List.mem_of_getElem? (i := 579) (by decide +kernel)⟩
theorem lw_p10 : lw_okq (⟨"StockYard$Rule", "isMet", "(ILStockYard$Lot;II)Z"⟩, 9) := ⟨⟨by decide +kernel, by decide +kernel⟩, List.mem_of_getElem? (i := 608) (by decide +kernel), List.mem_of_getElem? (i := 606) (by decide +kernel), List.mem_of_getElem? (i := 607) (by decide +kernel)⟩
theorem lw_p11 : lw_okq (⟨"StockYard", "isInDoubt", "(LStockYard$Lot;)Z"⟩, 10) := ⟨⟨by decide +kernel, by decide +kernel⟩, List.mem_of_getElem? (i := 28) (by decide +kernel), List.mem_of_getElem? (i := 615) (by decide +kernel), List.mem_of_getElem? (i := 616) (by decide +kernel)⟩
theorem lw_p12 : lw_okq (⟨"StockYard", "mayBeDriven", "(LStockYard$Lot;)Z"⟩, 10) := ⟨⟨by decide +kernel, by decide +kernel⟩, List.mem_of_getElem? (i := 28) (by decide +kernel), List.mem_of_getElem? (i := 634) (by decide +kernel), List.mem_of_getElem? (i := 635) (by decide +kernel)⟩
theorem lw_p13 : lw_okq (⟨"StockYard$Yard", "putOff", "(LStockYard$Way;I)I"⟩, 5) := ⟨⟨by decide +kernel, by decide +kernel⟩, List.mem_of_getElem? (i := 36) (by decide +kernel), List.mem_of_getElem? (i := 646) (by decide +kernel), List.mem_of_getElem? (i := 647) (by decide +kernel)⟩
theorem lw_p14 : lw_okq (⟨"StockYard$Alley", "meets", "(I)I"⟩, 5) := ⟨⟨by decide +kernel, by decide +kernel⟩, List.mem_of_getElem? (i := 301) (by decide +kernel), List.mem_of_getElem? (i := 659) (by decide +kernel), List.mem_of_getElem? (i := 660) (by decide +kernel)⟩
theorem lw_p15 : lw_okq (⟨"StockYard", "arePens", "(I)Z"⟩, 10) := ⟨⟨by decide +kernel, by decide +kernel⟩, List.mem_of_getElem? (i := 28) (by decide +kernel), List.mem_of_getElem? (i := 691) (by decide +kernel), List.mem_of_getElem? (i := 692) (by decide +kernel)⟩
def lw_privs_1 : List (MethodName × Nat) := [(⟨"StockYard", "refuse", "(I)I"⟩, 10), (⟨"java/util/ArrayList", "add", "(Ljava/lang/Object;[Ljava/lang/Object;I)V"⟩, 3), (⟨"java/util/ArrayList", "grow", "()[Ljava/lang/Object;"⟩, 3), (⟨"java/util/ArrayList", "grow", "(I)[Ljava/lang/Object;"⟩, 3), (⟨"StockYard$Yard", "minutesBetween", "(II)I"⟩, 5), (⟨"StockYard$Yard", "leastAlleyToward", "(II)I"⟩, 5), (⟨"StockYard", "hasLot", "(I)Z"⟩, 10), (⟨"StockYard", "admit", "(LStockYard$Lot;)I"⟩, 10), (⟨"StockYard", "lotAt", "(I)LStockYard$Lot;"⟩, 10), (⟨"StockYard", "isIn", "(LStockYard$Lot;I)Z"⟩, 10), (⟨"StockYard$Rule", "isMet", "(ILStockYard$Lot;II)Z"⟩, 9), (⟨"StockYard", "isInDoubt", "(LStockYard$Lot;)Z"⟩, 10), (⟨"StockYard", "mayBeDriven", "(LStockYard$Lot;)Z"⟩, 10), (⟨"StockYard$Yard", "putOff", "(LStockYard$Way;I)I"⟩, 5), (⟨"StockYard$Alley", "meets", "(I)I"⟩, 5), (⟨"StockYard", "arePens", "(I)Z"⟩, 10)]
theorem lw_r1 : ∀ q ∈ lw_privs_1, lw_okq q := List.forall_mem_cons.mpr ⟨lw_p0, List.forall_mem_cons.mpr ⟨lw_p1, List.forall_mem_cons.mpr ⟨lw_p2, List.forall_mem_cons.mpr ⟨lw_p3, List.forall_mem_cons.mpr ⟨lw_p4, List.forall_mem_cons.mpr ⟨lw_p5, List.forall_mem_cons.mpr ⟨lw_p6, List.forall_mem_cons.mpr ⟨lw_p7, List.forall_mem_cons.mpr ⟨lw_p8, List.forall_mem_cons.mpr ⟨lw_p9, List.forall_mem_cons.mpr ⟨lw_p10, List.forall_mem_cons.mpr ⟨lw_p11, List.forall_mem_cons.mpr ⟨lw_p12, List.forall_mem_cons.mpr ⟨lw_p13, List.forall_mem_cons.mpr ⟨lw_p14, List.forall_mem_cons.mpr ⟨lw_p15, fun _ h => absurd h List.not_mem_nil⟩⟩⟩⟩⟩⟩⟩⟩⟩⟩⟩⟩⟩⟩⟩⟩
theorem lw_p16 : lw_okq (⟨"StockYard", "mayAllBeDriven", "(I)Z"⟩, 10) := ⟨⟨by decide +kernel, by decide +kernel⟩, List.mem_of_getElem? (i := 28) (by decide +kernel), List.mem_of_getElem? (i := 704) (by decide +kernel), List.mem_of_getElem? (i := 705) (by decide +kernel)⟩
theorem lw_p17 : lw_okq (⟨"StockYard", "hasLotInOne", "(I)Z"⟩, 10) := ⟨⟨by decide +kernel, by decide +kernel⟩, List.mem_of_getElem? (i := 28) (by decide +kernel), List.mem_of_getElem? (i := 708) (by decide +kernel), List.mem_of_getElem? (i := 709) (by decide +kernel)⟩
theorem lw_p18 : lw_okq (⟨"StockYard", "readyPlanner", "(II)V"⟩, 10) := ⟨⟨by decide +kernel, by decide +kernel⟩, List.mem_of_getElem? (i := 28) (by decide +kernel), List.mem_of_getElem? (i := 712) (by decide +kernel), List.mem_of_getElem? (i := 713) (by decide +kernel)⟩
theorem lw_p19 : lw_okq (⟨"StockYard$Planner", "tell", "(II)V"⟩, 15) := ⟨⟨by decide +kernel, by decide +kernel⟩, List.mem_of_getElem? (i := 139) (by decide +kernel), List.mem_of_getElem? (i := 734) (by decide +kernel), List.mem_of_getElem? (i := 735) (by decide +kernel)⟩
theorem lw_p20 : lw_okq (⟨"StockYard$Planner", "keep", "(I)V"⟩, 15) := ⟨⟨by decide +kernel, by decide +kernel⟩, List.mem_of_getElem? (i := 139) (by decide +kernel), List.mem_of_getElem? (i := 738) (by decide +kernel), List.mem_of_getElem? (i := 739) (by decide +kernel)⟩
theorem lw_p21 : lw_okq (⟨"StockYard$Planner", "tellOne", "(IIII)V"⟩, 15) := ⟨⟨by decide +kernel, by decide +kernel⟩, List.mem_of_getElem? (i := 139) (by decide +kernel), List.mem_of_getElem? (i := 743) (by decide +kernel), List.mem_of_getElem? (i := 744) (by decide +kernel)⟩
theorem lw_p22 : lw_okq (⟨"StockYard$Tape", "readWord", "(Z)I"⟩, 3) := ⟨⟨by decide +kernel, by decide +kernel⟩, List.mem_of_getElem? (i := 91) (by decide +kernel), List.mem_of_getElem? (i := 829) (by decide +kernel), List.mem_of_getElem? (i := 830) (by decide +kernel)⟩
theorem lw_p23 : lw_okq (⟨"StockYard$Tape", "readText", "(Ljava/lang/String;)Z"⟩, 3) := ⟨⟨by decide +kernel, by decide +kernel⟩, List.mem_of_getElem? (i := 91) (by decide +kernel), List.mem_of_getElem? (i := 886) (by decide +kernel), List.mem_of_getElem? (i := 887) (by decide +kernel)⟩
theorem lw_p24 : lw_okq (⟨"StockYard$Tape", "readSign", "(C)Z"⟩, 3) := ⟨⟨by decide +kernel, by decide +kernel⟩, List.mem_of_getElem? (i := 91) (by decide +kernel), List.mem_of_getElem? (i := 898) (by decide +kernel), List.mem_of_getElem? (i := 899) (by decide +kernel)⟩
theorem lw_p25 : lw_okq (⟨"StockYard$Tape", "readNumber", "()I"⟩, 3) := ⟨⟨by decide +kernel, by decide +kernel⟩, List.mem_of_getElem? (i := 91) (by decide +kernel), List.mem_of_getElem? (i := 902) (by decide +kernel), List.mem_of_getElem? (i := 903) (by decide +kernel)⟩
theorem lw_p26 : lw_okq (⟨"StockYard$Tape", "readTests", "(LStockYard$Rule;)Z"⟩, 3) := ⟨⟨by decide +kernel, by decide +kernel⟩, List.mem_of_getElem? (i := 91) (by decide +kernel), List.mem_of_getElem? (i := 908) (by decide +kernel), List.mem_of_getElem? (i := 909) (by decide +kernel)⟩
theorem lw_p27 : lw_okq (⟨"StockYard$Tape", "readTest", "(LStockYard$Rule;)Z"⟩, 3) := ⟨⟨by decide +kernel, by decide +kernel⟩, List.mem_of_getElem? (i := 91) (by decide +kernel), List.mem_of_getElem? (i := 912) (by decide +kernel), List.mem_of_getElem? (i := 913) (by decide +kernel)⟩
theorem lw_p28 : lw_okq (⟨"StockYard", "weightOf", "(LStockYard$Lot;)I"⟩, 10) := ⟨⟨by decide +kernel, by decide +kernel⟩, List.mem_of_getElem? (i := 28) (by decide +kernel), List.mem_of_getElem? (i := 977) (by decide +kernel), List.mem_of_getElem? (i := 978) (by decide +kernel)⟩
theorem lw_p29 : lw_okq (⟨"StockYard$Sale", "moneyFor", "(I)I"⟩, 11) := ⟨⟨by decide +kernel, by decide +kernel⟩, List.mem_of_getElem? (i := 473) (by decide +kernel), List.mem_of_getElem? (i := 990) (by decide +kernel), List.mem_of_getElem? (i := 991) (by decide +kernel)⟩
theorem lw_p30 : lw_okq (⟨"StockYard", "settle", "(II)I"⟩, 10) := ⟨⟨by decide +kernel, by decide +kernel⟩, List.mem_of_getElem? (i := 28) (by decide +kernel), List.mem_of_getElem? (i := 1007) (by decide +kernel), List.mem_of_getElem? (i := 1008) (by decide +kernel)⟩
theorem lw_p31 : lw_okq (⟨"StockYard", "lotsOnWay", "()I"⟩, 10) := ⟨⟨by decide +kernel, by decide +kernel⟩, List.mem_of_getElem? (i := 28) (by decide +kernel), List.mem_of_getElem? (i := 1066) (by decide +kernel), List.mem_of_getElem? (i := 1067) (by decide +kernel)⟩
def lw_privs_2 : List (MethodName × Nat) := [(⟨"StockYard", "mayAllBeDriven", "(I)Z"⟩, 10), (⟨"StockYard", "hasLotInOne", "(I)Z"⟩, 10), (⟨"StockYard", "readyPlanner", "(II)V"⟩, 10), (⟨"StockYard$Planner", "tell", "(II)V"⟩, 15), (⟨"StockYard$Planner", "keep", "(I)V"⟩, 15), (⟨"StockYard$Planner", "tellOne", "(IIII)V"⟩, 15), (⟨"StockYard$Tape", "readWord", "(Z)I"⟩, 3), (⟨"StockYard$Tape", "readText", "(Ljava/lang/String;)Z"⟩, 3), (⟨"StockYard$Tape", "readSign", "(C)Z"⟩, 3), (⟨"StockYard$Tape", "readNumber", "()I"⟩, 3), (⟨"StockYard$Tape", "readTests", "(LStockYard$Rule;)Z"⟩, 3), (⟨"StockYard$Tape", "readTest", "(LStockYard$Rule;)Z"⟩, 3), (⟨"StockYard", "weightOf", "(LStockYard$Lot;)I"⟩, 10), (⟨"StockYard$Sale", "moneyFor", "(I)I"⟩, 11), (⟨"StockYard", "settle", "(II)I"⟩, 10), (⟨"StockYard", "lotsOnWay", "()I"⟩, 10)]
theorem lw_r2 : ∀ q ∈ lw_privs_2, lw_okq q := List.forall_mem_cons.mpr ⟨lw_p16, List.forall_mem_cons.mpr ⟨lw_p17, List.forall_mem_cons.mpr ⟨lw_p18, List.forall_mem_cons.mpr ⟨lw_p19, List.forall_mem_cons.mpr ⟨lw_p20, List.forall_mem_cons.mpr ⟨lw_p21, List.forall_mem_cons.mpr ⟨lw_p22, List.forall_mem_cons.mpr ⟨lw_p23, List.forall_mem_cons.mpr ⟨lw_p24, List.forall_mem_cons.mpr ⟨lw_p25, List.forall_mem_cons.mpr ⟨lw_p26, List.forall_mem_cons.mpr ⟨lw_p27, List.forall_mem_cons.mpr ⟨lw_p28, List.forall_mem_cons.mpr ⟨lw_p29, List.forall_mem_cons.mpr ⟨lw_p30, List.forall_mem_cons.mpr ⟨lw_p31, fun _ h => absurd h List.not_mem_nil⟩⟩⟩⟩⟩⟩⟩⟩⟩⟩⟩⟩⟩⟩⟩⟩
theorem lw_p32 : lw_okq (⟨"StockYard", "dryLots", "()I"⟩, 10) := ⟨⟨by decide +kernel, by decide +kernel⟩, List.mem_of_getElem? (i := 28) (by decide +kernel), List.mem_of_getElem? (i := 1070) (by decide +kernel), List.mem_of_getElem? (i := 1071) (by decide +kernel)⟩
theorem lw_p33 : lw_okq (⟨"StockYard", "soldLots", "()I"⟩, 10) := ⟨⟨by decide +kernel, by decide +kernel⟩, List.mem_of_getElem? (i := 28) (by decide +kernel), List.mem_of_getElem? (i := 1074) (by decide +kernel), List.mem_of_getElem? (i := 1075) (by decide +kernel)⟩
theorem lw_p34 : lw_okq (⟨"StockYard", "headsAtHooks", "()I"⟩, 10) := ⟨⟨by decide +kernel, by decide +kernel⟩, List.mem_of_getElem? (i := 28) (by decide +kernel), List.mem_of_getElem? (i := 1078) (by decide +kernel), List.mem_of_getElem? (i := 1079) (by decide +kernel)⟩
theorem lw_p35 : lw_okq (⟨"StockYardModel", "refused", "(I)I"⟩, 69) := ⟨⟨by decide +kernel, by decide +kernel⟩, List.mem_of_getElem? (i := 1125) (by decide +kernel), List.mem_of_getElem? (i := 1344) (by decide +kernel), List.mem_of_getElem? (i := 1345) (by decide +kernel)⟩
theorem lw_p36 : lw_okq (⟨"StockYardModel", "isPlace", "(I)Z"⟩, 69) := ⟨⟨by decide +kernel, by decide +kernel⟩, List.mem_of_getElem? (i := 1125) (by decide +kernel), List.mem_of_getElem? (i := 1356) (by decide +kernel), List.mem_of_getElem? (i := 1357) (by decide +kernel)⟩
theorem lw_p37 : lw_okq (⟨"StockYardModel", "walk", "(II)I"⟩, 69) := ⟨⟨by decide +kernel, by decide +kernel⟩, List.mem_of_getElem? (i := 1125) (by decide +kernel), List.mem_of_getElem? (i := 1364) (by decide +kernel), List.mem_of_getElem? (i := 1365) (by decide +kernel)⟩
theorem lw_p38 : lw_okq (⟨"StockYardModel", "other", "(II)I"⟩, 69) := ⟨⟨by decide +kernel, by decide +kernel⟩, List.mem_of_getElem? (i := 1125) (by decide +kernel), List.mem_of_getElem? (i := 1369) (by decide +kernel), List.mem_of_getElem? (i := 1370) (by decide +kernel)⟩
theorem lw_p39 : lw_okq (⟨"StockYardModel", "isTaken", "(I)Z"⟩, 69) := ⟨⟨by decide +kernel, by decide +kernel⟩, List.mem_of_getElem? (i := 1125) (by decide +kernel), List.mem_of_getElem? (i := 1384) (by decide +kernel), List.mem_of_getElem? (i := 1385) (by decide +kernel)⟩
theorem lw_p40 : lw_okq (⟨"StockYardModel", "comes", "(IIIIIII)I"⟩, 69) := ⟨⟨by decide +kernel, by decide +kernel⟩, List.mem_of_getElem? (i := 1125) (by decide +kernel), List.mem_of_getElem? (i := 1388) (by decide +kernel), List.mem_of_getElem? (i := 1389) (by decide +kernel)⟩
theorem lw_p41 : lw_okq (⟨"StockYardModel", "isLot", "(I)Z"⟩, 69) := ⟨⟨by decide +kernel, by decide +kernel⟩, List.mem_of_getElem? (i := 1125) (by decide +kernel), List.mem_of_getElem? (i := 1396) (by decide +kernel), List.mem_of_getElem? (i := 1397) (by decide +kernel)⟩
theorem lw_p42 : lw_okq (⟨"StockYardModel", "isInPen", "(I)Z"⟩, 69) := ⟨⟨by decide +kernel, by decide +kernel⟩, List.mem_of_getElem? (i := 1125) (by decide +kernel), List.mem_of_getElem? (i := 1400) (by decide +kernel), List.mem_of_getElem? (i := 1401) (by decide +kernel)⟩
theorem lw_p43 : lw_okq (⟨"StockYardModel", "thirst", "(I)I"⟩, 69) := ⟨⟨by decide +kernel, by decide +kernel⟩, List.mem_of_getElem? (i := 1125) (by decide +kernel), List.mem_of_getElem? (i := 1408) (by decide +kernel), List.mem_of_getElem? (i := 1409) (by decide +kernel)⟩
theorem lw_p44 : lw_okq (⟨"StockYardModel", "isDry", "(I)Z"⟩, 69) := ⟨⟨by decide +kernel, by decide +kernel⟩, List.mem_of_getElem? (i := 1125) (by decide +kernel), List.mem_of_getElem? (i := 1412) (by decide +kernel), List.mem_of_getElem? (i := 1413) (by decide +kernel)⟩
theorem lw_p45 : lw_okq (⟨"StockYardModel", "saidBy", "(III)I"⟩, 69) := ⟨⟨by decide +kernel, by decide +kernel⟩, List.mem_of_getElem? (i := 1125) (by decide +kernel), List.mem_of_getElem? (i := 1416) (by decide +kernel), List.mem_of_getElem? (i := 1417) (by decide +kernel)⟩
theorem lw_p46 : lw_okq (⟨"StockYardModel", "holdsFor", "(III)Z"⟩, 69) := ⟨⟨by decide +kernel, by decide +kernel⟩, List.mem_of_getElem? (i := 1125) (by decide +kernel), List.mem_of_getElem? (i := 1420) (by decide +kernel), List.mem_of_getElem? (i := 1421) (by decide +kernel)⟩
theorem lw_p47 : lw_okq (⟨"StockYardModel", "isSo", "(III)Z"⟩, 69) := ⟨⟨by decide +kernel, by decide +kernel⟩, List.mem_of_getElem? (i := 1125) (by decide +kernel), List.mem_of_getElem? (i := 1424) (by decide +kernel), List.mem_of_getElem? (i := 1425) (by decide +kernel)⟩
def lw_privs_3 : List (MethodName × Nat) := [(⟨"StockYard", "dryLots", "()I"⟩, 10), (⟨"StockYard", "soldLots", "()I"⟩, 10), (⟨"StockYard", "headsAtHooks", "()I"⟩, 10), (⟨"StockYardModel", "refused", "(I)I"⟩, 69), (⟨"StockYardModel", "isPlace", "(I)Z"⟩, 69), (⟨"StockYardModel", "walk", "(II)I"⟩, 69), (⟨"StockYardModel", "other", "(II)I"⟩, 69), (⟨"StockYardModel", "isTaken", "(I)Z"⟩, 69), (⟨"StockYardModel", "comes", "(IIIIIII)I"⟩, 69), (⟨"StockYardModel", "isLot", "(I)Z"⟩, 69), (⟨"StockYardModel", "isInPen", "(I)Z"⟩, 69), (⟨"StockYardModel", "thirst", "(I)I"⟩, 69), (⟨"StockYardModel", "isDry", "(I)Z"⟩, 69), (⟨"StockYardModel", "saidBy", "(III)I"⟩, 69), (⟨"StockYardModel", "holdsFor", "(III)Z"⟩, 69), (⟨"StockYardModel", "isSo", "(III)Z"⟩, 69)]
theorem lw_r3 : ∀ q ∈ lw_privs_3, lw_okq q := List.forall_mem_cons.mpr ⟨lw_p32, List.forall_mem_cons.mpr ⟨lw_p33, List.forall_mem_cons.mpr ⟨lw_p34, List.forall_mem_cons.mpr ⟨lw_p35, List.forall_mem_cons.mpr ⟨lw_p36, List.forall_mem_cons.mpr ⟨lw_p37, List.forall_mem_cons.mpr ⟨lw_p38, List.forall_mem_cons.mpr ⟨lw_p39, List.forall_mem_cons.mpr ⟨lw_p40, List.forall_mem_cons.mpr ⟨lw_p41, List.forall_mem_cons.mpr ⟨lw_p42, List.forall_mem_cons.mpr ⟨lw_p43, List.forall_mem_cons.mpr ⟨lw_p44, List.forall_mem_cons.mpr ⟨lw_p45, List.forall_mem_cons.mpr ⟨lw_p46, List.forall_mem_cons.mpr ⟨lw_p47, fun _ h => absurd h List.not_mem_nil⟩⟩⟩⟩⟩⟩⟩⟩⟩⟩⟩⟩⟩⟩⟩⟩
theorem lw_p48 : lw_okq (⟨"StockYardModel", "valueOf", "(III)I"⟩, 69) := ⟨⟨by decide +kernel, by decide +kernel⟩, List.mem_of_getElem? (i := 1125) (by decide +kernel), List.mem_of_getElem? (i := 1428) (by decide +kernel), List.mem_of_getElem? (i := 1429) (by decide +kernel)⟩
theorem lw_p49 : lw_okq (⟨"StockYardModel", "isInDoubt", "(I)Z"⟩, 69) := ⟨⟨by decide +kernel, by decide +kernel⟩, List.mem_of_getElem? (i := 1125) (by decide +kernel), List.mem_of_getElem? (i := 1432) (by decide +kernel), List.mem_of_getElem? (i := 1433) (by decide +kernel)⟩
theorem lw_p50 : lw_okq (⟨"StockYardModel", "find", "(I)I"⟩, 69) := ⟨⟨by decide +kernel, by decide +kernel⟩, List.mem_of_getElem? (i := 1125) (by decide +kernel), List.mem_of_getElem? (i := 1436) (by decide +kernel), List.mem_of_getElem? (i := 1437) (by decide +kernel)⟩
theorem lw_p51 : lw_okq (⟨"StockYardModel", "goes", "()I"⟩, 69) := ⟨⟨by decide +kernel, by decide +kernel⟩, List.mem_of_getElem? (i := 1125) (by decide +kernel), List.mem_of_getElem? (i := 1447) (by decide +kernel), List.mem_of_getElem? (i := 1448) (by decide +kernel)⟩
theorem lw_p52 : lw_okq (⟨"StockYardModel", "mayBegin", "(I)Z"⟩, 69) := ⟨⟨by decide +kernel, by decide +kernel⟩, List.mem_of_getElem? (i := 1125) (by decide +kernel), List.mem_of_getElem? (i := 1451) (by decide +kernel), List.mem_of_getElem? (i := 1452) (by decide +kernel)⟩
theorem lw_p53 : lw_okq (⟨"StockYardModel", "isFree", "(III)Z"⟩, 69) := ⟨⟨by decide +kernel, by decide +kernel⟩, List.mem_of_getElem? (i := 1125) (by decide +kernel), List.mem_of_getElem? (i := 1455) (by decide +kernel), List.mem_of_getElem? (i := 1456) (by decide +kernel)⟩
theorem lw_p54 : lw_okq (⟨"StockYardModel", "tries", "(IIII)V"⟩, 69) := ⟨⟨by decide +kernel, by decide +kernel⟩, List.mem_of_getElem? (i := 1125) (by decide +kernel), List.mem_of_getElem? (i := 1474) (by decide +kernel), List.mem_of_getElem? (i := 1475) (by decide +kernel)⟩
theorem lw_p55 : lw_okq (⟨"StockYardModel", "readRule", "()V"⟩, 69) := ⟨⟨by decide +kernel, by decide +kernel⟩, List.mem_of_getElem? (i := 1125) (by decide +kernel), List.mem_of_getElem? (i := 1495) (by decide +kernel), List.mem_of_getElem? (i := 1496) (by decide +kernel)⟩
theorem lw_p56 : lw_okq (⟨"StockYardModel", "keyHere", "()I"⟩, 69) := ⟨⟨by decide +kernel, by decide +kernel⟩, List.mem_of_getElem? (i := 1125) (by decide +kernel), List.mem_of_getElem? (i := 1499) (by decide +kernel), List.mem_of_getElem? (i := 1500) (by decide +kernel)⟩
theorem lw_p57 : lw_okq (⟨"StockYardModel", "here", "()I"⟩, 69) := ⟨⟨by decide +kernel, by decide +kernel⟩, List.mem_of_getElem? (i := 1125) (by decide +kernel), List.mem_of_getElem? (i := 1503) (by decide +kernel), List.mem_of_getElem? (i := 1504) (by decide +kernel)⟩
theorem lw_p58 : lw_okq (⟨"StockYardModel", "letters", "(J)V"⟩, 69) := ⟨⟨by decide +kernel, by decide +kernel⟩, List.mem_of_getElem? (i := 1125) (by decide +kernel), List.mem_of_getElem? (i := 1511) (by decide +kernel), List.mem_of_getElem? (i := 1512) (by decide +kernel)⟩
theorem lw_p59 : lw_okq (⟨"StockYardModel", "one", "(I)V"⟩, 69) := ⟨⟨by decide +kernel, by decide +kernel⟩, List.mem_of_getElem? (i := 1125) (by decide +kernel), List.mem_of_getElem? (i := 1516) (by decide +kernel), List.mem_of_getElem? (i := 1517) (by decide +kernel)⟩
theorem lw_p60 : lw_okq (⟨"StockYardModel", "numberHere", "()I"⟩, 69) := ⟨⟨by decide +kernel, by decide +kernel⟩, List.mem_of_getElem? (i := 1125) (by decide +kernel), List.mem_of_getElem? (i := 1520) (by decide +kernel), List.mem_of_getElem? (i := 1521) (by decide +kernel)⟩
theorem lw_p61 : lw_okq (⟨"StockYardModel", "testHere", "()V"⟩, 69) := ⟨⟨by decide +kernel, by decide +kernel⟩, List.mem_of_getElem? (i := 1125) (by decide +kernel), List.mem_of_getElem? (i := 1524) (by decide +kernel), List.mem_of_getElem? (i := 1525) (by decide +kernel)⟩
theorem lw_p62 : lw_okq (⟨"StockYardModel", "fieldHere", "()I"⟩, 69) := ⟨⟨by decide +kernel, by decide +kernel⟩, List.mem_of_getElem? (i := 1125) (by decide +kernel), List.mem_of_getElem? (i := 1528) (by decide +kernel), List.mem_of_getElem? (i := 1529) (by decide +kernel)⟩
theorem lw_p63 : lw_okq (⟨"StockYardModel", "isBarred", "(II)Z"⟩, 69) := ⟨⟨by decide +kernel, by decide +kernel⟩, List.mem_of_getElem? (i := 1125) (by decide +kernel), List.mem_of_getElem? (i := 1551) (by decide +kernel), List.mem_of_getElem? (i := 1552) (by decide +kernel)⟩
def lw_privs_4 : List (MethodName × Nat) := [(⟨"StockYardModel", "valueOf", "(III)I"⟩, 69), (⟨"StockYardModel", "isInDoubt", "(I)Z"⟩, 69), (⟨"StockYardModel", "find", "(I)I"⟩, 69), (⟨"StockYardModel", "goes", "()I"⟩, 69), (⟨"StockYardModel", "mayBegin", "(I)Z"⟩, 69), (⟨"StockYardModel", "isFree", "(III)Z"⟩, 69), (⟨"StockYardModel", "tries", "(IIII)V"⟩, 69), (⟨"StockYardModel", "readRule", "()V"⟩, 69), (⟨"StockYardModel", "keyHere", "()I"⟩, 69), (⟨"StockYardModel", "here", "()I"⟩, 69), (⟨"StockYardModel", "letters", "(J)V"⟩, 69), (⟨"StockYardModel", "one", "(I)V"⟩, 69), (⟨"StockYardModel", "numberHere", "()I"⟩, 69), (⟨"StockYardModel", "testHere", "()V"⟩, 69), (⟨"StockYardModel", "fieldHere", "()I"⟩, 69), (⟨"StockYardModel", "isBarred", "(II)Z"⟩, 69)]
theorem lw_r4 : ∀ q ∈ lw_privs_4, lw_okq q := List.forall_mem_cons.mpr ⟨lw_p48, List.forall_mem_cons.mpr ⟨lw_p49, List.forall_mem_cons.mpr ⟨lw_p50, List.forall_mem_cons.mpr ⟨lw_p51, List.forall_mem_cons.mpr ⟨lw_p52, List.forall_mem_cons.mpr ⟨lw_p53, List.forall_mem_cons.mpr ⟨lw_p54, List.forall_mem_cons.mpr ⟨lw_p55, List.forall_mem_cons.mpr ⟨lw_p56, List.forall_mem_cons.mpr ⟨lw_p57, List.forall_mem_cons.mpr ⟨lw_p58, List.forall_mem_cons.mpr ⟨lw_p59, List.forall_mem_cons.mpr ⟨lw_p60, List.forall_mem_cons.mpr ⟨lw_p61, List.forall_mem_cons.mpr ⟨lw_p62, List.forall_mem_cons.mpr ⟨lw_p63, fun _ h => absurd h List.not_mem_nil⟩⟩⟩⟩⟩⟩⟩⟩⟩⟩⟩⟩⟩⟩⟩⟩
theorem lw_p64 : lw_okq (⟨"StockYardModel", "moneyFor", "(II)I"⟩, 69) := ⟨⟨by decide +kernel, by decide +kernel⟩, List.mem_of_getElem? (i := 1125) (by decide +kernel), List.mem_of_getElem? (i := 1563) (by decide +kernel), List.mem_of_getElem? (i := 1564) (by decide +kernel)⟩
theorem lw_p65 : lw_okq (⟨"StockYardModel", "noScale", "(II)I"⟩, 69) := ⟨⟨by decide +kernel, by decide +kernel⟩, List.mem_of_getElem? (i := 1125) (by decide +kernel), List.mem_of_getElem? (i := 1572) (by decide +kernel), List.mem_of_getElem? (i := 1573) (by decide +kernel)⟩
theorem lw_p66 : lw_okq (⟨"StockYardModel", "forget", "()V"⟩, 69) := ⟨⟨by decide +kernel, by decide +kernel⟩, List.mem_of_getElem? (i := 1125) (by decide +kernel), List.mem_of_getElem? (i := 1604) (by decide +kernel), List.mem_of_getElem? (i := 1605) (by decide +kernel)⟩
def lw_privs_5 : List (MethodName × Nat) := [(⟨"StockYardModel", "moneyFor", "(II)I"⟩, 69), (⟨"StockYardModel", "noScale", "(II)I"⟩, 69), (⟨"StockYardModel", "forget", "()V"⟩, 69)]
theorem lw_r5 : ∀ q ∈ lw_privs_5, lw_okq q := List.forall_mem_cons.mpr ⟨lw_p64, List.forall_mem_cons.mpr ⟨lw_p65, List.forall_mem_cons.mpr ⟨lw_p66, fun _ h => absurd h List.not_mem_nil⟩⟩⟩
def lw_privs : List (MethodName × Nat) := lw_privs_1 ++ (lw_privs_2 ++ (lw_privs_3 ++ (lw_privs_4 ++ (lw_privs_5))))
def lw_tbl : List Cond := k2_sels lw_privs ++ tables_1
theorem lw_privs_ok : ∀ q ∈ lw_privs, lw_okq q := by
  show ∀ q ∈ lw_privs_1 ++ (lw_privs_2 ++ (lw_privs_3 ++ (lw_privs_4 ++ (lw_privs_5)))), lw_okq q
  exact List.forall_mem_append.mpr ⟨lw_r1, List.forall_mem_append.mpr ⟨lw_r2, List.forall_mem_append.mpr ⟨lw_r3, List.forall_mem_append.mpr ⟨lw_r4, lw_r5⟩⟩⟩⟩
def RX0 : String := "StockYard$Alley"
def TX0 : u_T := fun k => match k with
  | 0 => ("StockYard$Alley", "a", "I", true)
  | 1 => ("StockYard$Alley", "b", "I", true)
  | 2 => ("StockYard$Alley", "minutes", "I", true)
  | 3 => ("StockYard$Alley", "taken", "[I", true)
  | _ => ("StockYard$Alley", "size", "I", false)
def tyX0 : Nat → FieldType := fun k => match k with
  | 0 => .int
  | 1 => .int
  | 2 => .int
  | 3 => .array .int
  | _ => .int
theorem nmX0 : ∀ a, a < 5 → ∀ b, b < 5 → a ≠ b → (TX0 a).2.1 ≠ (TX0 b).2.1 := by decide +kernel
theorem tyX0_ok : ∀ k, k < 5 → parseFieldDescriptor (TX0 k).2.2.1 = some (tyX0 k) := by decide +kernel
abbrev cX0_init : ByteArray := prog_2_method_1_code
def yX0_init : MethodName := ⟨RX0, "<init>", "(III)V"⟩
abbrev cX0_touches : ByteArray := prog_2_method_2_code
def yX0_touches : MethodName := ⟨RX0, "touches", "(I)Z"⟩
abbrev cX0_otherEnd : ByteArray := prog_2_method_3_code
def yX0_otherEnd : MethodName := ⟨RX0, "otherEnd", "(I)I"⟩
abbrev cX0_freeFrom : ByteArray := prog_2_method_4_code
def yX0_freeFrom : MethodName := ⟨RX0, "freeFrom", "(I)I"⟩
abbrev cX0_meets : ByteArray := prog_2_method_5_code
def yX0_meets : MethodName := ⟨RX0, "meets", "(I)I"⟩
abbrev cX0_take : ByteArray := prog_2_method_6_code
def yX0_take : MethodName := ⟨RX0, "take", "(I)V"⟩
abbrev cX0_giveBack : ByteArray := prog_2_method_7_code
def yX0_giveBack : MethodName := ⟨RX0, "giveBack", "()V"⟩
abbrev cX0_forgetBefore : ByteArray := prog_2_method_8_code
def yX0_forgetBefore : MethodName := ⟨RX0, "forgetBefore", "(I)V"⟩
def RX1 : String := "StockYard$Lot"
def TX1 : u_T := fun k => match k with
  | 0 => ("StockYard$Lot", "pounds", "I", true)
  | 1 => ("StockYard$Lot", "mark", "I", true)
  | 2 => ("StockYard$Lot", "sale", "LStockYard$Sale;", true)
  | 3 => ("StockYard$Lot", "kind", "I", false)
  | 4 => ("StockYard$Lot", "owner", "I", false)
  | 5 => ("StockYard$Lot", "heads", "I", false)
  | 6 => ("StockYard$Lot", "watered", "I", false)
  | 7 => ("StockYard$Lot", "place", "I", false)
  | 8 => ("StockYard$Lot", "goal", "I", false)
  | 9 => ("StockYard$Lot", "due", "I", false)
  | _ => ("StockYard$Lot", "judged", "Z", false)
def tyX1 : Nat → FieldType := fun k => match k with
  | 0 => .int
  | 1 => .int
  | 2 => .object "StockYard$Sale"
  | 3 => .int
  | 4 => .int
  | 5 => .int
  | 6 => .int
  | 7 => .int
  | 8 => .int
  | 9 => .int
  | _ => .boolean
theorem nmX1 : ∀ a, a < 11 → ∀ b, b < 11 → a ≠ b → (TX1 a).2.1 ≠ (TX1 b).2.1 := by decide +kernel
theorem tyX1_ok : ∀ k, k < 11 → parseFieldDescriptor (TX1 k).2.2.1 = some (tyX1 k) := by decide +kernel
abbrev cX1_init : ByteArray := prog_3_method_1_code
def yX1_init : MethodName := ⟨RX1, "<init>", "(IIIIIII)V"⟩
abbrev cX1_thirst : ByteArray := prog_3_method_2_code
def yX1_thirst : MethodName := ⟨RX1, "thirst", "(I)I"⟩
abbrev cX1_isOnWay : ByteArray := prog_3_method_3_code
def yX1_isOnWay : MethodName := ⟨RX1, "isOnWay", "()Z"⟩
abbrev cX1_leave : ByteArray := prog_3_method_4_code
def yX1_leave : MethodName := ⟨RX1, "leave", "(II)V"⟩
abbrev cX1_arrive : ByteArray := prog_3_method_5_code
def yX1_arrive : MethodName := ⟨RX1, "arrive", "(I)Z"⟩
def RX2 : String := "StockYard$MarkBook"
def TX2 : u_T := fun k => match k with
  | 0 => ("StockYard$MarkBook", "marks", "[I", true)
  | 1 => ("StockYard$MarkBook", "owners", "[I", true)
  | _ => ("StockYard$MarkBook", "size", "I", false)
def tyX2 : Nat → FieldType := fun k => match k with
  | 0 => .array .int
  | 1 => .array .int
  | _ => .int
theorem nmX2 : ∀ a, a < 3 → ∀ b, b < 3 → a ≠ b → (TX2 a).2.1 ≠ (TX2 b).2.1 := by decide +kernel
theorem tyX2_ok : ∀ k, k < 3 → parseFieldDescriptor (TX2 k).2.2.1 = some (tyX2 k) := by decide +kernel
abbrev cX2_init : ByteArray := prog_4_method_1_code
def yX2_init : MethodName := ⟨RX2, "<init>", "()V"⟩
abbrev cX2_add : ByteArray := prog_4_method_2_code
def yX2_add : MethodName := ⟨RX2, "add", "(II)V"⟩
abbrev cX2_ownerOf : ByteArray := prog_4_method_3_code
def yX2_ownerOf : MethodName := ⟨RX2, "ownerOf", "(I)I"⟩
abbrev cX2_countNear : ByteArray := prog_4_method_4_code
def yX2_countNear : MethodName := ⟨RX2, "countNear", "(I)I"⟩
abbrev cX2_doubt : ByteArray := prog_4_method_5_code
def yX2_doubt : MethodName := ⟨RX2, "doubt", "(II)Z"⟩
abbrev cX2_areNear : ByteArray := prog_4_method_6_code
def yX2_areNear : MethodName := ⟨RX2, "areNear", "(II)Z"⟩
def RX3 : String := "StockYard$Planner"
def TX3 : u_T := fun k => match k with
  | 0 => ("StockYard$Planner", "yard", "LStockYard$Yard;", true)
  | 1 => ("StockYard$Planner", "lots", "[I", true)
  | 2 => ("StockYard$Planner", "pens", "[I", true)
  | 3 => ("StockYard$Planner", "ways", "[LStockYard$Way;", true)
  | 4 => ("StockYard$Planner", "toldLots", "[I", true)
  | 5 => ("StockYard$Planner", "toldPens", "[I", true)
  | 6 => ("StockYard$Planner", "bestLots", "[I", true)
  | 7 => ("StockYard$Planner", "bestPens", "[I", true)
  | 8 => ("StockYard$Planner", "lotCount", "I", false)
  | 9 => ("StockYard$Planner", "penCount", "I", false)
  | 10 => ("StockYard$Planner", "usedLots", "I", false)
  | 11 => ("StockYard$Planner", "usedPens", "I", false)
  | 12 => ("StockYard$Planner", "now", "I", false)
  | 13 => ("StockYard$Planner", "soonest", "I", false)
  | _ => ("StockYard$Planner", "plannedSize", "I", false)
def tyX3 : Nat → FieldType := fun k => match k with
  | 0 => .object "StockYard$Yard"
  | 1 => .array .int
  | 2 => .array .int
  | 3 => .array (.object "StockYard$Way")
  | 4 => .array .int
  | 5 => .array .int
  | 6 => .array .int
  | 7 => .array .int
  | 8 => .int
  | 9 => .int
  | 10 => .int
  | 11 => .int
  | 12 => .int
  | 13 => .int
  | _ => .int
theorem nmX3 : ∀ a, a < 15 → ∀ b, b < 15 → a ≠ b → (TX3 a).2.1 ≠ (TX3 b).2.1 := by decide +kernel
theorem tyX3_ok : ∀ k, k < 15 → parseFieldDescriptor (TX3 k).2.2.1 = some (tyX3 k) := by decide +kernel
abbrev cX3_init : ByteArray := prog_5_method_1_code
def yX3_init : MethodName := ⟨RX3, "<init>", "(LStockYard$Yard;)V"⟩
abbrev cX3_clear : ByteArray := prog_5_method_2_code
def yX3_clear : MethodName := ⟨RX3, "clear", "()V"⟩
abbrev cX3_addPen : ByteArray := prog_5_method_3_code
def yX3_addPen : MethodName := ⟨RX3, "addPen", "(I)V"⟩
abbrev cX3_addLot : ByteArray := prog_5_method_4_code
def yX3_addLot : MethodName := ⟨RX3, "addLot", "(II)V"⟩
abbrev cX3_search : ByteArray := prog_5_method_5_code
def yX3_search : MethodName := ⟨RX3, "search", "(I)Z"⟩
abbrev cX3_plannedLot : ByteArray := prog_5_method_6_code
def yX3_plannedLot : MethodName := ⟨RX3, "plannedLot", "(I)I"⟩
abbrev cX3_plannedPen : ByteArray := prog_5_method_7_code
def yX3_plannedPen : MethodName := ⟨RX3, "plannedPen", "(I)I"⟩
abbrev cX3_tell : ByteArray := prog_5_method_8_code
def yX3_tell : MethodName := ⟨RX3, "tell", "(II)V"⟩
abbrev cX3_tellOne : ByteArray := prog_5_method_9_code
def yX3_tellOne : MethodName := ⟨RX3, "tellOne", "(IIII)V"⟩
abbrev cX3_keep : ByteArray := prog_5_method_10_code
def yX3_keep : MethodName := ⟨RX3, "keep", "(I)V"⟩
def RX4 : String := "StockYard$Row"
def TX4 : u_T := fun k => match k with
  | 0 => ("StockYard$Row", "numbers", "[I", true)
  | 1 => ("StockYard$Row", "size", "I", false)
  | _ => ("StockYard$Row", "there", "Z", false)
def tyX4 : Nat → FieldType := fun k => match k with
  | 0 => .array .int
  | 1 => .int
  | _ => .boolean
theorem nmX4 : ∀ a, a < 3 → ∀ b, b < 3 → a ≠ b → (TX4 a).2.1 ≠ (TX4 b).2.1 := by decide +kernel
theorem tyX4_ok : ∀ k, k < 3 → parseFieldDescriptor (TX4 k).2.2.1 = some (tyX4 k) := by decide +kernel
abbrev cX4_init : ByteArray := prog_6_method_1_code
def yX4_init : MethodName := ⟨RX4, "<init>", "()V"⟩
abbrev cX4_begin : ByteArray := prog_6_method_2_code
def yX4_begin : MethodName := ⟨RX4, "begin", "(I)V"⟩
abbrev cX4_addAt : ByteArray := prog_6_method_3_code
def yX4_addAt : MethodName := ⟨RX4, "addAt", "(II)V"⟩
abbrev cX4_at : ByteArray := prog_6_method_4_code
def yX4_at : MethodName := ⟨RX4, "at", "(I)I"⟩
abbrev cX4_spans : ByteArray := prog_6_method_5_code
def yX4_spans : MethodName := ⟨RX4, "spans", "(II)Z"⟩
abbrev cX4_move : ByteArray := prog_6_method_6_code
def yX4_move : MethodName := ⟨RX4, "move", "(III)V"⟩
def RX5 : String := "StockYard$Rule"
def TX5 : u_T := fun k => match k with
  | 0 => ("StockYard$Rule", "from", "I", true)
  | 1 => ("StockYard$Rule", "to", "I", true)
  | 2 => ("StockYard$Rule", "nots", "[Z", true)
  | 3 => ("StockYard$Rule", "fields", "[I", true)
  | 4 => ("StockYard$Rule", "signs", "[I", true)
  | 5 => ("StockYard$Rule", "numbers", "[I", true)
  | 6 => ("StockYard$Rule", "tests", "I", false)
  | 7 => ("StockYard$Rule", "key", "I", false)
  | _ => ("StockYard$Rule", "number", "I", false)
def tyX5 : Nat → FieldType := fun k => match k with
  | 0 => .int
  | 1 => .int
  | 2 => .array .boolean
  | 3 => .array .int
  | 4 => .array .int
  | 5 => .array .int
  | 6 => .int
  | 7 => .int
  | _ => .int
theorem nmX5 : ∀ a, a < 9 → ∀ b, b < 9 → a ≠ b → (TX5 a).2.1 ≠ (TX5 b).2.1 := by decide +kernel
theorem tyX5_ok : ∀ k, k < 9 → parseFieldDescriptor (TX5 k).2.2.1 = some (tyX5 k) := by decide +kernel
abbrev cX5_init : ByteArray := prog_7_method_1_code
def yX5_init : MethodName := ⟨RX5, "<init>", "(II)V"⟩
abbrev cX5_addTest : ByteArray := prog_7_method_2_code
def yX5_addTest : MethodName := ⟨RX5, "addTest", "(ZIII)V"⟩
abbrev cX5_appliesTo : ByteArray := prog_7_method_3_code
def yX5_appliesTo : MethodName := ⟨RX5, "appliesTo", "(LStockYard$Lot;II)Z"⟩
abbrev cX5_isMet : ByteArray := prog_7_method_4_code
def yX5_isMet : MethodName := ⟨RX5, "isMet", "(ILStockYard$Lot;II)Z"⟩
abbrev cX5_valueOf : ByteArray := prog_7_method_5_code
def yX5_valueOf : MethodName := ⟨RX5, "valueOf", "(ILStockYard$Lot;II)I"⟩
def RX6 : String := "StockYard$RuleBook"
def TX6 : u_T := fun k => match k with
  | _ => ("StockYard$RuleBook", "rules", "Ljava/util/ArrayList;", true)
def tyX6 : Nat → FieldType := fun k => match k with
  | _ => .object "java/util/ArrayList"
theorem nmX6 : ∀ a, a < 1 → ∀ b, b < 1 → a ≠ b → (TX6 a).2.1 ≠ (TX6 b).2.1 := by decide +kernel
theorem tyX6_ok : ∀ k, k < 1 → parseFieldDescriptor (TX6 k).2.2.1 = some (tyX6 k) := by decide +kernel
abbrev cX6_init : ByteArray := prog_8_method_1_code
def yX6_init : MethodName := ⟨RX6, "<init>", "()V"⟩
abbrev cX6_saying : ByteArray := prog_8_method_2_code
def yX6_saying : MethodName := ⟨RX6, "saying", "(ILStockYard$Lot;II)I"⟩
abbrev cX6_bars : ByteArray := prog_8_method_3_code
def yX6_bars : MethodName := ⟨RX6, "bars", "(ILStockYard$Lot;I)Z"⟩
abbrev cX6_isDry : ByteArray := prog_8_method_4_code
def yX6_isDry : MethodName := ⟨RX6, "isDry", "(LStockYard$Lot;I)Z"⟩
def RX7 : String := "StockYard$Sale"
def TX7 : u_T := fun k => match k with
  | 0 => ("StockYard$Sale", "prices", "[I", true)
  | 1 => ("StockYard$Sale", "turns", "[I", true)
  | 2 => ("StockYard$Sale", "turn", "I", false)
  | 3 => ("StockYard$Sale", "seen", "I", false)
  | 4 => ("StockYard$Sale", "price", "I", false)
  | 5 => ("StockYard$Sale", "weight", "I", false)
  | 6 => ("StockYard$Sale", "fees", "I", false)
  | 7 => ("StockYard$Sale", "buyer", "I", false)
  | 8 => ("StockYard$Sale", "money", "I", false)
  | 9 => ("StockYard$Sale", "paid", "Z", false)
  | _ => ("StockYard$Sale", "scale", "I", false)
def tyX7 : Nat → FieldType := fun k => match k with
  | 0 => .array .int
  | 1 => .array .int
  | 2 => .int
  | 3 => .int
  | 4 => .int
  | 5 => .int
  | 6 => .int
  | 7 => .int
  | 8 => .int
  | 9 => .boolean
  | _ => .int
theorem nmX7 : ∀ a, a < 11 → ∀ b, b < 11 → a ≠ b → (TX7 a).2.1 ≠ (TX7 b).2.1 := by decide +kernel
theorem tyX7_ok : ∀ k, k < 11 → parseFieldDescriptor (TX7 k).2.2.1 = some (tyX7 k) := by decide +kernel
abbrev cX7_init : ByteArray := prog_9_method_1_code
def yX7_init : MethodName := ⟨RX7, "<init>", "()V"⟩
abbrev cX7_isSold : ByteArray := prog_9_method_2_code
def yX7_isSold : MethodName := ⟨RX7, "isSold", "()Z"⟩
abbrev cX7_wasSeenBy : ByteArray := prog_9_method_3_code
def yX7_wasSeenBy : MethodName := ⟨RX7, "wasSeenBy", "(I)Z"⟩
abbrev cX7_show : ByteArray := prog_9_method_4_code
def yX7_show : MethodName := ⟨RX7, "show", "(I)V"⟩
abbrev cX7_offer : ByteArray := prog_9_method_5_code
def yX7_offer : MethodName := ⟨RX7, "offer", "(II)V"⟩
abbrev cX7_offers : ByteArray := prog_9_method_6_code
def yX7_offers : MethodName := ⟨RX7, "offers", "()I"⟩
abbrev cX7_close : ByteArray := prog_9_method_7_code
def yX7_close : MethodName := ⟨RX7, "close", "()V"⟩
abbrev cX7_pay : ByteArray := prog_9_method_8_code
def yX7_pay : MethodName := ⟨RX7, "pay", "(III)V"⟩
abbrev cX7_correct : ByteArray := prog_9_method_9_code
def yX7_correct : MethodName := ⟨RX7, "correct", "(I)V"⟩
abbrev cX7_moneyFor : ByteArray := prog_9_method_10_code
def yX7_moneyFor : MethodName := ⟨RX7, "moneyFor", "(I)I"⟩
def RX8 : String := "StockYard$Tape"
def TX8 : u_T := fun k => match k with
  | 0 => ("StockYard$Tape", "bytes", "[I", true)
  | 1 => ("StockYard$Tape", "size", "I", false)
  | _ => ("StockYard$Tape", "at", "I", false)
def tyX8 : Nat → FieldType := fun k => match k with
  | 0 => .array .int
  | 1 => .int
  | _ => .int
theorem nmX8 : ∀ a, a < 3 → ∀ b, b < 3 → a ≠ b → (TX8 a).2.1 ≠ (TX8 b).2.1 := by decide +kernel
theorem tyX8_ok : ∀ k, k < 3 → parseFieldDescriptor (TX8 k).2.2.1 = some (tyX8 k) := by decide +kernel
abbrev cX8_init : ByteArray := prog_10_method_1_code
def yX8_init : MethodName := ⟨RX8, "<init>", "()V"⟩
abbrev cX8_add : ByteArray := prog_10_method_2_code
def yX8_add : MethodName := ⟨RX8, "add", "(I)V"⟩
abbrev cX8_readRule : ByteArray := prog_10_method_3_code
def yX8_readRule : MethodName := ⟨RX8, "readRule", "(LStockYard$Rule;)Z"⟩
abbrev cX8_readTests : ByteArray := prog_10_method_4_code
def yX8_readTests : MethodName := ⟨RX8, "readTests", "(LStockYard$Rule;)Z"⟩
abbrev cX8_readTest : ByteArray := prog_10_method_5_code
def yX8_readTest : MethodName := ⟨RX8, "readTest", "(LStockYard$Rule;)Z"⟩
abbrev cX8_readSign : ByteArray := prog_10_method_6_code
def yX8_readSign : MethodName := ⟨RX8, "readSign", "(C)Z"⟩
abbrev cX8_readText : ByteArray := prog_10_method_7_code
def yX8_readText : MethodName := ⟨RX8, "readText", "(Ljava/lang/String;)Z"⟩
abbrev cX8_readWord : ByteArray := prog_10_method_8_code
def yX8_readWord : MethodName := ⟨RX8, "readWord", "(Z)I"⟩
abbrev cX8_readNumber : ByteArray := prog_10_method_9_code
def yX8_readNumber : MethodName := ⟨RX8, "readNumber", "()I"⟩
abbrev cX8_keyName : ByteArray := prog_10_method_10_code
def yX8_keyName : MethodName := ⟨RX8, "keyName", "(I)Ljava/lang/String;"⟩
abbrev cX8_fieldName : ByteArray := prog_10_method_11_code
def yX8_fieldName : MethodName := ⟨RX8, "fieldName", "(I)Ljava/lang/String;"⟩
def RX9 : String := "StockYard$Way"
def TX9 : u_T := fun k => match k with
  | 0 => ("StockYard$Way", "alleys", "[I", true)
  | 1 => ("StockYard$Way", "ahead", "[I", true)
  | 2 => ("StockYard$Way", "length", "I", false)
  | _ => ("StockYard$Way", "minutes", "I", false)
def tyX9 : Nat → FieldType := fun k => match k with
  | 0 => .array .int
  | 1 => .array .int
  | 2 => .int
  | _ => .int
theorem nmX9 : ∀ a, a < 4 → ∀ b, b < 4 → a ≠ b → (TX9 a).2.1 ≠ (TX9 b).2.1 := by decide +kernel
theorem tyX9_ok : ∀ k, k < 4 → parseFieldDescriptor (TX9 k).2.2.1 = some (tyX9 k) := by decide +kernel
abbrev cX9_init : ByteArray := prog_11_method_1_code
def yX9_init : MethodName := ⟨RX9, "<init>", "()V"⟩
abbrev cX9_clear : ByteArray := prog_11_method_2_code
def yX9_clear : MethodName := ⟨RX9, "clear", "()V"⟩
abbrev cX9_add : ByteArray := prog_11_method_3_code
def yX9_add : MethodName := ⟨RX9, "add", "(II)V"⟩
abbrev cX9_alleyAt : ByteArray := prog_11_method_4_code
def yX9_alleyAt : MethodName := ⟨RX9, "alleyAt", "(I)I"⟩
abbrev cX9_aheadOf : ByteArray := prog_11_method_5_code
def yX9_aheadOf : MethodName := ⟨RX9, "aheadOf", "(I)I"⟩
def RX10 : String := "StockYard$Yard"
def TX10 : u_T := fun k => match k with
  | 0 => ("StockYard$Yard", "alleys", "Ljava/util/ArrayList;", true)
  | 1 => ("StockYard$Yard", "kinds", "[I", true)
  | 2 => ("StockYard$Yard", "offs", "[I", true)
  | 3 => ("StockYard$Yard", "minutes", "[[I", true)
  | _ => ("StockYard$Yard", "places", "I", false)
def tyX10 : Nat → FieldType := fun k => match k with
  | 0 => .object "java/util/ArrayList"
  | 1 => .array .int
  | 2 => .array .int
  | 3 => .array (.array .int)
  | _ => .int
theorem nmX10 : ∀ a, a < 5 → ∀ b, b < 5 → a ≠ b → (TX10 a).2.1 ≠ (TX10 b).2.1 := by decide +kernel
theorem tyX10_ok : ∀ k, k < 5 → parseFieldDescriptor (TX10 k).2.2.1 = some (tyX10 k) := by decide +kernel
abbrev cX10_init : ByteArray := prog_12_method_1_code
def yX10_init : MethodName := ⟨RX10, "<init>", "()V"⟩
abbrev cX10_hasPlace : ByteArray := prog_12_method_2_code
def yX10_hasPlace : MethodName := ⟨RX10, "hasPlace", "(I)Z"⟩
abbrev cX10_kindOf : ByteArray := prog_12_method_3_code
def yX10_kindOf : MethodName := ⟨RX10, "kindOf", "(I)I"⟩
abbrev cX10_offOf : ByteArray := prog_12_method_4_code
def yX10_offOf : MethodName := ⟨RX10, "offOf", "(I)I"⟩
abbrev cX10_setOff : ByteArray := prog_12_method_5_code
def yX10_setOff : MethodName := ⟨RX10, "setOff", "(II)V"⟩
abbrev cX10_addPlace : ByteArray := prog_12_method_6_code
def yX10_addPlace : MethodName := ⟨RX10, "addPlace", "(I)I"⟩
abbrev cX10_addAlley : ByteArray := prog_12_method_7_code
def yX10_addAlley : MethodName := ⟨RX10, "addAlley", "(III)I"⟩
abbrev cX10_minutesBetween : ByteArray := prog_12_method_8_code
def yX10_minutesBetween : MethodName := ⟨RX10, "minutesBetween", "(II)I"⟩
abbrev cX10_find : ByteArray := prog_12_method_9_code
def yX10_find : MethodName := ⟨RX10, "find", "(IILStockYard$Way;)Z"⟩
abbrev cX10_leastAlleyToward : ByteArray := prog_12_method_10_code
def yX10_leastAlleyToward : MethodName := ⟨RX10, "leastAlleyToward", "(II)I"⟩
abbrev cX10_firstFree : ByteArray := prog_12_method_11_code
def yX10_firstFree : MethodName := ⟨RX10, "firstFree", "(LStockYard$Way;I)I"⟩
abbrev cX10_putOff : ByteArray := prog_12_method_12_code
def yX10_putOff : MethodName := ⟨RX10, "putOff", "(LStockYard$Way;I)I"⟩
abbrev cX10_take : ByteArray := prog_12_method_13_code
def yX10_take : MethodName := ⟨RX10, "take", "(LStockYard$Way;I)V"⟩
abbrev cX10_giveBack : ByteArray := prog_12_method_14_code
def yX10_giveBack : MethodName := ⟨RX10, "giveBack", "(LStockYard$Way;)V"⟩
abbrev cX10_forgetBefore : ByteArray := prog_12_method_15_code
def yX10_forgetBefore : MethodName := ⟨RX10, "forgetBefore", "(I)V"⟩
def RX11 : String := "StockYard"
def TX11 : u_T := fun k => match k with
  | 0 => ("StockYard", "yard", "LStockYard$Yard;", true)
  | 1 => ("StockYard", "lots", "Ljava/util/ArrayList;", true)
  | 2 => ("StockYard", "tape", "LStockYard$Tape;", true)
  | 3 => ("StockYard", "book", "LStockYard$RuleBook;", true)
  | 4 => ("StockYard", "marks", "LStockYard$MarkBook;", true)
  | 5 => ("StockYard", "planner", "LStockYard$Planner;", true)
  | 6 => ("StockYard", "headRow", "LStockYard$Row;", true)
  | 7 => ("StockYard", "route", "LStockYard$Way;", true)
  | 8 => ("StockYard", "refused", "[I", true)
  | _ => ("StockYard", "now", "I", false)
def tyX11 : Nat → FieldType := fun k => match k with
  | 0 => .object "StockYard$Yard"
  | 1 => .object "java/util/ArrayList"
  | 2 => .object "StockYard$Tape"
  | 3 => .object "StockYard$RuleBook"
  | 4 => .object "StockYard$MarkBook"
  | 5 => .object "StockYard$Planner"
  | 6 => .object "StockYard$Row"
  | 7 => .object "StockYard$Way"
  | 8 => .array .int
  | _ => .int
theorem nmX11 : ∀ a, a < 10 → ∀ b, b < 10 → a ≠ b → (TX11 a).2.1 ≠ (TX11 b).2.1 := by decide +kernel
theorem tyX11_ok : ∀ k, k < 10 → parseFieldDescriptor (TX11 k).2.2.1 = some (tyX11 k) := by decide +kernel
abbrev cX11_init : ByteArray := prog_1_method_1_code
def yX11_init : MethodName := ⟨RX11, "<init>", "()V"⟩
abbrev cX11_place : ByteArray := prog_1_method_2_code
def yX11_place : MethodName := ⟨RX11, "place", "(I)I"⟩
abbrev cX11_alley : ByteArray := prog_1_method_3_code
def yX11_alley : MethodName := ⟨RX11, "alley", "(III)I"⟩
abbrev cX11_way : ByteArray := prog_1_method_4_code
def yX11_way : MethodName := ⟨RX11, "way", "(II)I"⟩
abbrev cX11_by : ByteArray := prog_1_method_5_code
def yX11_by : MethodName := ⟨RX11, "by", "(III)I"⟩
abbrev cX11_lot : ByteArray := prog_1_method_6_code
def yX11_lot : MethodName := ⟨RX11, "lot", "(IIIII)I"⟩
abbrev cX11_sort : ByteArray := prog_1_method_7_code
def yX11_sort : MethodName := ⟨RX11, "sort", "(IIII)I"⟩
abbrev cX11_look : ByteArray := prog_1_method_8_code
def yX11_look : MethodName := ⟨RX11, "look", "(II)I"⟩
abbrev cX11_drive : ByteArray := prog_1_method_9_code
def yX11_drive : MethodName := ⟨RX11, "drive", "(II)I"⟩
abbrev cX11_water : ByteArray := prog_1_method_10_code
def yX11_water : MethodName := ⟨RX11, "water", "(I)I"⟩
abbrev cX11_hold : ByteArray := prog_1_method_11_code
def yX11_hold : MethodName := ⟨RX11, "hold", "(II)I"⟩
abbrev cX11_plan : ByteArray := prog_1_method_12_code
def yX11_plan : MethodName := ⟨RX11, "plan", "(II)I"⟩
abbrev cX11_planned : ByteArray := prog_1_method_13_code
def yX11_planned : MethodName := ⟨RX11, "planned", "(II)I"⟩
abbrev cX11_feed : ByteArray := prog_1_method_14_code
def yX11_feed : MethodName := ⟨RX11, "feed", "(II)I"⟩
abbrev cX11_wipe : ByteArray := prog_1_method_15_code
def yX11_wipe : MethodName := ⟨RX11, "wipe", "()I"⟩
abbrev cX11_rule : ByteArray := prog_1_method_16_code
def yX11_rule : MethodName := ⟨RX11, "rule", "(II)I"⟩
abbrev cX11_holds : ByteArray := prog_1_method_17_code
def yX11_holds : MethodName := ⟨RX11, "holds", "(III)I"⟩
abbrev cX11_said : ByteArray := prog_1_method_18_code
def yX11_said : MethodName := ⟨RX11, "said", "(II)I"⟩
abbrev cX11_see : ByteArray := prog_1_method_19_code
def yX11_see : MethodName := ⟨RX11, "see", "(II)I"⟩
abbrev cX11_bid : ByteArray := prog_1_method_20_code
def yX11_bid : MethodName := ⟨RX11, "bid", "(III)I"⟩
abbrev cX11_sell : ByteArray := prog_1_method_21_code
def yX11_sell : MethodName := ⟨RX11, "sell", "(I)I"⟩
abbrev cX11_weigh : ByteArray := prog_1_method_22_code
def yX11_weigh : MethodName := ⟨RX11, "weigh", "(I)I"⟩
abbrev cX11_off : ByteArray := prog_1_method_23_code
def yX11_off : MethodName := ⟨RX11, "off", "(II)I"⟩
abbrev cX11_test : ByteArray := prog_1_method_24_code
def yX11_test : MethodName := ⟨RX11, "test", "(I)I"⟩
abbrev cX11_account : ByteArray := prog_1_method_25_code
def yX11_account : MethodName := ⟨RX11, "account", "(I)J"⟩
abbrev cX11_write : ByteArray := prog_1_method_26_code
def yX11_write : MethodName := ⟨RX11, "write", "(II)I"⟩
abbrev cX11_whose : ByteArray := prog_1_method_27_code
def yX11_whose : MethodName := ⟨RX11, "whose", "(I)I"⟩
abbrev cX11_near : ByteArray := prog_1_method_28_code
def yX11_near : MethodName := ⟨RX11, "near", "(I)I"⟩
abbrev cX11_judge : ByteArray := prog_1_method_29_code
def yX11_judge : MethodName := ⟨RX11, "judge", "(II)I"⟩
abbrev cX11_run : ByteArray := prog_1_method_30_code
def yX11_run : MethodName := ⟨RX11, "run", "(I)I"⟩
abbrev cX11_count : ByteArray := prog_1_method_31_code
def yX11_count : MethodName := ⟨RX11, "count", "(I)I"⟩
abbrev cX11_lay : ByteArray := prog_1_method_32_code
def yX11_lay : MethodName := ⟨RX11, "lay", "()I"⟩
abbrev cX11_tear : ByteArray := prog_1_method_33_code
def yX11_tear : MethodName := ⟨RX11, "tear", "()I"⟩
abbrev cX11_row : ByteArray := prog_1_method_34_code
def yX11_row : MethodName := ⟨RX11, "row", "(I)I"⟩
abbrev cX11_copy : ByteArray := prog_1_method_35_code
def yX11_copy : MethodName := ⟨RX11, "copy", "(III)I"⟩
abbrev cX11_status : ByteArray := prog_1_method_36_code
def yX11_status : MethodName := ⟨RX11, "status", "(I)I"⟩
abbrev cX11_refuse : ByteArray := prog_1_method_37_code
def yX11_refuse : MethodName := ⟨RX11, "refuse", "(I)I"⟩
abbrev cX11_within : ByteArray := prog_1_method_38_code
def yX11_within : MethodName := ⟨RX11, "within", "(III)Z"⟩
abbrev cX11_inSet : ByteArray := prog_1_method_39_code
def yX11_inSet : MethodName := ⟨RX11, "inSet", "(II)Z"⟩
abbrev cX11_isOwner : ByteArray := prog_1_method_40_code
def yX11_isOwner : MethodName := ⟨RX11, "isOwner", "(I)Z"⟩
abbrev cX11_isBuyer : ByteArray := prog_1_method_41_code
def yX11_isBuyer : MethodName := ⟨RX11, "isBuyer", "(I)Z"⟩
abbrev cX11_isMark : ByteArray := prog_1_method_42_code
def yX11_isMark : MethodName := ⟨RX11, "isMark", "(I)Z"⟩
abbrev cX11_tellsOwner : ByteArray := prog_1_method_43_code
def yX11_tellsOwner : MethodName := ⟨RX11, "tellsOwner", "(I)Z"⟩
abbrev cX11_tellsHeads : ByteArray := prog_1_method_44_code
def yX11_tellsHeads : MethodName := ⟨RX11, "tellsHeads", "(I)Z"⟩
abbrev cX11_lotAt : ByteArray := prog_1_method_45_code
def yX11_lotAt : MethodName := ⟨RX11, "lotAt", "(I)LStockYard$Lot;"⟩
abbrev cX11_admit : ByteArray := prog_1_method_46_code
def yX11_admit : MethodName := ⟨RX11, "admit", "(LStockYard$Lot;)I"⟩
abbrev cX11_isIn : ByteArray := prog_1_method_47_code
def yX11_isIn : MethodName := ⟨RX11, "isIn", "(LStockYard$Lot;I)Z"⟩
abbrev cX11_hasLot : ByteArray := prog_1_method_48_code
def yX11_hasLot : MethodName := ⟨RX11, "hasLot", "(I)Z"⟩
abbrev cX11_mayBeDriven : ByteArray := prog_1_method_49_code
def yX11_mayBeDriven : MethodName := ⟨RX11, "mayBeDriven", "(LStockYard$Lot;)Z"⟩
abbrev cX11_isInDoubt : ByteArray := prog_1_method_50_code
def yX11_isInDoubt : MethodName := ⟨RX11, "isInDoubt", "(LStockYard$Lot;)Z"⟩
abbrev cX11_weightOf : ByteArray := prog_1_method_51_code
def yX11_weightOf : MethodName := ⟨RX11, "weightOf", "(LStockYard$Lot;)I"⟩
abbrev cX11_settle : ByteArray := prog_1_method_52_code
def yX11_settle : MethodName := ⟨RX11, "settle", "(II)I"⟩
abbrev cX11_lotsOnWay : ByteArray := prog_1_method_53_code
def yX11_lotsOnWay : MethodName := ⟨RX11, "lotsOnWay", "()I"⟩
abbrev cX11_dryLots : ByteArray := prog_1_method_54_code
def yX11_dryLots : MethodName := ⟨RX11, "dryLots", "()I"⟩
abbrev cX11_soldLots : ByteArray := prog_1_method_55_code
def yX11_soldLots : MethodName := ⟨RX11, "soldLots", "()I"⟩
abbrev cX11_headsAtHooks : ByteArray := prog_1_method_56_code
def yX11_headsAtHooks : MethodName := ⟨RX11, "headsAtHooks", "()I"⟩
abbrev cX11_arePens : ByteArray := prog_1_method_57_code
def yX11_arePens : MethodName := ⟨RX11, "arePens", "(I)Z"⟩
abbrev cX11_mayAllBeDriven : ByteArray := prog_1_method_58_code
def yX11_mayAllBeDriven : MethodName := ⟨RX11, "mayAllBeDriven", "(I)Z"⟩
abbrev cX11_hasLotInOne : ByteArray := prog_1_method_59_code
def yX11_hasLotInOne : MethodName := ⟨RX11, "hasLotInOne", "(I)Z"⟩
abbrev cX11_readyPlanner : ByteArray := prog_1_method_60_code
def yX11_readyPlanner : MethodName := ⟨RX11, "readyPlanner", "(II)V"⟩
def RX12 : String := "StockYardModel"
def TX12 : u_T := fun k => match k with
  | 0 => ("StockYardModel", "thrown", "I", false)
  | 1 => ("StockYardModel", "refusals", "[I", true)
  | 2 => ("StockYardModel", "minute", "I", false)
  | 3 => ("StockYardModel", "places", "I", false)
  | 4 => ("StockYardModel", "placeKind", "[I", true)
  | 5 => ("StockYardModel", "offs", "[I", true)
  | 6 => ("StockYardModel", "alleys", "I", false)
  | 7 => ("StockYardModel", "endA", "[I", true)
  | 8 => ("StockYardModel", "endB", "[I", true)
  | 9 => ("StockYardModel", "takes", "[I", true)
  | 10 => ("StockYardModel", "far", "[I", true)
  | 11 => ("StockYardModel", "way", "[I", true)
  | 12 => ("StockYardModel", "waySize", "I", false)
  | 13 => ("StockYardModel", "taken", "I", false)
  | 14 => ("StockYardModel", "takenAlley", "[I", true)
  | 15 => ("StockYardModel", "takenFrom", "[I", true)
  | 16 => ("StockYardModel", "takenTo", "[I", true)
  | 17 => ("StockYardModel", "lots", "I", false)
  | 18 => ("StockYardModel", "kind", "[I", true)
  | 19 => ("StockYardModel", "owner", "[I", true)
  | 20 => ("StockYardModel", "heads", "[I", true)
  | 21 => ("StockYardModel", "pounds", "[I", true)
  | 22 => ("StockYardModel", "mark", "[I", true)
  | 23 => ("StockYardModel", "at", "[I", true)
  | 24 => ("StockYardModel", "goesTo", "[I", true)
  | 25 => ("StockYardModel", "comes", "[I", true)
  | 26 => ("StockYardModel", "watered", "[I", true)
  | 27 => ("StockYardModel", "judged", "[Z", true)
  | 28 => ("StockYardModel", "soldTo", "[I", true)
  | 29 => ("StockYardModel", "soldFor", "[I", true)
  | 30 => ("StockYardModel", "weighed", "[Z", true)
  | 31 => ("StockYardModel", "money", "[I", true)
  | 32 => ("StockYardModel", "feeThen", "[I", true)
  | 33 => ("StockYardModel", "weightThen", "[I", true)
  | 34 => ("StockYardModel", "byScale", "[I", true)
  | 35 => ("StockYardModel", "seen", "[Z", true)
  | 36 => ("StockYardModel", "bids", "[I", true)
  | 37 => ("StockYardModel", "bidAt", "[I", true)
  | 38 => ("StockYardModel", "bidding", "I", false)
  | 39 => ("StockYardModel", "hasMoney", "[Z", true)
  | 40 => ("StockYardModel", "many", "I", false)
  | 41 => ("StockYardModel", "planLot", "[I", true)
  | 42 => ("StockYardModel", "planPen", "[I", true)
  | 43 => ("StockYardModel", "bestLot", "[I", true)
  | 44 => ("StockYardModel", "bestPen", "[I", true)
  | 45 => ("StockYardModel", "bestSize", "I", false)
  | 46 => ("StockYardModel", "bestLast", "I", false)
  | 47 => ("StockYardModel", "planSize", "I", false)
  | 48 => ("StockYardModel", "rules", "I", false)
  | 49 => ("StockYardModel", "key", "[I", true)
  | 50 => ("StockYardModel", "says", "[I", true)
  | 51 => ("StockYardModel", "from", "[I", true)
  | 52 => ("StockYardModel", "to", "[I", true)
  | 53 => ("StockYardModel", "tests", "[I", true)
  | 54 => ("StockYardModel", "not", "[Z", true)
  | 55 => ("StockYardModel", "field", "[I", true)
  | 56 => ("StockYardModel", "sign", "[I", true)
  | 57 => ("StockYardModel", "against", "[I", true)
  | 58 => ("StockYardModel", "taped", "I", false)
  | 59 => ("StockYardModel", "tape", "[I", true)
  | 60 => ("StockYardModel", "now", "I", false)
  | 61 => ("StockYardModel", "place", "I", false)
  | 62 => ("StockYardModel", "isWrong", "Z", false)
  | 63 => ("StockYardModel", "marks", "I", false)
  | 64 => ("StockYardModel", "written", "[I", true)
  | 65 => ("StockYardModel", "writtenFor", "[I", true)
  | 66 => ("StockYardModel", "isRow", "Z", false)
  | 67 => ("StockYardModel", "numbers", "I", false)
  | _ => ("StockYardModel", "row", "[I", true)
def tyX12 : Nat → FieldType := fun k => match k with
  | 0 => .int
  | 1 => .array .int
  | 2 => .int
  | 3 => .int
  | 4 => .array .int
  | 5 => .array .int
  | 6 => .int
  | 7 => .array .int
  | 8 => .array .int
  | 9 => .array .int
  | 10 => .array .int
  | 11 => .array .int
  | 12 => .int
  | 13 => .int
  | 14 => .array .int
  | 15 => .array .int
  | 16 => .array .int
  | 17 => .int
  | 18 => .array .int
  | 19 => .array .int
  | 20 => .array .int
  | 21 => .array .int
  | 22 => .array .int
  | 23 => .array .int
  | 24 => .array .int
  | 25 => .array .int
  | 26 => .array .int
  | 27 => .array .boolean
  | 28 => .array .int
  | 29 => .array .int
  | 30 => .array .boolean
  | 31 => .array .int
  | 32 => .array .int
  | 33 => .array .int
  | 34 => .array .int
  | 35 => .array .boolean
  | 36 => .array .int
  | 37 => .array .int
  | 38 => .int
  | 39 => .array .boolean
  | 40 => .int
  | 41 => .array .int
  | 42 => .array .int
  | 43 => .array .int
  | 44 => .array .int
  | 45 => .int
  | 46 => .int
  | 47 => .int
  | 48 => .int
  | 49 => .array .int
  | 50 => .array .int
  | 51 => .array .int
  | 52 => .array .int
  | 53 => .array .int
  | 54 => .array .boolean
  | 55 => .array .int
  | 56 => .array .int
  | 57 => .array .int
  | 58 => .int
  | 59 => .array .int
  | 60 => .int
  | 61 => .int
  | 62 => .boolean
  | 63 => .int
  | 64 => .array .int
  | 65 => .array .int
  | 66 => .boolean
  | 67 => .int
  | _ => .array .int
theorem nmX12 : ∀ a, a < 69 → ∀ b, b < 69 → a ≠ b → (TX12 a).2.1 ≠ (TX12 b).2.1 := by decide +kernel
theorem tyX12_ok : ∀ k, k < 69 → parseFieldDescriptor (TX12 k).2.2.1 = some (tyX12 k) := by decide +kernel
abbrev cX12_init : ByteArray := prog_14_method_1_code
def yX12_init : MethodName := ⟨RX12, "<init>", "()V"⟩
abbrev cX12_in : ByteArray := prog_14_method_3_code
def yX12_in : MethodName := ⟨RX12, "in", "(III)Z"⟩
abbrev cX12_refused : ByteArray := prog_14_method_4_code
def yX12_refused : MethodName := ⟨RX12, "refused", "(I)I"⟩
abbrev cX12_status : ByteArray := prog_14_method_5_code
def yX12_status : MethodName := ⟨RX12, "status", "(I)I"⟩
abbrev cX12_isPlace : ByteArray := prog_14_method_6_code
def yX12_isPlace : MethodName := ⟨RX12, "isPlace", "(I)Z"⟩
abbrev cX12_place : ByteArray := prog_14_method_7_code
def yX12_place : MethodName := ⟨RX12, "place", "(I)I"⟩
abbrev cX12_alley : ByteArray := prog_14_method_8_code
def yX12_alley : MethodName := ⟨RX12, "alley", "(III)I"⟩
abbrev cX12_other : ByteArray := prog_14_method_9_code
def yX12_other : MethodName := ⟨RX12, "other", "(II)I"⟩
abbrev cX12_walk : ByteArray := prog_14_method_10_code
def yX12_walk : MethodName := ⟨RX12, "walk", "(II)I"⟩
abbrev cX12_way : ByteArray := prog_14_method_11_code
def yX12_way : MethodName := ⟨RX12, "way", "(II)I"⟩
abbrev cX12_by : ByteArray := prog_14_method_12_code
def yX12_by : MethodName := ⟨RX12, "by", "(III)I"⟩
abbrev cX12_isFree : ByteArray := prog_14_method_13_code
def yX12_isFree : MethodName := ⟨RX12, "isFree", "(III)Z"⟩
abbrev cX12_mayBegin : ByteArray := prog_14_method_14_code
def yX12_mayBegin : MethodName := ⟨RX12, "mayBegin", "(I)Z"⟩
abbrev cX12_goes : ByteArray := prog_14_method_15_code
def yX12_goes : MethodName := ⟨RX12, "goes", "()I"⟩
abbrev cX12_isLot : ByteArray := prog_14_method_16_code
def yX12_isLot : MethodName := ⟨RX12, "isLot", "(I)Z"⟩
abbrev cX12_isMark : ByteArray := prog_14_method_17_code
def yX12_isMark : MethodName := ⟨RX12, "isMark", "(I)Z"⟩
abbrev cX12_isTaken : ByteArray := prog_14_method_18_code
def yX12_isTaken : MethodName := ⟨RX12, "isTaken", "(I)Z"⟩
abbrev cX12_comes : ByteArray := prog_14_method_19_code
def yX12_comes : MethodName := ⟨RX12, "comes", "(IIIIIII)I"⟩
abbrev cX12_lot : ByteArray := prog_14_method_20_code
def yX12_lot : MethodName := ⟨RX12, "lot", "(IIIII)I"⟩
abbrev cX12_isInPen : ByteArray := prog_14_method_21_code
def yX12_isInPen : MethodName := ⟨RX12, "isInPen", "(I)Z"⟩
abbrev cX12_sort : ByteArray := prog_14_method_22_code
def yX12_sort : MethodName := ⟨RX12, "sort", "(IIII)I"⟩
abbrev cX12_look : ByteArray := prog_14_method_23_code
def yX12_look : MethodName := ⟨RX12, "look", "(II)I"⟩
abbrev cX12_drive : ByteArray := prog_14_method_24_code
def yX12_drive : MethodName := ⟨RX12, "drive", "(II)I"⟩
abbrev cX12_water : ByteArray := prog_14_method_25_code
def yX12_water : MethodName := ⟨RX12, "water", "(I)I"⟩
abbrev cX12_hold : ByteArray := prog_14_method_26_code
def yX12_hold : MethodName := ⟨RX12, "hold", "(II)I"⟩
abbrev cX12_tries : ByteArray := prog_14_method_27_code
def yX12_tries : MethodName := ⟨RX12, "tries", "(IIII)V"⟩
abbrev cX12_bits : ByteArray := prog_14_method_28_code
def yX12_bits : MethodName := ⟨RX12, "bits", "(I)I"⟩
abbrev cX12_plan : ByteArray := prog_14_method_29_code
def yX12_plan : MethodName := ⟨RX12, "plan", "(II)I"⟩
abbrev cX12_planned : ByteArray := prog_14_method_30_code
def yX12_planned : MethodName := ⟨RX12, "planned", "(II)I"⟩
abbrev cX12_feed : ByteArray := prog_14_method_31_code
def yX12_feed : MethodName := ⟨RX12, "feed", "(II)I"⟩
abbrev cX12_wipe : ByteArray := prog_14_method_32_code
def yX12_wipe : MethodName := ⟨RX12, "wipe", "()I"⟩
abbrev cX12_here : ByteArray := prog_14_method_33_code
def yX12_here : MethodName := ⟨RX12, "here", "()I"⟩
abbrev cX12_one : ByteArray := prog_14_method_34_code
def yX12_one : MethodName := ⟨RX12, "one", "(I)V"⟩
abbrev cX12_letters : ByteArray := prog_14_method_35_code
def yX12_letters : MethodName := ⟨RX12, "letters", "(J)V"⟩
abbrev cX12_named : ByteArray := prog_14_method_36_code
def yX12_named : MethodName := ⟨RX12, "named", "(IIIIII)J"⟩
abbrev cX12_keyHere : ByteArray := prog_14_method_37_code
def yX12_keyHere : MethodName := ⟨RX12, "keyHere", "()I"⟩
abbrev cX12_fieldHere : ByteArray := prog_14_method_38_code
def yX12_fieldHere : MethodName := ⟨RX12, "fieldHere", "()I"⟩
abbrev cX12_numberHere : ByteArray := prog_14_method_39_code
def yX12_numberHere : MethodName := ⟨RX12, "numberHere", "()I"⟩
abbrev cX12_testHere : ByteArray := prog_14_method_40_code
def yX12_testHere : MethodName := ⟨RX12, "testHere", "()V"⟩
abbrev cX12_readRule : ByteArray := prog_14_method_41_code
def yX12_readRule : MethodName := ⟨RX12, "readRule", "()V"⟩
abbrev cX12_rule : ByteArray := prog_14_method_42_code
def yX12_rule : MethodName := ⟨RX12, "rule", "(II)I"⟩
abbrev cX12_valueOf : ByteArray := prog_14_method_43_code
def yX12_valueOf : MethodName := ⟨RX12, "valueOf", "(III)I"⟩
abbrev cX12_isSo : ByteArray := prog_14_method_44_code
def yX12_isSo : MethodName := ⟨RX12, "isSo", "(III)Z"⟩
abbrev cX12_holdsFor : ByteArray := prog_14_method_45_code
def yX12_holdsFor : MethodName := ⟨RX12, "holdsFor", "(III)Z"⟩
abbrev cX12_holds : ByteArray := prog_14_method_46_code
def yX12_holds : MethodName := ⟨RX12, "holds", "(III)I"⟩
abbrev cX12_saidBy : ByteArray := prog_14_method_47_code
def yX12_saidBy : MethodName := ⟨RX12, "saidBy", "(III)I"⟩
abbrev cX12_said : ByteArray := prog_14_method_48_code
def yX12_said : MethodName := ⟨RX12, "said", "(II)I"⟩
abbrev cX12_isBarred : ByteArray := prog_14_method_49_code
def yX12_isBarred : MethodName := ⟨RX12, "isBarred", "(II)Z"⟩
abbrev cX12_thirst : ByteArray := prog_14_method_50_code
def yX12_thirst : MethodName := ⟨RX12, "thirst", "(I)I"⟩
abbrev cX12_isDry : ByteArray := prog_14_method_51_code
def yX12_isDry : MethodName := ⟨RX12, "isDry", "(I)Z"⟩
abbrev cX12_isBuyer : ByteArray := prog_14_method_52_code
def yX12_isBuyer : MethodName := ⟨RX12, "isBuyer", "(I)Z"⟩
abbrev cX12_see : ByteArray := prog_14_method_53_code
def yX12_see : MethodName := ⟨RX12, "see", "(II)I"⟩
abbrev cX12_bid : ByteArray := prog_14_method_54_code
def yX12_bid : MethodName := ⟨RX12, "bid", "(III)I"⟩
abbrev cX12_sell : ByteArray := prog_14_method_55_code
def yX12_sell : MethodName := ⟨RX12, "sell", "(I)I"⟩
abbrev cX12_moneyFor : ByteArray := prog_14_method_56_code
def yX12_moneyFor : MethodName := ⟨RX12, "moneyFor", "(II)I"⟩
abbrev cX12_weigh : ByteArray := prog_14_method_57_code
def yX12_weigh : MethodName := ⟨RX12, "weigh", "(I)I"⟩
abbrev cX12_noScale : ByteArray := prog_14_method_58_code
def yX12_noScale : MethodName := ⟨RX12, "noScale", "(II)I"⟩
abbrev cX12_off : ByteArray := prog_14_method_59_code
def yX12_off : MethodName := ⟨RX12, "off", "(II)I"⟩
abbrev cX12_test : ByteArray := prog_14_method_60_code
def yX12_test : MethodName := ⟨RX12, "test", "(I)I"⟩
abbrev cX12_account : ByteArray := prog_14_method_61_code
def yX12_account : MethodName := ⟨RX12, "account", "(I)J"⟩
abbrev cX12_isNear : ByteArray := prog_14_method_62_code
def yX12_isNear : MethodName := ⟨RX12, "isNear", "(II)Z"⟩
abbrev cX12_find : ByteArray := prog_14_method_63_code
def yX12_find : MethodName := ⟨RX12, "find", "(I)I"⟩
abbrev cX12_isInDoubt : ByteArray := prog_14_method_64_code
def yX12_isInDoubt : MethodName := ⟨RX12, "isInDoubt", "(I)Z"⟩
abbrev cX12_write : ByteArray := prog_14_method_65_code
def yX12_write : MethodName := ⟨RX12, "write", "(II)I"⟩
abbrev cX12_whose : ByteArray := prog_14_method_66_code
def yX12_whose : MethodName := ⟨RX12, "whose", "(I)I"⟩
abbrev cX12_near : ByteArray := prog_14_method_67_code
def yX12_near : MethodName := ⟨RX12, "near", "(I)I"⟩
abbrev cX12_judge : ByteArray := prog_14_method_68_code
def yX12_judge : MethodName := ⟨RX12, "judge", "(II)I"⟩
abbrev cX12_forget : ByteArray := prog_14_method_69_code
def yX12_forget : MethodName := ⟨RX12, "forget", "()V"⟩
abbrev cX12_run : ByteArray := prog_14_method_70_code
def yX12_run : MethodName := ⟨RX12, "run", "(I)I"⟩
abbrev cX12_count : ByteArray := prog_14_method_71_code
def yX12_count : MethodName := ⟨RX12, "count", "(I)I"⟩
abbrev cX12_lay : ByteArray := prog_14_method_72_code
def yX12_lay : MethodName := ⟨RX12, "lay", "()I"⟩
abbrev cX12_tear : ByteArray := prog_14_method_73_code
def yX12_tear : MethodName := ⟨RX12, "tear", "()I"⟩
abbrev cX12_row : ByteArray := prog_14_method_74_code
def yX12_row : MethodName := ⟨RX12, "row", "(I)I"⟩
abbrev cX12_copy : ByteArray := prog_14_method_75_code
def yX12_copy : MethodName := ⟨RX12, "copy", "(III)I"⟩
def RJx145de : String := "java/io/Serializable"
def TJx145de : u_T := fun k => match k with
  | _ => ("", "", "", false)
def tyJx145de : Nat → FieldType := fun k => match k with
  | _ => .int
theorem nmJx145de : ∀ a, a < 0 → ∀ b, b < 0 → a ≠ b → (TJx145de a).2.1 ≠ (TJx145de b).2.1 := by decide +kernel
theorem tyJx145de_ok : ∀ k, k < 0 → parseFieldDescriptor (TJx145de k).2.2.1 = some (tyJx145de k) := by decide +kernel
def RJx8e188 : String := "java/lang/Cloneable"
def TJx8e188 : u_T := fun k => match k with
  | _ => ("", "", "", false)
def tyJx8e188 : Nat → FieldType := fun k => match k with
  | _ => .int
theorem nmJx8e188 : ∀ a, a < 0 → ∀ b, b < 0 → a ≠ b → (TJx8e188 a).2.1 ≠ (TJx8e188 b).2.1 := by decide +kernel
theorem tyJx8e188_ok : ∀ k, k < 0 → parseFieldDescriptor (TJx8e188 k).2.2.1 = some (tyJx8e188 k) := by decide +kernel
def RJ6 : String := "java/lang/Integer"
def TJ6 : u_T := fun k => match k with
  | _ => ("", "", "", false)
def tyJ6 : Nat → FieldType := fun k => match k with
  | _ => .int
theorem nmJ6 : ∀ a, a < 0 → ∀ b, b < 0 → a ≠ b → (TJ6 a).2.1 ≠ (TJ6 b).2.1 := by decide +kernel
theorem tyJ6_ok : ∀ k, k < 0 → parseFieldDescriptor (TJ6 k).2.2.1 = some (tyJ6 k) := by decide +kernel
abbrev cJ6_bitCount_0f7a4 : ByteArray := prog_17_method_49_code
def yJ6_bitCount_0f7a4 : MethodName := ⟨RJ6, "bitCount", "(I)I"⟩
def RJxab1ab : String := "java/lang/Iterable"
def TJxab1ab : u_T := fun k => match k with
  | _ => ("", "", "", false)
def tyJxab1ab : Nat → FieldType := fun k => match k with
  | _ => .int
theorem nmJxab1ab : ∀ a, a < 0 → ∀ b, b < 0 → a ≠ b → (TJxab1ab a).2.1 ≠ (TJxab1ab b).2.1 := by decide +kernel
theorem tyJxab1ab_ok : ∀ k, k < 0 → parseFieldDescriptor (TJxab1ab k).2.2.1 = some (tyJxab1ab k) := by decide +kernel
def RJ9 : String := "java/lang/Math"
def TJ9 : u_T := fun k => match k with
  | _ => ("", "", "", false)
def tyJ9 : Nat → FieldType := fun k => match k with
  | _ => .int
theorem nmJ9 : ∀ a, a < 0 → ∀ b, b < 0 → a ≠ b → (TJ9 a).2.1 ≠ (TJ9 b).2.1 := by decide +kernel
theorem tyJ9_ok : ∀ k, k < 0 → parseFieldDescriptor (TJ9 k).2.2.1 = some (tyJ9 k) := by decide +kernel
abbrev cJ9_max_7cf53 : ByteArray := prog_19_method_65_code
def yJ9_max_7cf53 : MethodName := ⟨RJ9, "max", "(II)I"⟩
abbrev cJ9_min_7cf53 : ByteArray := prog_19_method_69_code
def yJ9_min_7cf53 : MethodName := ⟨RJ9, "min", "(II)I"⟩
def RJ0 : String := "java/lang/String"
def TJ0 : u_T := fun k => match k with
  | _ => ("", "", "", false)
def tyJ0 : Nat → FieldType := fun k => match k with
  | _ => .int
theorem nmJ0 : ∀ a, a < 0 → ∀ b, b < 0 → a ≠ b → (TJ0 a).2.1 ≠ (TJ0 b).2.1 := by decide +kernel
theorem tyJ0_ok : ∀ k, k < 0 → parseFieldDescriptor (TJ0 k).2.2.1 = some (tyJ0 k) := by decide +kernel
abbrev cJ0_length_8abf5 : ByteArray := prog_20_method_54_code
def yJ0_length_8abf5 : MethodName := ⟨RJ0, "length", "()I"⟩
abbrev cJ0_charAt_5068e : ByteArray := prog_20_method_56_code
def yJ0_charAt_5068e : MethodName := ⟨RJ0, "charAt", "(I)C"⟩
abbrev cJ0_coder_7d493 : ByteArray := prog_20_method_152_code
def yJ0_coder_7d493 : MethodName := ⟨RJ0, "coder", "()B"⟩
abbrev cJ0_isLatin1_aae02 : ByteArray := prog_20_method_154_code
def yJ0_isLatin1_aae02 : MethodName := ⟨RJ0, "isLatin1", "()Z"⟩
abbrev cJ0_checkIndex_df160 : ByteArray := prog_20_method_155_code
def yJ0_checkIndex_df160 : MethodName := ⟨RJ0, "checkIndex", "(II)V"⟩
def RJ1 : String := "java/lang/StringLatin1"
def TJ1 : u_T := fun k => match k with
  | _ => ("", "", "", false)
def tyJ1 : Nat → FieldType := fun k => match k with
  | _ => .int
theorem nmJ1 : ∀ a, a < 0 → ∀ b, b < 0 → a ≠ b → (TJ1 a).2.1 ≠ (TJ1 b).2.1 := by decide +kernel
theorem tyJ1_ok : ∀ k, k < 0 → parseFieldDescriptor (TJ1 k).2.2.1 = some (tyJ1 k) := by decide +kernel
abbrev cJ1_charAt_3b067 : ByteArray := prog_21_method_2_code
def yJ1_charAt_3b067 : MethodName := ⟨RJ1, "charAt", "([BI)C"⟩
def RJ2 : String := "java/lang/StringUTF16"
def TJ2 : u_T := fun k => match k with
  | _ => ("", "", "", false)
def tyJ2 : Nat → FieldType := fun k => match k with
  | _ => .int
theorem nmJ2 : ∀ a, a < 0 → ∀ b, b < 0 → a ≠ b → (TJ2 a).2.1 ≠ (TJ2 b).2.1 := by decide +kernel
theorem tyJ2_ok : ∀ k, k < 0 → parseFieldDescriptor (TJ2 k).2.2.1 = some (tyJ2 k) := by decide +kernel
abbrev cJ2_getChar_3b067 : ByteArray := prog_22_method_5_code
def yJ2_getChar_3b067 : MethodName := ⟨RJ2, "getChar", "([BI)C"⟩
abbrev cJ2_length_9d52b : ByteArray := prog_22_method_6_code
def yJ2_length_9d52b : MethodName := ⟨RJ2, "length", "([B)I"⟩
abbrev cJ2_charAt_3b067 : ByteArray := prog_22_method_83_code
def yJ2_charAt_3b067 : MethodName := ⟨RJ2, "charAt", "([BI)C"⟩
abbrev cJ2_checkIndex_2214a : ByteArray := prog_22_method_91_code
def yJ2_checkIndex_2214a : MethodName := ⟨RJ2, "checkIndex", "(I[B)V"⟩
def RJ10 : String := "java/lang/System"
def TJ10 : u_T := fun k => match k with
  | _ => ("", "", "", false)
def tyJ10 : Nat → FieldType := fun k => match k with
  | _ => .int
theorem nmJ10 : ∀ a, a < 0 → ∀ b, b < 0 → a ≠ b → (TJ10 a).2.1 ≠ (TJ10 b).2.1 := by decide +kernel
theorem tyJ10_ok : ∀ k, k < 0 → parseFieldDescriptor (TJ10 k).2.2.1 = some (tyJ10 k) := by decide +kernel
def RJxa1e45 : String := "java/util/AbstractCollection"
def TJxa1e45 : u_T := fun k => match k with
  | _ => ("", "", "", false)
def tyJxa1e45 : Nat → FieldType := fun k => match k with
  | _ => .int
theorem nmJxa1e45 : ∀ a, a < 0 → ∀ b, b < 0 → a ≠ b → (TJxa1e45 a).2.1 ≠ (TJxa1e45 b).2.1 := by decide +kernel
theorem tyJxa1e45_ok : ∀ k, k < 0 → parseFieldDescriptor (TJxa1e45 k).2.2.1 = some (tyJxa1e45 k) := by decide +kernel
abbrev cJxa1e45_init_da8c8 : ByteArray := prog_24_method_1_code
def yJxa1e45_init_da8c8 : MethodName := ⟨RJxa1e45, "<init>", "()V"⟩
def RJxc12de : String := "java/util/AbstractList"
def TJxc12de : u_T := fun k => match k with
  | _ => ("", "", "", false)
def tyJxc12de : Nat → FieldType := fun k => match k with
  | _ => .int
theorem nmJxc12de : ∀ a, a < 0 → ∀ b, b < 0 → a ≠ b → (TJxc12de a).2.1 ≠ (TJxc12de b).2.1 := by decide +kernel
theorem tyJxc12de_ok : ∀ k, k < 0 → parseFieldDescriptor (TJxc12de k).2.2.1 = some (tyJxc12de k) := by decide +kernel
abbrev cJxc12de_init_da8c8 : ByteArray := prog_25_method_1_code
def yJxc12de_init_da8c8 : MethodName := ⟨RJxc12de, "<init>", "()V"⟩
def RJx4a65c : String := "java/util/ArrayList"
def TJx4a65c : u_T := fun k => match k with
  | 0 => ("java/util/AbstractList", "modCount", "I", false)
  | 1 => ("java/util/ArrayList", "elementData", "[Ljava/lang/Object;", false)
  | _ => ("java/util/ArrayList", "size", "I", false)
def tyJx4a65c : Nat → FieldType := fun k => match k with
  | 0 => .int
  | 1 => .array (.object "java/lang/Object")
  | _ => .int
theorem nmJx4a65c : ∀ a, a < 3 → ∀ b, b < 3 → a ≠ b → (TJx4a65c a).2.1 ≠ (TJx4a65c b).2.1 := by decide +kernel
theorem tyJx4a65c_ok : ∀ k, k < 3 → parseFieldDescriptor (TJx4a65c k).2.2.1 = some (tyJx4a65c k) := by decide +kernel
abbrev cJx4a65c_init_da8c8 : ByteArray := prog_26_method_2_code
def yJx4a65c_init_da8c8 : MethodName := ⟨RJx4a65c, "<init>", "()V"⟩
abbrev cJx4a65c_grow_92f84 : ByteArray := prog_26_method_6_code
def yJx4a65c_grow_92f84 : MethodName := ⟨RJx4a65c, "grow", "(I)[Ljava/lang/Object;"⟩
abbrev cJx4a65c_grow_d5877 : ByteArray := prog_26_method_7_code
def yJx4a65c_grow_d5877 : MethodName := ⟨RJx4a65c, "grow", "()[Ljava/lang/Object;"⟩
abbrev cJx4a65c_size_8abf5 : ByteArray := prog_26_method_8_code
def yJx4a65c_size_8abf5 : MethodName := ⟨RJx4a65c, "size", "()I"⟩
abbrev cJx4a65c_elementData_915e3 : ByteArray := prog_26_method_18_code
def yJx4a65c_elementData_915e3 : MethodName := ⟨RJx4a65c, "elementData", "(I)Ljava/lang/Object;"⟩
abbrev cJx4a65c_get_915e3 : ByteArray := prog_26_method_20_code
def yJx4a65c_get_915e3 : MethodName := ⟨RJx4a65c, "get", "(I)Ljava/lang/Object;"⟩
abbrev cJx4a65c_add_72be8 : ByteArray := prog_26_method_24_code
def yJx4a65c_add_72be8 : MethodName := ⟨RJx4a65c, "add", "(Ljava/lang/Object;[Ljava/lang/Object;I)V"⟩
abbrev cJx4a65c_add_9ea2d : ByteArray := prog_26_method_25_code
def yJx4a65c_add_9ea2d : MethodName := ⟨RJx4a65c, "add", "(Ljava/lang/Object;)Z"⟩
def RJ7 : String := "java/util/Arrays"
def TJ7 : u_T := fun k => match k with
  | _ => ("", "", "", false)
def tyJ7 : Nat → FieldType := fun k => match k with
  | _ => .int
theorem nmJ7 : ∀ a, a < 0 → ∀ b, b < 0 → a ≠ b → (TJ7 a).2.1 ≠ (TJ7 b).2.1 := by decide +kernel
theorem tyJ7_ok : ∀ k, k < 0 → parseFieldDescriptor (TJ7 k).2.2.1 = some (tyJ7 k) := by decide +kernel
abbrev cJ7_copyOf_1904c : ByteArray := prog_27_method_119_code
def yJ7_copyOf_1904c : MethodName := ⟨RJ7, "copyOf", "([Ljava/lang/Object;I)[Ljava/lang/Object;"⟩
abbrev cJ7_copyOf_6403c : ByteArray := prog_27_method_120_code
def yJ7_copyOf_6403c : MethodName := ⟨RJ7, "copyOf", "([Ljava/lang/Object;ILjava/lang/Class;)[Ljava/lang/Object;"⟩
def RJx5ef63 : String := "java/util/Collection"
def TJx5ef63 : u_T := fun k => match k with
  | _ => ("", "", "", false)
def tyJx5ef63 : Nat → FieldType := fun k => match k with
  | _ => .int
theorem nmJx5ef63 : ∀ a, a < 0 → ∀ b, b < 0 → a ≠ b → (TJx5ef63 a).2.1 ≠ (TJx5ef63 b).2.1 := by decide +kernel
theorem tyJx5ef63_ok : ∀ k, k < 0 → parseFieldDescriptor (TJx5ef63 k).2.2.1 = some (tyJx5ef63 k) := by decide +kernel
def RJxbd725 : String := "java/util/List"
def TJxbd725 : u_T := fun k => match k with
  | _ => ("", "", "", false)
def tyJxbd725 : Nat → FieldType := fun k => match k with
  | _ => .int
theorem nmJxbd725 : ∀ a, a < 0 → ∀ b, b < 0 → a ≠ b → (TJxbd725 a).2.1 ≠ (TJxbd725 b).2.1 := by decide +kernel
theorem tyJxbd725_ok : ∀ k, k < 0 → parseFieldDescriptor (TJxbd725 k).2.2.1 = some (tyJxbd725 k) := by decide +kernel
def RJ15 : String := "java/util/Objects"
def TJ15 : u_T := fun k => match k with
  | _ => ("", "", "", false)
def tyJ15 : Nat → FieldType := fun k => match k with
  | _ => .int
theorem nmJ15 : ∀ a, a < 0 → ∀ b, b < 0 → a ≠ b → (TJ15 a).2.1 ≠ (TJ15 b).2.1 := by decide +kernel
theorem tyJ15_ok : ∀ k, k < 0 → parseFieldDescriptor (TJ15 k).2.2.1 = some (tyJ15 k) := by decide +kernel
abbrev cJ15_checkIndex_7cf53 : ByteArray := prog_30_method_17_code
def yJ15_checkIndex_7cf53 : MethodName := ⟨RJ15, "checkIndex", "(II)I"⟩
def RJxf0a74 : String := "java/util/RandomAccess"
def TJxf0a74 : u_T := fun k => match k with
  | _ => ("", "", "", false)
def tyJxf0a74 : Nat → FieldType := fun k => match k with
  | _ => .int
theorem nmJxf0a74 : ∀ a, a < 0 → ∀ b, b < 0 → a ≠ b → (TJxf0a74 a).2.1 ≠ (TJxf0a74 b).2.1 := by decide +kernel
theorem tyJxf0a74_ok : ∀ k, k < 0 → parseFieldDescriptor (TJxf0a74 k).2.2.1 = some (tyJxf0a74 k) := by decide +kernel
def RJxa66e6 : String := "java/util/SequencedCollection"
def TJxa66e6 : u_T := fun k => match k with
  | _ => ("", "", "", false)
def tyJxa66e6 : Nat → FieldType := fun k => match k with
  | _ => .int
theorem nmJxa66e6 : ∀ a, a < 0 → ∀ b, b < 0 → a ≠ b → (TJxa66e6 a).2.1 ≠ (TJxa66e6 b).2.1 := by decide +kernel
theorem tyJxa66e6_ok : ∀ k, k < 0 → parseFieldDescriptor (TJxa66e6 k).2.2.1 = some (tyJxa66e6 k) := by decide +kernel
def RJ8 : String := "jdk/internal/util/ArraysSupport"
def TJ8 : u_T := fun k => match k with
  | _ => ("", "", "", false)
def tyJ8 : Nat → FieldType := fun k => match k with
  | _ => .int
theorem nmJ8 : ∀ a, a < 0 → ∀ b, b < 0 → a ≠ b → (TJ8 a).2.1 ≠ (TJ8 b).2.1 := by decide +kernel
theorem tyJ8_ok : ∀ k, k < 0 → parseFieldDescriptor (TJ8 k).2.2.1 = some (tyJ8 k) := by decide +kernel
abbrev cJ8_newLength_cabcc : ByteArray := prog_33_method_27_code
def yJ8_newLength_cabcc : MethodName := ⟨RJ8, "newLength", "(III)I"⟩
abbrev cJ8_hugeLength_7cf53 : ByteArray := prog_33_method_28_code
def yJ8_hugeLength_7cf53 : MethodName := ⟨RJ8, "hugeLength", "(II)I"⟩
def RJ3 : String := "jdk/internal/util/Preconditions"
def TJ3 : u_T := fun k => match k with
  | _ => ("", "", "", false)
def tyJ3 : Nat → FieldType := fun k => match k with
  | _ => .int
theorem nmJ3 : ∀ a, a < 0 → ∀ b, b < 0 → a ≠ b → (TJ3 a).2.1 ≠ (TJ3 b).2.1 := by decide +kernel
theorem tyJ3_ok : ∀ k, k < 0 → parseFieldDescriptor (TJ3 k).2.2.1 = some (tyJ3 k) := by decide +kernel
abbrev cJ3_checkIndex_8e157 : ByteArray := prog_34_method_11_code
def yJ3_checkIndex_8e157 : MethodName := ⟨RJ3, "checkIndex", "(IILjava/util/function/BiFunction;)I"⟩
def RL : String := "StockYardLaw"
abbrev cL_law : ByteArray := code
def yL_law : MethodName := ⟨RL, "law", "([I)Z"⟩
end
section
/-! abstract values, worlds: a cell is (tag, number of its kind); ints and references by place; how many of a tag there are; an array's length -/
abbrev AV : Type := Int32 ⊕ (Int64 ⊕ Option (Nat × Nat))
abbrev Wd : Type := (Nat → Nat → Nat → Int32) × ((Nat → Nat → Nat → Option (Nat × Nat)) × ((Nat → Nat) × (Nat → Nat → Nat)))
def wI (w : Wd) : Nat → Nat → Nat → Int32 := w.1
def wR (w : Wd) : Nat → Nat → Nat → Option (Nat × Nat) := w.2.1
def wC (w : Wd) : Nat → Nat := w.2.2.1
def wN (w : Wd) : Nat → Nat → Nat := w.2.2.2
def sI (w : Wd) (t k i : Nat) (v : Int32) : Wd := (fun t' k' i' => if t' = t ∧ k' = k ∧ i' = i then v else w.1 t' k' i', w.2)
def sR (w : Wd) (t k i : Nat) (v : Option (Nat × Nat)) : Wd := (w.1, fun t' k' i' => if t' = t ∧ k' = k ∧ i' = i then v else w.2.1 t' k' i', w.2.2)
def nC (w : Wd) (t n : Nat) : Wd := (fun t' k' i' => if t' = t ∧ k' = w.2.2.1 t then 0 else w.1 t' k' i', fun t' k' i' => if t' = t ∧ k' = w.2.2.1 t then none else w.2.1 t' k' i', fun t' => if t' = t then w.2.2.1 t + 1 else w.2.2.1 t', fun t' k' => if t' = t ∧ k' = w.2.2.1 t then n else w.2.2.2 t' k')
theorem wI_sI (w : Wd) (t k i : Nat) (v : Int32) (t' k' i' : Nat) : wI (sI w t k i v) t' k' i' = if t' = t ∧ k' = k ∧ i' = i then v else wI w t' k' i' := rfl
theorem wR_sI (w : Wd) (t k i : Nat) (v : Int32) : wR (sI w t k i v) = wR w := rfl
theorem wC_sI (w : Wd) (t k i : Nat) (v : Int32) : wC (sI w t k i v) = wC w := rfl
theorem wN_sI (w : Wd) (t k i : Nat) (v : Int32) : wN (sI w t k i v) = wN w := rfl
theorem wR_sR (w : Wd) (t k i : Nat) (v : Option (Nat × Nat)) (t' k' i' : Nat) : wR (sR w t k i v) t' k' i' = if t' = t ∧ k' = k ∧ i' = i then v else wR w t' k' i' := rfl
theorem wI_sR (w : Wd) (t k i : Nat) (v : Option (Nat × Nat)) : wI (sR w t k i v) = wI w := rfl
theorem wC_sR (w : Wd) (t k i : Nat) (v : Option (Nat × Nat)) : wC (sR w t k i v) = wC w := rfl
theorem wN_sR (w : Wd) (t k i : Nat) (v : Option (Nat × Nat)) : wN (sR w t k i v) = wN w := rfl
theorem wI_nC (w : Wd) (t n : Nat) (t' k' i' : Nat) : wI (nC w t n) t' k' i' = if t' = t ∧ k' = wC w t then 0 else wI w t' k' i' := rfl
theorem wR_nC (w : Wd) (t n : Nat) (t' k' i' : Nat) : wR (nC w t n) t' k' i' = if t' = t ∧ k' = wC w t then none else wR w t' k' i' := rfl
theorem wC_nC (w : Wd) (t n : Nat) (t' : Nat) : wC (nC w t n) t' = if t' = t then wC w t + 1 else wC w t' := rfl
theorem wN_nC (w : Wd) (t n : Nat) (t' k' : Nat) : wN (nC w t n) t' k' = if t' = t ∧ k' = wC w t then n else wN w t' k' := rfl
/-! the classes, by their tags -/
abbrev cls : List vw_C := [(RX11, TX11, 10), (RX10, TX10, 5), (RJx4a65c, TJx4a65c, 3), (RX8, TX8, 3), (RX6, TX6, 1), (RX2, TX2, 3), (RX3, TX3, 15), (RX4, TX4, 3), (RX9, TX9, 4), (RX0, TX0, 5), (RX1, TX1, 11), (RX7, TX7, 11), (RX5, TX5, 9), (RX12, TX12, 69)]
def clsN : Nat → String × u_T × Nat := fun c => (cls[c]?).getD ("", TX11, 0)
def cTy (c : Nat) : Nat → FieldType := match c with
  | 0 => tyX11 | 1 => tyX10 | 2 => tyJx4a65c | 3 => tyX8 | 4 => tyX6 | 5 => tyX2 | 6 => tyX3 | 7 => tyX4 | 8 => tyX9 | 9 => tyX0 | 10 => tyX1 | 11 => tyX7 | 12 => tyX5 | _ => tyX12
def rTy : FieldType → Bool
  | .object _ => true
  | .array _ => true
  | _ => false
def ak (t : Nat) : Nat := if t < 200 then 0 else if t < 300 then 1 else if t = 300 then 2 else if t = 301 then 3 else 4
def eTk (a : Nat) : FieldType := match a with
  | 0 => .int | 1 => .boolean | 2 => .object "java/lang/Object" | 3 => .object "StockYard$Way" | _ => .array .int
def eTy (t : Nat) : FieldType := eTk (ak t)
def rp (t i : Nat) : Bool := if t < 20 then rTy (cTy t i) else rTy (eTy t)
/-- the launch's own numbers: classes, slots, array classes, the heap at the start, what stands outside the world, the script -/
abbrev Gc : Type := (Nat → ClassId) × ((Nat → Nat → Nat) × ((Nat → ClassId) × (Heap × ((Nat → Nat → Nat) × (Nat × (Nat → Int32))))))
def gC (G : Gc) : Nat → ClassId := G.1
def gI (G : Gc) : Nat → Nat → Nat := G.2.1
def gA (G : Gc) : Nat → ClassId := G.2.2.1
def gH (G : Gc) : Heap := G.2.2.2.1
def gX (G : Gc) : Nat → Nat → Nat := G.2.2.2.2.1
def gL (G : Gc) : Nat := G.2.2.2.2.2.1
def gS (G : Gc) : Nat → Int32 := G.2.2.2.2.2.2
def n0 (G : Gc) : Nat := (gH G).size
abbrev tysG (G : Gc) : List (ClassId × FieldType) := [(gA G 0, eTk 0), (gA G 1, eTk 1), (gA G 2, eTk 2), (gA G 3, eTk 3), (gA G 4, eTk 4)]
def renR (ad : Nat → Nat → Nat) : Option (Nat × Nat) → Value
  | none => .null
  | some q => .ref (ad q.1 q.2)
def renV (ad : Nat → Nat → Nat) : AV → Value
  | .inl x => .int x
  | .inr (.inl x) => .long x
  | .inr (.inr r) => renR ad r
def vAt (ad : Nat → Nat → Nat) (w : Wd) (t k i : Nat) : Value := if rp t i = true then renR ad (wR w t k i) else .int (wI w t k i)
def cOk (G : Gc) (t a n : Nat) (V : Nat → Value) (H : Heap) : Prop :=
  if t < 20 then ∃ r : vw_C, cls[t]? = some r ∧ t_OB a (gC G t) r.2.2 (gI G t) H V else H[a]? = some (arrV (gA G (ak t)) n V)
def clq (w : Wd) (q : Nat × Nat) : Prop := 900 ≤ q.1 ∨ q.2 < wC w q.1
def clV (w : Wd) : AV → Prop
  | .inr (.inr (some q)) => clq w q
  | _ => True
def Rel (G : Gc) (ad : Nat → Nat → Nat) (w : Wd) (H : Heap) : Prop :=
  (∀ t k, t < 900 → k < wC w t → cOk G t (ad t k) (wN w t k) (vAt ad w t k) H ∧ n0 G ≤ ad t k) ∧
  (∀ t k t' k', t < 900 → t' < 900 → k < wC w t → k' < wC w t' → ad t k = ad t' k' → t = t' ∧ k = k') ∧
  (∀ t k i q, k < wC w t → wR w t k i = some q → clq w q) ∧
  (∀ t k, 900 ≤ t → ad t k = gX G t k) ∧ n0 G ≤ H.size ∧ ∀ q, q < n0 G → H[q]? = (gH G)[q]?
/-! strings of the tape -/
def sLen : List Nat := [4, 3, 5, 3, 4, 5, 5, 6, 5, 4, 4]
def sByt : List (List Int32) := [[100, 111, 99, 107], [102, 101, 101], [119, 97, 116, 101, 114], [98, 97, 114], [107, 105, 110, 100], [111, 119, 110, 101, 114], [104, 101, 97, 100, 115], [116, 104, 105, 114, 115, 116], [98, 117, 121, 101, 114], [32, 105, 102, 32], [32, 111, 114, 32]]
def nestW : List Cond := lw_tbl.filter (fun w => match w with | .methodLinkNest .. => true | _ => false)
abbrev gOut (G : Gc) : Nat → Prop := fun q => n0 G ≤ q
def goodT : List Cond := lw_tbl.filter goodWord
def sKey : List Nat := [83, 85, 87, 89, 91, 93, 95, 97, 99, 42, 55]
def sTxt : List String := ["dock", "fee", "water", "bar", "kind", "owner", "heads", "thirst", "buyer", " if ", " or "]
/-- what stands outside the world, and never changes -/
def Ext (G : Gc) (U : State) : Prop :=
  va_Z "java/util/ArrayList" "DEFAULTCAPACITY_EMPTY_ELEMENTDATA" "[Ljava/lang/Object;" (.ref (gX G 900 0)) (gOut G) U (gH G) ∧
  va_T (.object "java/lang/Object") (gX G 900 0) 0 (fun _ => .null) (gOut G) U (gH G) ∧
  va_Z "java/lang/String" "COMPACT_STRINGS" "Z" (.int 1) (gOut G) U (gH G) ∧
  vk_S 11 sLen sByt (gX G 902) (gX G 903) (gOut G) U (gH G) ∧
  (∀ i : Nat, i < 11 → vk_R "StockYard$Tape" (sKey.getD i 0) (sTxt.getD i "") (gX G 902 i) U) ∧
  va_Mi "[Ljava/lang/Object;" (gX G 904 0) U ∧ va_Dc U ∧ va_AO "java/lang/Object" U ∧ va_AO "StockYard$Way" U ∧
  va_X (gX G 901 0) (gL G) (gS G) U (gH G)
theorem Ext.warm {G : Gc} {s U : State} (hW : s.WarmedH U.vm) (h : Ext G s) : Ext G U := by
  obtain ⟨h1, h2, h3, h4, h5, h6, h7, h8, h9, h10⟩ := h
  exact ⟨h1.moved hW.alike, h2.moved hW.alike, h3.moved hW.alike, h4.moved hW.alike, fun i hi => (h5 i hi).warm hW, h6.moved hW.alike, h7.moved hW.alike, h8.moved hW.alike, h9.moved hW.alike, h10.moved hW.alike⟩
def KK (G : Gc) (U : State) : Prop := va_K (gC G, gI G) cls (tysG G) U ∧ (∀ w ∈ nestW, va_Nw w U) ∧ Ext G U
theorem nestW_spec {w : Cond} (h : w ∈ nestW) : ∃ a i x b, w = .methodLinkNest a i x b := by
  have h2 := (List.mem_filter.mp h).2
  cases w <;> first | exact ⟨_, _, _, _, rfl⟩ | (simp at h2)
theorem KK.warm {G : Gc} {s U : State} (hW : s.WarmedH U.vm) (h : KK G s) : KK G U := by
  refine ⟨h.1.moved hW.alike, fun w hw => ?_, h.2.2.warm hW⟩
  obtain ⟨a, i, x, b, rfl⟩ := nestW_spec hw
  exact va_Nw.warmM hW (h.2.1 _ hw)
theorem KK.same {G : Gc} {s U : State} (hv : s.vm = U.vm) (h : KK G s) : KK G U := KK.warm (by rw [← hv]; exact State.WarmedH.refl s) h
/-! methods -/
abbrev MI : Type := String × (MethodName × (ByteArray × (Nat × Option FieldType)))
def mOwn (M : MI) : String := M.1
def mY (M : MI) : MethodName := M.2.1
def mB (M : MI) : ByteArray := M.2.2.1
def mL (M : MI) : Nat := M.2.2.2.1
def mR (M : MI) : Option FieldType := M.2.2.2.2
def wsY (M : MI) : List Cond := .code (mY M) (mB M) (mL M) (mR M) :: goodT
def rml (n mc ms : Nat) : Room := { frames := n, cells := mc, slots := ms, locals := 40 * n }
def Exd (ad0 : Nat → Nat → Nat) (w0 : Wd) (ad : Nat → Nat → Nat) (w : Wd) : Prop := (∀ t k, k < wC w0 t → ad t k = ad0 t k) ∧ ∀ t, wC w0 t ≤ wC w t
def SemPc (G : Gc) (ad : Nat → Nat → Nat) (as : List AV) (w : Wd) : Array Value → State → Prop := fun v U => v = (as.map (renV ad)).toArray ∧ Rel G ad w U.heap ∧ KK G U ∧ ∀ a ∈ as, clV w a
def SemQc (G : Gc) (ad : Nat → Nat → Nat) (w : Wd) (Q : Option AV → Wd → Prop) : Array Value → State → Outcome → State → Prop := fun _ _ o t =>
  ∃ (r : Option AV) (w' : Wd) (ad' : Nat → Nat → Nat), o = .returned (r.map (renV ad')) ∧ Rel G ad' w' t.heap ∧ Exd ad w ad' w' ∧ (∀ a, r = some a → clV w' a) ∧ Q r w'
/-- the method, called with these values in this world, comes back with Q -/
def Sem (l : Launch) (G : Gc) (M : MI) (n mc ms : Nat) (as : List AV) (w : Wd) (Q : Option AV → Wd → Prop) : Prop :=
  ∀ ad, Met l (mY M) (wsY M) (rml n mc ms) (SemPc G ad as w) (SemQc G ad w Q) mc ms (gOut G)
theorem Sem.mono {l : Launch} {G : Gc} {M : MI} {n mc ms : Nat} {as : List AV} {w : Wd} {Q Q' : Option AV → Wd → Prop} (h : Sem l G M n mc ms as w Q) (hq : ∀ r w', Q r w' → Q' r w') : Sem l G M n mc ms as w Q' := by
  intro ad p e h1 h2 h3 s m args below hf ha hP hT
  obtain ⟨k, o, g1, g2, g3, ⟨r, w', ad', q1, q2, q3, q4, q5⟩, g5⟩ := h ad p e h1 h2 h3 s m args below hf ha hP hT
  exact ⟨k, o, g1, g2, g3, ⟨r, w', ad', q1, q2, q3, q4, hq r w' q5⟩, g5⟩
/-! locals -/
def lg : List (Option AV) → Nat → Option AV
  | [], _ => none
  | a :: _, 0 => a
  | _ :: l, n + 1 => lg l n
def lset : List (Option AV) → Nat → Option AV → List (Option AV)
  | [], _, _ => []
  | _ :: l, 0, v => v :: l
  | a :: l, n + 1, v => a :: lset l n v
def isL : Option AV → Bool
  | some (.inr (.inl _)) => true
  | _ => false
def kil (L : List (Option AV)) : Nat → List (Option AV)
  | 0 => L
  | i + 1 => if isL (lg L i) = true then lset L i none else L
def st1 (L : List (Option AV)) (i : Nat) (v : AV) : List (Option AV) := lset (kil L i) i (some v)
def st2 (L : List (Option AV)) (i : Nat) (v : AV) : List (Option AV) := lset (lset (kil L i) i (some v)) (i + 1) none
theorem lset_len : ∀ (L : List (Option AV)) (i : Nat) (v : Option AV), (lset L i v).length = L.length
  | [], _, _ => rfl
  | _ :: _, 0, _ => rfl
  | _ :: l, n + 1, v => congrArg (· + 1) (lset_len l n v)
theorem lg_lset : ∀ (L : List (Option AV)) (i : Nat) (v : Option AV) (j : Nat), lg (lset L i v) j = if j = i ∧ j < L.length then v else lg L j
  | [], _, _, j => by simp [lset, lg]
  | a :: l, 0, v, j => by cases j <;> simp [lset, lg]
  | a :: l, n + 1, v, 0 => by simp [lset, lg]
  | a :: l, n + 1, v, j + 1 => by simp [lset, lg, lg_lset l n v j]
theorem lg_lt : ∀ {L : List (Option AV)} {i : Nat} {v : AV}, lg L i = some v → i < L.length
  | [], _, _, h => by simp [lg] at h
  | _ :: _, 0, _, _ => by simp
  | _ :: l, n + 1, v, h => by have := lg_lt (L := l) (i := n) h; simp; omega
theorem kil_len (L : List (Option AV)) (i : Nat) : (kil L i).length = L.length := by
  cases i with
  | zero => rfl
  | succ i => simp only [kil]; split <;> simp [lset_len]
theorem lg_kil {L : List (Option AV)} {i j : Nat} {v : AV} (h : lg (kil L i) j = some v) : lg L j = some v ∧ (j + 1 = i → isL (some v) = false) := by
  cases i with
  | zero => exact ⟨h, by omega⟩
  | succ i =>
    simp only [kil] at h
    split at h
    · rw [lg_lset] at h
      split at h
      · cases h
      · rename_i h1 h2
        refine ⟨h, fun e => ?_⟩
        exact absurd ⟨by omega, lg_lt h⟩ h2
    · rename_i h1
      refine ⟨h, fun e => ?_⟩
      have : j = i := by omega
      subst this
      rw [← h]
      simpa using h1
def LsR (ad : Nat → Nat → Nat) (nL : Nat) (L : List (Option AV)) (ls : Array Slot) : Prop := ls.size = nL ∧ L.length = nL ∧ lv_wf ls ∧ ∀ i v, lg L i = some v → ls[i]? = some (.val (renV ad v))
def lpr (ad : Nat → Nat → Nat) (L : List (Option AV)) : List (Nat × Value) := (List.range L.length).filterMap (fun j => (lg L j).map (fun v => (j, renV ad v)))
theorem lpr_mem {ad : Nat → Nat → Nat} {L : List (Option AV)} {j : Nat} {x : Value} : (j, x) ∈ lpr ad L ↔ ∃ v, lg L j = some v ∧ x = renV ad v := by
  simp only [lpr, List.mem_filterMap, List.mem_range, Option.map_eq_some_iff, Prod.mk.injEq]
  constructor
  · rintro ⟨a, ha, v, hv, rfl, rfl⟩
    exact ⟨v, hv, rfl⟩
  · rintro ⟨v, hv, rfl⟩
    exact ⟨j, lg_lt hv, v, hv, rfl, rfl⟩
theorem LsR.has {ad : Nat → Nat → Nat} {nL : Nat} {L : List (Option AV)} {ls : Array Slot} (h : LsR ad nL L ls) : lv_has ls nL (lpr ad L) := by
  refine ⟨h.1, h.2.2.1, fun q hq => ?_⟩
  obtain ⟨v, hv, hx⟩ := lpr_mem.mp (show (q.1, q.2) ∈ lpr ad L from hq)
  rw [hx]
  exact h.2.2.2 _ _ hv
theorem cat_ren (ad : Nat → Nat → Nat) (v : AV) : (renV ad v).category = if isL (some v) = true then 2 else 1 := by
  rcases v with x | x | x
  · rfl
  · rfl
  · cases x <;> rfl
theorem lsr_st1 {ad : Nat → Nat → Nat} {nL : Nat} {L : List (Option AV)} {ls ls' : Array Slot} {i : Nat} {v : AV} (h : LsR ad nL L ls) (hl : lv_has ls' nL ((i, renV ad v) :: (lpr ad L).filter (fun q => !(q.1 == i) && !(q.1 + 1 == i && q.2.category == 2)))) : LsR ad nL (st1 L i v) ls' := by
  refine ⟨hl.1, by rw [st1, lset_len, kil_len]; exact h.2.1, hl.2.1, fun j x hx => ?_⟩
  rw [st1, lg_lset] at hx
  split at hx
  · rename_i hj
    cases hx
    rw [hj.1]
    exact hl.2.2 _ List.mem_cons_self
  · rename_i hj
    obtain ⟨h1, h2⟩ := lg_kil hx
    have hji : j ≠ i := fun e => hj ⟨e, by rw [kil_len]; exact lg_lt h1⟩
    refine hl.2.2 (j, renV ad x) (List.mem_cons_of_mem _ (List.mem_filter.mpr ⟨lpr_mem.mpr ⟨x, h1, rfl⟩, ?_⟩))
    by_cases e : j + 1 = i
    · simp [hji, cat_ren, h2 e]
    · simp [hji, e]
theorem lsr_st2 {ad : Nat → Nat → Nat} {nL : Nat} {L : List (Option AV)} {ls ls' : Array Slot} {i : Nat} {v : AV} (h : LsR ad nL L ls) (hl : lv_has ls' nL ((i, renV ad v) :: (lpr ad L).filter (fun q => !(q.1 == i) && (!(q.1 == i + 1) && !(q.1 + 1 == i && q.2.category == 2))))) : LsR ad nL (st2 L i v) ls' := by
  refine ⟨hl.1, by rw [st2, lset_len, lset_len, kil_len]; exact h.2.1, hl.2.1, fun j x hx => ?_⟩
  rw [st2, lg_lset] at hx
  split at hx
  · cases hx
  · rename_i hj1
    rw [lset_len, kil_len] at hj1
    rw [lg_lset] at hx
    split at hx
    · rename_i hj
      cases hx
      rw [hj.1]
      exact hl.2.2 _ List.mem_cons_self
    · rename_i hj
      obtain ⟨h1, h2⟩ := lg_kil hx
      have hji : j ≠ i := fun e => hj ⟨e, by rw [kil_len]; exact lg_lt h1⟩
      have hji1 : j ≠ i + 1 := fun e => hj1 ⟨e, lg_lt h1⟩
      refine hl.2.2 (j, renV ad x) (List.mem_cons_of_mem _ (List.mem_filter.mpr ⟨lpr_mem.mpr ⟨x, h1, rfl⟩, ?_⟩))
      by_cases e : j + 1 = i
      · simp [hji, hji1, cat_ren, h2 e]
      · simp [hji, hji1, e]
end
section
/-! the abstract machine: WP, and one instruction of it (stp) -/
/-- what holds of a method's frame -/
def Fx (G : Gc) (M : MI) (p : Program) (s : State) (m : MethodId) (args : Array Value) (meth : Method) (c : Code) : Prop :=
  p.tables.exec = Jvm.exec ∧ c.code = mB M ∧ meth.sig.returnType = mR M ∧ c.maxLocals = mL M ∧ s.vm.findClass (mOwn M) = some m.cls ∧ (∀ w ∈ goodT, w.before args s = true) ∧ KK G s ∧ meth.locks = false ∧ meth.name = (mY M).name
def nar (ret : Option FieldType) (v : Int32) : Prop := match ret with
  | some .int => True
  | some .boolean => v = 0 ∨ v = 1
  | some .char => 0 ≤ v ∧ v ≤ 255
  | some .byte => v = 0
  | _ => False
def retI (M : MI) (pc : Nat) (r : Option AV) : Prop :=
  (∃ v, r = some (.inl v) ∧ decode (mB M) pc = .ok (.ireturn, 1) ∧ nar (mR M) v) ∨ (∃ v, r = some (.inr (.inl v)) ∧ decode (mB M) pc = .ok (.lreturn, 1) ∧ mR M = some .long) ∨
  (∃ v, r = some (.inr (.inr v)) ∧ decode (mB M) pc = .ok (.areturn, 1) ∧ ∃ ty, mR M = some ty ∧ rTy ty = true) ∨ (r = none ∧ decode (mB M) pc = .ok (.return_, 1) ∧ mR M = none)
def locsOk (G : Gc) (locs : List Loc) : Prop := ∀ q ∈ locs, gOut G q.base
def clL (w : Wd) (L : List (Option AV)) : Prop := ∀ i v, lg L i = some v → clV w v
def clS (w : Wd) (S : List AV) : Prop := ∀ v ∈ S, clV w v
def WP (l : Launch) (G : Gc) (M : MI) (n mc ms : Nat) (Q : Option AV → Wd → Prop) (pc : Nat) (L : List (Option AV)) (S : List AV) (w : Wd) (cu su : Nat) : Prop :=
  ∀ (p : Program) (e : Env) (s : State) (m : MethodId) (args : Array Value) (below : List Frame) (meth : Method) (c : Code) (Z : State → Prop) (ad0 : Nat → Nat → Nat) (w0 : Wd), Fx G M p s m args meth c →
    (∀ r w' ad' H' locs' pc' ls' cu' su', Q r w' → Rel G ad' w' H' → Exd ad0 w0 ad' w' → (∀ a, r = some a → clV w' a) → locsOk G locs' → cu' ≤ mc → su' ≤ ms → retI M pc' r → W p l e (rml n mc ms) s m args below meth c H' locs' cu' su' Z (F0 m pc' ls' (r.toList.map (renV ad')))) →
    ∀ (ad : Nat → Nat → Nat) (H : Heap) (locs : List Loc) (ls : Array Slot), Rel G ad w H → Exd ad0 w0 ad w → LsR ad (mL M) L ls → clL w L → clS w S → locsOk G locs → cu ≤ mc → su ≤ ms →
    W p l e (rml n mc ms) s m args below meth c H locs cu su Z (F0 m pc ls (S.map (renV ad)))
/-! constants of a class: fields, callees, numbers, casts -/
def alk {α : Type} : List (Nat × α) → Nat → Option α
  | [], _ => none
  | (a, b) :: l, k => if a = k then some b else alk l k
theorem alk_mem {α : Type} {l : List (Nat × α)} {k : Nat} {b : α} (h : alk l k = some b) : (k, b) ∈ l := by
  induction l with
  | nil => cases h
  | cons q l ih =>
    obtain ⟨a, c⟩ := q
    simp only [alk] at h
    split at h
    · rename_i e
      cases h
      rw [e]
      exact List.mem_cons_self
    · exact List.mem_cons_of_mem _ (ih h)
/-- a callee: the method, its parameters, the kind of the call (0 virtual, 1 static, 2 a constructor; 3, 4, 5 the same of a nest mate), its exact working where it is known -/
abbrev Cal : Type := MI × (Nat × Nat)
abbrev CE : Type := (Nat → Option (Nat × Nat)) × ((Nat → Option Cal) × ((Nat → Option AV) × (Nat → Option Nat)))
def ceF (C : CE) : Nat → Option (Nat × Nat) := C.1
def ceM (C : CE) : Nat → Option Cal := C.2.1
def ceK (C : CE) : Nat → Option AV := C.2.2.1
def ceT (C : CE) : Nat → Option Nat := C.2.2.2
/-- how a callee works, where that is a function: its level, and what it answers -/
abbrev FS : Type := List AV → Wd → Option (Option AV × Wd)
abbrev XE : Type := Nat → Option (Nat × FS)
def spl : Nat → List AV → List AV → Option (List AV × List AV)
  | 0, acc, S => some (acc, S)
  | n + 1, acc, v :: S => spl n (v :: acc) S
  | _ + 1, _, [] => none
def catS : List AV → Nat
  | [] => 0
  | v :: S => (if isL (some v) = true then 2 else 1) + catS S
def jmp (pc : Nat) (off : Int) (K : Nat → Prop) : Prop := 0 ≤ (pc : Int) + off ∧ K ((pc : Int) + off).toNat
/-- a call -/
def cll (l : Launch) (G : Gc) (n mc ms : Nat) (c : Cal) (x : Option (Nat × FS)) (as : List AV) (S : List AV) (w : Wd) (cu su : Nat) (K : List AV → Wd → Prop) (Kc : List AV → Wd → Nat → Nat → Prop) : Prop :=
  catS S ≤ 8 ∧ match x with
  | some (n', f) => n' < n ∧ match f as w with
    | some (r, w') => K (r.toList ++ S) w'
    | none => False
  | none => ∃ n' mc' ms', n' < n ∧ cu + mc' ≤ mc ∧ su + ms' ≤ ms ∧ Sem l G c.1 n' mc' ms' as w (fun r w' => Kc (r.toList ++ S) w' (cu + mc') (su + ms'))
abbrev KT : Type := Nat → List (Option AV) → List AV → Wd → Nat → Nat → Prop
def stp (l : Launch) (G : Gc) (M : MI) (C : CE) (X : XE) (n mc ms : Nat) (Q : Option AV → Wd → Prop) (K Kc : KT) (pc : Nat) (ins : Instr) (L : List (Option AV)) (S : List AV) (w : Wd) (cu su : Nat) : Prop :=
  match ins with
  | .iconst k => K (pc + 1) L (.inl (Int32.ofInt k) :: S) w cu su
  | .bipush k => K (pc + 2) L (.inl (Int8.ofInt k).toInt32 :: S) w cu su
  | .sipush k => K (pc + 3) L (.inl (Int16.ofInt k).toInt32 :: S) w cu su
  | .aconst_null => K (pc + 1) L (.inr (.inr none) :: S) w cu su
  | .iload i => match lg L i with | some (.inl x) => K (pc + 2) L (.inl x :: S) w cu su | _ => False
  | .iload_n i => match lg L i with | some (.inl x) => K (pc + 1) L (.inl x :: S) w cu su | _ => False
  | .lload i => match lg L i with | some (.inr (.inl x)) => K (pc + 2) L (.inr (.inl x) :: S) w cu su | _ => False
  | .lload_n i => match lg L i with | some (.inr (.inl x)) => K (pc + 1) L (.inr (.inl x) :: S) w cu su | _ => False
  | .aload i => match lg L i with | some (.inr (.inr x)) => K (pc + 2) L (.inr (.inr x) :: S) w cu su | _ => False
  | .aload_n i => match lg L i with | some (.inr (.inr x)) => K (pc + 1) L (.inr (.inr x) :: S) w cu su | _ => False
  | .istore i => match S with | .inl x :: S' => i < L.length ∧ K (pc + 2) (st1 L i (.inl x)) S' w cu su | _ => False
  | .istore_n i => match S with | .inl x :: S' => (i : Nat) < L.length ∧ K (pc + 1) (st1 L i (.inl x)) S' w cu su | _ => False
  | .lstore i => match S with | .inr (.inl x) :: S' => i + 1 < L.length ∧ K (pc + 2) (st2 L i (.inr (.inl x))) S' w cu su | _ => False
  | .lstore_n i => match S with | .inr (.inl x) :: S' => (i : Nat) + 1 < L.length ∧ K (pc + 1) (st2 L i (.inr (.inl x))) S' w cu su | _ => False
  | .astore i => match S with | .inr (.inr x) :: S' => i < L.length ∧ K (pc + 2) (st1 L i (.inr (.inr x))) S' w cu su | _ => False
  | .astore_n i => match S with | .inr (.inr x) :: S' => (i : Nat) < L.length ∧ K (pc + 1) (st1 L i (.inr (.inr x))) S' w cu su | _ => False
  | .iinc i k => match lg L i with | some (.inl x) => i < L.length ∧ K (pc + 3) (st1 L i (.inl (x + Int32.ofInt k))) S w cu su | _ => False
  | .iadd => match S with | .inl y :: .inl x :: S' => K (pc + 1) L (.inl (x + y) :: S') w cu su | _ => False
  | .isub => match S with | .inl y :: .inl x :: S' => K (pc + 1) L (.inl (x - y) :: S') w cu su | _ => False
  | .imul => match S with | .inl y :: .inl x :: S' => K (pc + 1) L (.inl (x * y) :: S') w cu su | _ => False
  | .iand => match S with | .inl y :: .inl x :: S' => K (pc + 1) L (.inl (x &&& y) :: S') w cu su | _ => False
  | .ior => match S with | .inl y :: .inl x :: S' => K (pc + 1) L (.inl (x ||| y) :: S') w cu su | _ => False
  | .ixor => match S with | .inl y :: .inl x :: S' => K (pc + 1) L (.inl (x ^^^ y) :: S') w cu su | _ => False
  | .ishl => match S with | .inl y :: .inl x :: S' => K (pc + 1) L (.inl (x <<< (y &&& 31)) :: S') w cu su | _ => False
  | .ishr => match S with | .inl y :: .inl x :: S' => K (pc + 1) L (.inl (x >>> (y &&& 31)) :: S') w cu su | _ => False
  | .iushr => match S with | .inl y :: .inl x :: S' => K (pc + 1) L (.inl (x.toUInt32 >>> (y.toUInt32 &&& Int32.toUInt32 31)).toInt32 :: S') w cu su | _ => False
  | .idiv => match S with | .inl y :: .inl x :: S' => ¬ y = 0 ∧ K (pc + 1) L (.inl (x / y) :: S') w cu su | _ => False
  | .irem => match S with | .inl y :: .inl x :: S' => ¬ y = 0 ∧ K (pc + 1) L (.inl (x - x / y * y) :: S') w cu su | _ => False
  | .ineg => match S with | .inl x :: S' => K (pc + 1) L (.inl (-x) :: S') w cu su | _ => False
  | .ladd => match S with | .inr (.inl y) :: .inr (.inl x) :: S' => K (pc + 1) L (.inr (.inl (x + y)) :: S') w cu su | _ => False
  | .lmul => match S with | .inr (.inl y) :: .inr (.inl x) :: S' => K (pc + 1) L (.inr (.inl (x * y)) :: S') w cu su | _ => False
  | .land => match S with | .inr (.inl y) :: .inr (.inl x) :: S' => K (pc + 1) L (.inr (.inl (x &&& y)) :: S') w cu su | _ => False
  | .ldiv => match S with | .inr (.inl y) :: .inr (.inl x) :: S' => ¬ y = 0 ∧ K (pc + 1) L (.inr (.inl (x / y)) :: S') w cu su | _ => False
  | .lshr => match S with | .inl y :: .inr (.inl x) :: S' => K (pc + 1) L (.inr (.inl (x >>> (y.toInt64 &&& 63))) :: S') w cu su | _ => False
  | .i2l => match S with | .inl x :: S' => K (pc + 1) L (.inr (.inl x.toInt64) :: S') w cu su | _ => False
  | .l2i => match S with | .inr (.inl x) :: S' => K (pc + 1) L (.inl x.toInt32 :: S') w cu su | _ => False
  | .lcmp => match S with | .inr (.inl y) :: .inr (.inl x) :: S' => K (pc + 1) L (.inl (lg_cmp x y) :: S') w cu su | _ => False
  | .lconst k => K (pc + 1) L (.inr (.inl (Int64.ofNat k)) :: S) w cu su
  | .dup => match S with | v :: S' => isL (some v) = false ∧ K (pc + 1) L (v :: v :: S') w cu su | _ => False
  | .pop => match S with | v :: S' => isL (some v) = false ∧ K (pc + 1) L S' w cu su | _ => False
  | .dup_x1 => match S with | v :: u :: S' => isL (some v) = false ∧ isL (some u) = false ∧ K (pc + 1) L (v :: u :: v :: S') w cu su | _ => False
  | .dup2 => match S with | v :: u :: S' => isL (some v) = false ∧ isL (some u) = false ∧ K (pc + 1) L (v :: u :: v :: u :: S') w cu su | _ => False
  | .ifCond .eq off => match S with | .inl x :: S' => 0 ≤ (pc : Int) + off ∧ (x = 0 → K ((pc : Int) + off).toNat L S' w cu su) ∧ (¬ x = 0 → K (pc + 3) L S' w cu su) | _ => False
  | .ifCond .ne off => match S with | .inl x :: S' => 0 ≤ (pc : Int) + off ∧ (¬ x = 0 → K ((pc : Int) + off).toNat L S' w cu su) ∧ (x = 0 → K (pc + 3) L S' w cu su) | _ => False
  | .ifCond .lt off => match S with | .inl x :: S' => 0 ≤ (pc : Int) + off ∧ (x < 0 → K ((pc : Int) + off).toNat L S' w cu su) ∧ (¬ x < 0 → K (pc + 3) L S' w cu su) | _ => False
  | .ifCond .ge off => match S with | .inl x :: S' => 0 ≤ (pc : Int) + off ∧ (0 ≤ x → K ((pc : Int) + off).toNat L S' w cu su) ∧ (¬ 0 ≤ x → K (pc + 3) L S' w cu su) | _ => False
  | .ifCond .gt off => match S with | .inl x :: S' => 0 ≤ (pc : Int) + off ∧ (0 < x → K ((pc : Int) + off).toNat L S' w cu su) ∧ (¬ 0 < x → K (pc + 3) L S' w cu su) | _ => False
  | .ifCond .le off => match S with | .inl x :: S' => 0 ≤ (pc : Int) + off ∧ (x ≤ 0 → K ((pc : Int) + off).toNat L S' w cu su) ∧ (¬ x ≤ 0 → K (pc + 3) L S' w cu su) | _ => False
  | .if_icmp .eq off => match S with | .inl y :: .inl x :: S' => 0 ≤ (pc : Int) + off ∧ (x = y → K ((pc : Int) + off).toNat L S' w cu su) ∧ (¬ x = y → K (pc + 3) L S' w cu su) | _ => False
  | .if_icmp .ne off => match S with | .inl y :: .inl x :: S' => 0 ≤ (pc : Int) + off ∧ (¬ x = y → K ((pc : Int) + off).toNat L S' w cu su) ∧ (x = y → K (pc + 3) L S' w cu su) | _ => False
  | .if_icmp .lt off => match S with | .inl y :: .inl x :: S' => 0 ≤ (pc : Int) + off ∧ (x < y → K ((pc : Int) + off).toNat L S' w cu su) ∧ (¬ x < y → K (pc + 3) L S' w cu su) | _ => False
  | .if_icmp .ge off => match S with | .inl y :: .inl x :: S' => 0 ≤ (pc : Int) + off ∧ (y ≤ x → K ((pc : Int) + off).toNat L S' w cu su) ∧ (¬ y ≤ x → K (pc + 3) L S' w cu su) | _ => False
  | .if_icmp .gt off => match S with | .inl y :: .inl x :: S' => 0 ≤ (pc : Int) + off ∧ (y < x → K ((pc : Int) + off).toNat L S' w cu su) ∧ (¬ y < x → K (pc + 3) L S' w cu su) | _ => False
  | .if_icmp .le off => match S with | .inl y :: .inl x :: S' => 0 ≤ (pc : Int) + off ∧ (x ≤ y → K ((pc : Int) + off).toNat L S' w cu su) ∧ (¬ x ≤ y → K (pc + 3) L S' w cu su) | _ => False
  | .ifnull off => match S with | .inr (.inr none) :: S' => jmp pc off (fun p => K p L S' w cu su) | .inr (.inr (some _)) :: S' => K (pc + 3) L S' w cu su | _ => False
  | .ifnonnull off => match S with | .inr (.inr none) :: S' => K (pc + 3) L S' w cu su | .inr (.inr (some _)) :: S' => jmp pc off (fun p => K p L S' w cu su) | _ => False
  | .goto off => jmp pc off (fun p => K p L S w cu su)
  | .tableswitch d lo hi offs => match S with
    | .inl x :: S' => if x.toInt < lo ∨ hi < x.toInt then jmp pc d (fun p => K p L S' w cu su) else (match offs[(x.toInt - lo).toNat]? with | some off => jmp pc off (fun p => K p L S' w cu su) | none => False)
    | _ => False
  | .lookupswitch d ps => match S with
    | .inl x :: S' => (ps.toList.zip (ps.toList.drop 1)).all (fun (a, next) => a.1 < next.1) = true ∧ jmp pc (Op.lookupswitch.offset ps.toList d x.toInt) (fun p => K p L S' w cu su)
    | _ => False
  | .getfield idx => match ceF C idx with
    | some (ci, k) => (match S with
      | .inr (.inr (some (t, j))) :: S' => t = ci ∧ j < wC w ci ∧ K (pc + 3) L ((if rp ci k = true then .inr (.inr (wR w ci j k)) else .inl (wI w ci j k)) :: S') w cu su
      | _ => False)
    | none => False
  | .putfield idx => match ceF C idx with
    | some (ci, k) => (match S with
      | .inl x :: .inr (.inr (some (t, j))) :: S' => t = ci ∧ j < wC w ci ∧ rp ci k = false ∧ ((clsN ci).2.1 k).2.2.2 = false ∧ nar (some (cTy ci k)) x ∧ K (pc + 3) L S' (sI w ci j k x) cu su
      | _ => False)
    | none => False
  | .iaload => match S with
    | .inl i :: .inr (.inr (some (t, j))) :: S' => if t = 901 then j = 0 ∧ vp_in i (gL G) ∧ K (pc + 1) L (.inl (gS G i.toNatClampNeg) :: S') w cu su else 20 ≤ t ∧ t < 200 ∧ j < wC w t ∧ vp_in i (wN w t j) ∧ K (pc + 1) L (.inl (wI w t j i.toNatClampNeg) :: S') w cu su
    | _ => False
  | .baload => match S with
    | .inl i :: .inr (.inr (some (t, j))) :: S' => 200 ≤ t ∧ t < 300 ∧ j < wC w t ∧ vp_in i (wN w t j) ∧ K (pc + 1) L (.inl (wI w t j i.toNatClampNeg) :: S') w cu su
    | _ => False
  | .aaload => match S with
    | .inl i :: .inr (.inr (some (t, j))) :: S' => 300 ≤ t ∧ t < 900 ∧ j < wC w t ∧ vp_in i (wN w t j) ∧ K (pc + 1) L (.inr (.inr (wR w t j i.toNatClampNeg)) :: S') w cu su
    | _ => False
  | .iastore => match S with
    | .inl x :: .inl i :: .inr (.inr (some (t, j))) :: S' => 20 ≤ t ∧ t < 200 ∧ j < wC w t ∧ vp_in i (wN w t j) ∧ K (pc + 1) L S' (sI w t j i.toNatClampNeg x) cu su
    | _ => False
  | .bastore => match S with
    | .inl x :: .inl i :: .inr (.inr (some (t, j))) :: S' => 200 ≤ t ∧ t < 300 ∧ j < wC w t ∧ vp_in i (wN w t j) ∧ (x = 0 ∨ x = 1) ∧ K (pc + 1) L S' (sI w t j i.toNatClampNeg x) cu su
    | _ => False
  | .arraylength => match S with
    | .inr (.inr (some (t, j))) :: S' => if t = 901 then j = 0 ∧ K (pc + 1) L (.inl (Int32.ofNat (gL G)) :: S') w cu su else 20 ≤ t ∧ t < 900 ∧ j < wC w t ∧ K (pc + 1) L (.inl (Int32.ofNat (wN w t j)) :: S') w cu su
    | _ => False
  | .ldc idx => match ceK C idx with | some (.inl x) => K (pc + 2) L (.inl x :: S) w cu su | _ => False
  | .ldc2_w idx => match ceK C idx with | some (.inr (.inl x)) => K (pc + 3) L (.inr (.inl x) :: S) w cu su | _ => False
  | .checkcast idx => match ceT C idx with
    | some ci => (match S with
      | .inr (.inr (some (t, j))) :: S' => t = ci ∧ ci < 14 ∧ j < wC w ci ∧ K (pc + 3) L (.inr (.inr (some (t, j))) :: S') w cu su
      | _ => False)
    | none => False
  | .invokevirtual idx => match ceM C idx with
    | some c => (match spl c.2.1 [] S with
      | some (as, .inr (.inr (some (t, j))) :: S') => (c.2.2 = 0 ∨ c.2.2 = 3) ∧ t < 14 ∧ (clsN t).1 = (mY c.1).cls ∧ j < wC w t ∧ cll l G n mc ms c (X idx) (.inr (.inr (some (t, j))) :: as) S' w cu su (fun S2 w2 => K (pc + 3) L S2 w2 cu su) (fun S2 w2 cu2 su2 => Kc (pc + 3) L S2 w2 cu2 su2)
      | _ => False)
    | none => False
  | .invokestatic idx => match ceM C idx with
    | some c => (match spl c.2.1 [] S with
      | some (as, S') => (c.2.2 = 1 ∨ c.2.2 = 4) ∧ cll l G n mc ms c (X idx) as S' w cu su (fun S2 w2 => K (pc + 3) L S2 w2 cu su) (fun S2 w2 cu2 su2 => Kc (pc + 3) L S2 w2 cu2 su2)
      | _ => False)
    | none => False
  | .invokespecial idx => match ceM C idx with
    | some c => (match spl c.2.1 [] S with
      | some (as, .inr (.inr (some (t, j))) :: S') => (c.2.2 = 2 ∨ c.2.2 = 5) ∧ t < 14 ∧ cll l G n mc ms c (X idx) (.inr (.inr (some (t, j))) :: as) S' w cu su (fun S2 w2 => K (pc + 3) L S2 w2 cu su) (fun S2 w2 cu2 su2 => Kc (pc + 3) L S2 w2 cu2 su2)
      | _ => False)
    | none => False
  | .ireturn => match S with | [.inl v] => nar (mR M) v ∧ Q (some (.inl v)) w | _ => False
  | .lreturn => match S with | [.inr (.inl v)] => mR M = some .long ∧ Q (some (.inr (.inl v))) w | _ => False
  | .areturn => match S with | [.inr (.inr v)] => (mR M).any rTy = true ∧ Q (some (.inr (.inr v))) w | _ => False
  | .return_ => match S with | [] => mR M = none ∧ Q none w | _ => False
  | _ => False
end
section
/-! instructions that touch no heap: each is what the machine does -/
theorem clS_c {w : Wd} {v : AV} {S : List AV} (h : clV w v) (hS : clS w S) : clS w (v :: S) := fun u hu => by
  rcases List.mem_cons.mp hu with rfl | h1
  · exact h
  · exact hS u h1
theorem clS_t {w : Wd} {v : AV} {S : List AV} (h : clS w (v :: S)) : clS w S := fun u hu => h u (List.mem_cons_of_mem _ hu)
theorem clS_h {w : Wd} {v : AV} {S : List AV} (h : clS w (v :: S)) : clV w v := h v List.mem_cons_self
theorem clL_set {w : Wd} {L : List (Option AV)} {i : Nat} {v : AV} (h : clL w L) (hv : clV w v) : clL w (st1 L i v) := fun j x hx => by
  rw [st1, lg_lset] at hx
  split at hx
  · cases hx; exact hv
  · exact h j x (lg_kil hx).1
theorem clL_set2 {w : Wd} {L : List (Option AV)} {i : Nat} {v : AV} (h : clL w L) (hv : clV w v) : clL w (st2 L i v) := fun j x hx => by
  rw [st2, lg_lset] at hx
  split at hx
  · cases hx
  · rw [lg_lset] at hx
    split at hx
    · cases hx; exact hv
    · exact h j x (lg_kil hx).1
theorem jmp_go {pc : Nat} {off : Int} {K : Nat → Prop} (h : jmp pc off K) : ∃ t : Nat, (pc : Int) + off = (t : Int) ∧ K t := ⟨_, (Int.toNat_of_nonneg h.1).symm, h.2⟩
abbrev stW (l : Launch) (G : Gc) (M : MI) (C : CE) (X : XE) (n mc ms : Nat) (Q : Option AV → Wd → Prop) (pc : Nat) (ins : Instr) (L : List (Option AV)) (S : List AV) (w : Wd) (cu su : Nat) : Prop :=
  stp l G M C X n mc ms Q (WP l G M n mc ms Q) (WP l G M n mc ms Q) pc ins L S w cu su
section S1
variable {l : Launch} {G : Gc} {M : MI} {C : CE} {X : XE} {n mc ms : Nat} {Q : Option AV → Wd → Prop} {pc : Nat} {L : List (Option AV)} {S : List AV} {w : Wd} {cu su : Nat}
theorem s_iconst {k : Int} (hd : decode (mB M) pc = .ok (.iconst k, 1)) (hs : stW l G M C X n mc ms Q pc (.iconst k) L S w cu su) : WP l G M n mc ms Q pc L S w cu su := by
  intro p e s m args below meth c Z ad0 w0 hF hc ad H locs ls hR hE hL hl hS ho h1 h2
  obtain ⟨hx, hb, -⟩ := id hF
  simp only [stW, stp] at hs
  exact lv_iconst hx hb hd rfl (hs p e s m args below meth c Z ad0 w0 hF hc ad H locs ls hR hE hL hl (clS_c trivial hS) ho h1 h2)
theorem s_bipush {k : Int} (hd : decode (mB M) pc = .ok (.bipush k, 2)) (hs : stW l G M C X n mc ms Q pc (.bipush k) L S w cu su) : WP l G M n mc ms Q pc L S w cu su := by
  intro p e s m args below meth c Z ad0 w0 hF hc ad H locs ls hR hE hL hl hS ho h1 h2
  obtain ⟨hx, hb, -⟩ := id hF
  simp only [stW, stp] at hs
  exact lv_bipush hx hb hd rfl (hs p e s m args below meth c Z ad0 w0 hF hc ad H locs ls hR hE hL hl (clS_c trivial hS) ho h1 h2)
theorem s_sipush {k : Int} (hd : decode (mB M) pc = .ok (.sipush k, 3)) (hs : stW l G M C X n mc ms Q pc (.sipush k) L S w cu su) : WP l G M n mc ms Q pc L S w cu su := by
  intro p e s m args below meth c Z ad0 w0 hF hc ad H locs ls hR hE hL hl hS ho h1 h2
  obtain ⟨hx, hb, -⟩ := id hF
  simp only [stW, stp] at hs
  exact lv_sipush hx hb hd rfl (hs p e s m args below meth c Z ad0 w0 hF hc ad H locs ls hR hE hL hl (clS_c trivial hS) ho h1 h2)
theorem s_lconst {k : Fin 2} (hd : decode (mB M) pc = .ok (.lconst k, 1)) (hs : stW l G M C X n mc ms Q pc (.lconst k) L S w cu su) : WP l G M n mc ms Q pc L S w cu su := by
  intro p e s m args below meth c Z ad0 w0 hF hc ad H locs ls hR hE hL hl hS ho h1 h2
  obtain ⟨hx, hb, -⟩ := id hF
  simp only [stW, stp] at hs
  exact lv_lconst hx hb hd rfl (hs p e s m args below meth c Z ad0 w0 hF hc ad H locs ls hR hE hL hl (clS_c trivial hS) ho h1 h2)
theorem s_null (hd : decode (mB M) pc = .ok (.aconst_null, 1)) (hs : stW l G M C X n mc ms Q pc (.aconst_null) L S w cu su) : WP l G M n mc ms Q pc L S w cu su := by
  intro p e s m args below meth c Z ad0 w0 hF hc ad H locs ls hR hE hL hl hS ho h1 h2
  obtain ⟨hx, hb, -⟩ := id hF
  simp only [stW, stp] at hs
  exact lv_null hx hb hd (hs p e s m args below meth c Z ad0 w0 hF hc ad H locs ls hR hE hL hl (clS_c trivial hS) ho h1 h2)
theorem s_iload {i : Nat} (hd : decode (mB M) pc = .ok (.iload i, 2)) (hs : stW l G M C X n mc ms Q pc (.iload i) L S w cu su) : WP l G M n mc ms Q pc L S w cu su := by
  intro p e s m args below meth c Z ad0 w0 hF hc ad H locs ls hR hE hL hl hS ho h1 h2
  obtain ⟨hx, hb, -⟩ := id hF
  simp only [stW, stp] at hs
  split at hs
  · rename_i x hg
    exact lv_iload hx hb hd (hL.2.2.2 _ _ hg) (hs p e s m args below meth c Z ad0 w0 hF hc ad H locs ls hR hE hL hl (clS_c trivial hS) ho h1 h2)
  · exact hs.elim
theorem s_iload_n {i : Fin 4} (hd : decode (mB M) pc = .ok (.iload_n i, 1)) (hs : stW l G M C X n mc ms Q pc (.iload_n i) L S w cu su) : WP l G M n mc ms Q pc L S w cu su := by
  intro p e s m args below meth c Z ad0 w0 hF hc ad H locs ls hR hE hL hl hS ho h1 h2
  obtain ⟨hx, hb, -⟩ := id hF
  simp only [stW, stp] at hs
  split at hs
  · rename_i x hg
    exact lv_iload_n hx hb hd rfl (hL.2.2.2 _ _ hg) (hs p e s m args below meth c Z ad0 w0 hF hc ad H locs ls hR hE hL hl (clS_c trivial hS) ho h1 h2)
  · exact hs.elim
theorem s_lload {i : Nat} (hd : decode (mB M) pc = .ok (.lload i, 2)) (hs : stW l G M C X n mc ms Q pc (.lload i) L S w cu su) : WP l G M n mc ms Q pc L S w cu su := by
  intro p e s m args below meth c Z ad0 w0 hF hc ad H locs ls hR hE hL hl hS ho h1 h2
  obtain ⟨hx, hb, -⟩ := id hF
  simp only [stW, stp] at hs
  split at hs
  · rename_i x hg
    exact lv_lload hx hb hd (hL.2.2.2 _ _ hg) (hs p e s m args below meth c Z ad0 w0 hF hc ad H locs ls hR hE hL hl (clS_c trivial hS) ho h1 h2)
  · exact hs.elim
theorem s_lload_n {i : Fin 4} (hd : decode (mB M) pc = .ok (.lload_n i, 1)) (hs : stW l G M C X n mc ms Q pc (.lload_n i) L S w cu su) : WP l G M n mc ms Q pc L S w cu su := by
  intro p e s m args below meth c Z ad0 w0 hF hc ad H locs ls hR hE hL hl hS ho h1 h2
  obtain ⟨hx, hb, -⟩ := id hF
  simp only [stW, stp] at hs
  split at hs
  · rename_i x hg
    exact lv_lload_n hx hb hd rfl (hL.2.2.2 _ _ hg) (hs p e s m args below meth c Z ad0 w0 hF hc ad H locs ls hR hE hL hl (clS_c trivial hS) ho h1 h2)
  · exact hs.elim
theorem s_aload {i : Nat} (hd : decode (mB M) pc = .ok (.aload i, 2)) (hs : stW l G M C X n mc ms Q pc (.aload i) L S w cu su) : WP l G M n mc ms Q pc L S w cu su := by
  intro p e s m args below meth c Z ad0 w0 hF hc ad H locs ls hR hE hL hl hS ho h1 h2
  obtain ⟨hx, hb, -⟩ := id hF
  simp only [stW, stp] at hs
  split at hs
  · rename_i x hg
    have hv := hl _ _ hg
    have hq := hL.2.2.2 _ _ hg
    cases x with
    | none => exact lv_aloadN hx hb hd hq (hs p e s m args below meth c Z ad0 w0 hF hc ad H locs ls hR hE hL hl (clS_c trivial hS) ho h1 h2)
    | some q => exact lv_aload hx hb hd hq (hs p e s m args below meth c Z ad0 w0 hF hc ad H locs ls hR hE hL hl (clS_c hv hS) ho h1 h2)
  · exact hs.elim
theorem s_istore {i : Nat} (hd : decode (mB M) pc = .ok (.istore i, 2)) (hs : stW l G M C X n mc ms Q pc (.istore i) L S w cu su) : WP l G M n mc ms Q pc L S w cu su := by
  intro p e s m args below meth c Z ad0 w0 hF hc ad H locs ls hR hE hL hl hS ho h1 h2
  obtain ⟨hx, hb, -⟩ := id hF
  simp only [stW, stp] at hs
  split at hs
  · rename_i x S2
    exact lv_istore hx hb hd hL.has (by rw [← hL.2.1]; exact hs.1) rfl (fun ls2 h3 => (hs.2 p e s m args below meth c Z ad0 w0 hF hc ad H locs ls2 hR hE (lsr_st1 hL h3) (clL_set hl trivial) (clS_t hS) ho h1 h2))
  · exact hs.elim
theorem s_lstore {i : Nat} (hd : decode (mB M) pc = .ok (.lstore i, 2)) (hs : stW l G M C X n mc ms Q pc (.lstore i) L S w cu su) : WP l G M n mc ms Q pc L S w cu su := by
  intro p e s m args below meth c Z ad0 w0 hF hc ad H locs ls hR hE hL hl hS ho h1 h2
  obtain ⟨hx, hb, -⟩ := id hF
  simp only [stW, stp] at hs
  split at hs
  · rename_i x S2
    exact lv_lstore hx hb hd hL.has (by rw [← hL.2.1]; exact hs.1) rfl (fun ls2 h3 => (hs.2 p e s m args below meth c Z ad0 w0 hF hc ad H locs ls2 hR hE (lsr_st2 hL h3) (clL_set2 hl trivial) (clS_t hS) ho h1 h2))
  · exact hs.elim
theorem s_astore {i : Nat} (hd : decode (mB M) pc = .ok (.astore i, 2)) (hs : stW l G M C X n mc ms Q pc (.astore i) L S w cu su) : WP l G M n mc ms Q pc L S w cu su := by
  intro p e s m args below meth c Z ad0 w0 hF hc ad H locs ls hR hE hL hl hS ho h1 h2
  obtain ⟨hx, hb, -⟩ := id hF
  simp only [stW, stp] at hs
  split at hs
  · rename_i x S2
    cases x with
    | none => exact lv_astoreN hx hb hd hL.has (by rw [← hL.2.1]; exact hs.1) rfl (fun ls2 h3 => (hs.2 p e s m args below meth c Z ad0 w0 hF hc ad H locs ls2 hR hE (lsr_st1 hL h3) (clL_set hl (clS_h hS)) (clS_t hS) ho h1 h2))
    | some q => exact lv_astore hx hb hd hL.has (by rw [← hL.2.1]; exact hs.1) rfl (fun ls2 h3 => (hs.2 p e s m args below meth c Z ad0 w0 hF hc ad H locs ls2 hR hE (lsr_st1 hL h3) (clL_set hl (clS_h hS)) (clS_t hS) ho h1 h2))
  · exact hs.elim
theorem s_aload_n {i : Fin 4} (hd : decode (mB M) pc = .ok (.aload_n i, 1)) (hs : stW l G M C X n mc ms Q pc (.aload_n i) L S w cu su) : WP l G M n mc ms Q pc L S w cu su := by
  intro p e s m args below meth c Z ad0 w0 hF hc ad H locs ls hR hE hL hl hS ho h1 h2
  obtain ⟨hx, hb, -⟩ := id hF
  simp only [stW, stp] at hs
  split at hs
  · rename_i x hg
    have hv := hl _ _ hg
    have hq := hL.2.2.2 _ _ hg
    cases x with
    | none => exact lv_aload_nN hx hb hd rfl hq (hs p e s m args below meth c Z ad0 w0 hF hc ad H locs ls hR hE hL hl (clS_c trivial hS) ho h1 h2)
    | some q => exact lv_aload_n hx hb hd rfl hq (hs p e s m args below meth c Z ad0 w0 hF hc ad H locs ls hR hE hL hl (clS_c hv hS) ho h1 h2)
  · exact hs.elim
theorem s_istore_n {i : Fin 4} (hd : decode (mB M) pc = .ok (.istore_n i, 1)) (hs : stW l G M C X n mc ms Q pc (.istore_n i) L S w cu su) : WP l G M n mc ms Q pc L S w cu su := by
  intro p e s m args below meth c Z ad0 w0 hF hc ad H locs ls hR hE hL hl hS ho h1 h2
  obtain ⟨hx, hb, -⟩ := id hF
  simp only [stW, stp] at hs
  split at hs
  · rename_i x S2
    exact lv_istore_n hx hb hd rfl hL.has (by rw [← hL.2.1]; exact hs.1) rfl (fun ls2 h3 => (hs.2 p e s m args below meth c Z ad0 w0 hF hc ad H locs ls2 hR hE (lsr_st1 hL h3) (clL_set hl trivial) (clS_t hS) ho h1 h2))
  · exact hs.elim
theorem s_lstore_n {i : Fin 4} (hd : decode (mB M) pc = .ok (.lstore_n i, 1)) (hs : stW l G M C X n mc ms Q pc (.lstore_n i) L S w cu su) : WP l G M n mc ms Q pc L S w cu su := by
  intro p e s m args below meth c Z ad0 w0 hF hc ad H locs ls hR hE hL hl hS ho h1 h2
  obtain ⟨hx, hb, -⟩ := id hF
  simp only [stW, stp] at hs
  split at hs
  · rename_i x S2
    exact lv_lstore_n hx hb hd rfl hL.has (by rw [← hL.2.1]; exact hs.1) rfl (fun ls2 h3 => (hs.2 p e s m args below meth c Z ad0 w0 hF hc ad H locs ls2 hR hE (lsr_st2 hL h3) (clL_set2 hl trivial) (clS_t hS) ho h1 h2))
  · exact hs.elim
theorem s_astore_n {i : Fin 4} (hd : decode (mB M) pc = .ok (.astore_n i, 1)) (hs : stW l G M C X n mc ms Q pc (.astore_n i) L S w cu su) : WP l G M n mc ms Q pc L S w cu su := by
  intro p e s m args below meth c Z ad0 w0 hF hc ad H locs ls hR hE hL hl hS ho h1 h2
  obtain ⟨hx, hb, -⟩ := id hF
  simp only [stW, stp] at hs
  split at hs
  · rename_i x S2
    cases x with
    | none => exact lv_astore_nN hx hb hd rfl hL.has (by rw [← hL.2.1]; exact hs.1) rfl (fun ls2 h3 => (hs.2 p e s m args below meth c Z ad0 w0 hF hc ad H locs ls2 hR hE (lsr_st1 hL h3) (clL_set hl (clS_h hS)) (clS_t hS) ho h1 h2))
    | some q => exact lv_astore_n hx hb hd rfl hL.has (by rw [← hL.2.1]; exact hs.1) rfl (fun ls2 h3 => (hs.2 p e s m args below meth c Z ad0 w0 hF hc ad H locs ls2 hR hE (lsr_st1 hL h3) (clL_set hl (clS_h hS)) (clS_t hS) ho h1 h2))
  · exact hs.elim
theorem s_iinc {i : Nat} {k : Int} (hd : decode (mB M) pc = .ok (.iinc i k, 3)) (hs : stW l G M C X n mc ms Q pc (.iinc i k) L S w cu su) : WP l G M n mc ms Q pc L S w cu su := by
  intro p e s m args below meth c Z ad0 w0 hF hc ad H locs ls hR hE hL hl hS ho h1 h2
  obtain ⟨hx, hb, -⟩ := id hF
  simp only [stW, stp] at hs
  split at hs
  · rename_i x hg
    obtain ⟨kk, hkk⟩ := List.getElem?_of_mem (lpr_mem (ad := ad).mpr ⟨_, hg, rfl⟩)
    exact lv_iinc hx hb hd hL.has hkk rfl (by rw [← hL.2.1]; exact hs.1) rfl (fun ls2 h3 => (hs.2 p e s m args below meth c Z ad0 w0 hF hc ad H locs ls2 hR hE (lsr_st1 hL h3) (clL_set hl trivial) hS ho h1 h2))
  · exact hs.elim
theorem s_iadd (hd : decode (mB M) pc = .ok (.iadd, 1)) (hs : stW l G M C X n mc ms Q pc (.iadd) L S w cu su) : WP l G M n mc ms Q pc L S w cu su := by
  intro p e s m args below meth c Z ad0 w0 hF hc ad H locs ls hR hE hL hl hS ho h1 h2
  obtain ⟨hx, hb, -⟩ := id hF
  simp only [stW, stp] at hs
  split at hs
  · exact lv_iadd hx hb hd (hs p e s m args below meth c Z ad0 w0 hF hc ad H locs ls hR hE hL hl (clS_c trivial (clS_t (clS_t hS))) ho h1 h2)
  · exact hs.elim
theorem s_isub (hd : decode (mB M) pc = .ok (.isub, 1)) (hs : stW l G M C X n mc ms Q pc (.isub) L S w cu su) : WP l G M n mc ms Q pc L S w cu su := by
  intro p e s m args below meth c Z ad0 w0 hF hc ad H locs ls hR hE hL hl hS ho h1 h2
  obtain ⟨hx, hb, -⟩ := id hF
  simp only [stW, stp] at hs
  split at hs
  · exact lv_isub hx hb hd (hs p e s m args below meth c Z ad0 w0 hF hc ad H locs ls hR hE hL hl (clS_c trivial (clS_t (clS_t hS))) ho h1 h2)
  · exact hs.elim
theorem s_imul (hd : decode (mB M) pc = .ok (.imul, 1)) (hs : stW l G M C X n mc ms Q pc (.imul) L S w cu su) : WP l G M n mc ms Q pc L S w cu su := by
  intro p e s m args below meth c Z ad0 w0 hF hc ad H locs ls hR hE hL hl hS ho h1 h2
  obtain ⟨hx, hb, -⟩ := id hF
  simp only [stW, stp] at hs
  split at hs
  · exact lv_imul hx hb hd (hs p e s m args below meth c Z ad0 w0 hF hc ad H locs ls hR hE hL hl (clS_c trivial (clS_t (clS_t hS))) ho h1 h2)
  · exact hs.elim
theorem s_iand (hd : decode (mB M) pc = .ok (.iand, 1)) (hs : stW l G M C X n mc ms Q pc (.iand) L S w cu su) : WP l G M n mc ms Q pc L S w cu su := by
  intro p e s m args below meth c Z ad0 w0 hF hc ad H locs ls hR hE hL hl hS ho h1 h2
  obtain ⟨hx, hb, -⟩ := id hF
  simp only [stW, stp] at hs
  split at hs
  · exact lv_iand hx hb hd (hs p e s m args below meth c Z ad0 w0 hF hc ad H locs ls hR hE hL hl (clS_c trivial (clS_t (clS_t hS))) ho h1 h2)
  · exact hs.elim
theorem s_ior (hd : decode (mB M) pc = .ok (.ior, 1)) (hs : stW l G M C X n mc ms Q pc (.ior) L S w cu su) : WP l G M n mc ms Q pc L S w cu su := by
  intro p e s m args below meth c Z ad0 w0 hF hc ad H locs ls hR hE hL hl hS ho h1 h2
  obtain ⟨hx, hb, -⟩ := id hF
  simp only [stW, stp] at hs
  split at hs
  · exact lv_ior hx hb hd (hs p e s m args below meth c Z ad0 w0 hF hc ad H locs ls hR hE hL hl (clS_c trivial (clS_t (clS_t hS))) ho h1 h2)
  · exact hs.elim
theorem s_ixor (hd : decode (mB M) pc = .ok (.ixor, 1)) (hs : stW l G M C X n mc ms Q pc (.ixor) L S w cu su) : WP l G M n mc ms Q pc L S w cu su := by
  intro p e s m args below meth c Z ad0 w0 hF hc ad H locs ls hR hE hL hl hS ho h1 h2
  obtain ⟨hx, hb, -⟩ := id hF
  simp only [stW, stp] at hs
  split at hs
  · exact lv_ixor hx hb hd (hs p e s m args below meth c Z ad0 w0 hF hc ad H locs ls hR hE hL hl (clS_c trivial (clS_t (clS_t hS))) ho h1 h2)
  · exact hs.elim
theorem s_ishl (hd : decode (mB M) pc = .ok (.ishl, 1)) (hs : stW l G M C X n mc ms Q pc (.ishl) L S w cu su) : WP l G M n mc ms Q pc L S w cu su := by
  intro p e s m args below meth c Z ad0 w0 hF hc ad H locs ls hR hE hL hl hS ho h1 h2
  obtain ⟨hx, hb, -⟩ := id hF
  simp only [stW, stp] at hs
  split at hs
  · exact lv_ishl hx hb hd (hs p e s m args below meth c Z ad0 w0 hF hc ad H locs ls hR hE hL hl (clS_c trivial (clS_t (clS_t hS))) ho h1 h2)
  · exact hs.elim
theorem s_ishr (hd : decode (mB M) pc = .ok (.ishr, 1)) (hs : stW l G M C X n mc ms Q pc (.ishr) L S w cu su) : WP l G M n mc ms Q pc L S w cu su := by
  intro p e s m args below meth c Z ad0 w0 hF hc ad H locs ls hR hE hL hl hS ho h1 h2
  obtain ⟨hx, hb, -⟩ := id hF
  simp only [stW, stp] at hs
  split at hs
  · exact lv_ishr hx hb hd (hs p e s m args below meth c Z ad0 w0 hF hc ad H locs ls hR hE hL hl (clS_c trivial (clS_t (clS_t hS))) ho h1 h2)
  · exact hs.elim
theorem s_ladd (hd : decode (mB M) pc = .ok (.ladd, 1)) (hs : stW l G M C X n mc ms Q pc (.ladd) L S w cu su) : WP l G M n mc ms Q pc L S w cu su := by
  intro p e s m args below meth c Z ad0 w0 hF hc ad H locs ls hR hE hL hl hS ho h1 h2
  obtain ⟨hx, hb, -⟩ := id hF
  simp only [stW, stp] at hs
  split at hs
  · exact lv_ladd hx hb hd (hs p e s m args below meth c Z ad0 w0 hF hc ad H locs ls hR hE hL hl (clS_c trivial (clS_t (clS_t hS))) ho h1 h2)
  · exact hs.elim
theorem s_lmul (hd : decode (mB M) pc = .ok (.lmul, 1)) (hs : stW l G M C X n mc ms Q pc (.lmul) L S w cu su) : WP l G M n mc ms Q pc L S w cu su := by
  intro p e s m args below meth c Z ad0 w0 hF hc ad H locs ls hR hE hL hl hS ho h1 h2
  obtain ⟨hx, hb, -⟩ := id hF
  simp only [stW, stp] at hs
  split at hs
  · exact lv_lmul hx hb hd (hs p e s m args below meth c Z ad0 w0 hF hc ad H locs ls hR hE hL hl (clS_c trivial (clS_t (clS_t hS))) ho h1 h2)
  · exact hs.elim
theorem s_land (hd : decode (mB M) pc = .ok (.land, 1)) (hs : stW l G M C X n mc ms Q pc (.land) L S w cu su) : WP l G M n mc ms Q pc L S w cu su := by
  intro p e s m args below meth c Z ad0 w0 hF hc ad H locs ls hR hE hL hl hS ho h1 h2
  obtain ⟨hx, hb, -⟩ := id hF
  simp only [stW, stp] at hs
  split at hs
  · exact lv_land hx hb hd (hs p e s m args below meth c Z ad0 w0 hF hc ad H locs ls hR hE hL hl (clS_c trivial (clS_t (clS_t hS))) ho h1 h2)
  · exact hs.elim
theorem s_lcmp (hd : decode (mB M) pc = .ok (.lcmp, 1)) (hs : stW l G M C X n mc ms Q pc (.lcmp) L S w cu su) : WP l G M n mc ms Q pc L S w cu su := by
  intro p e s m args below meth c Z ad0 w0 hF hc ad H locs ls hR hE hL hl hS ho h1 h2
  obtain ⟨hx, hb, -⟩ := id hF
  simp only [stW, stp] at hs
  split at hs
  · exact W.lcmp hx hb hd (hs p e s m args below meth c Z ad0 w0 hF hc ad H locs ls hR hE hL hl (clS_c trivial (clS_t (clS_t hS))) ho h1 h2)
  · exact hs.elim
theorem s_iushr (hd : decode (mB M) pc = .ok (.iushr, 1)) (hs : stW l G M C X n mc ms Q pc (.iushr) L S w cu su) : WP l G M n mc ms Q pc L S w cu su := by
  intro p e s m args below meth c Z ad0 w0 hF hc ad H locs ls hR hE hL hl hS ho h1 h2
  obtain ⟨hx, hb, -⟩ := id hF
  simp only [stW, stp] at hs
  split at hs
  · exact lv_iushr hx hb hd rfl (hs p e s m args below meth c Z ad0 w0 hF hc ad H locs ls hR hE hL hl (clS_c trivial (clS_t (clS_t hS))) ho h1 h2)
  · exact hs.elim
theorem s_lshr (hd : decode (mB M) pc = .ok (.lshr, 1)) (hs : stW l G M C X n mc ms Q pc (.lshr) L S w cu su) : WP l G M n mc ms Q pc L S w cu su := by
  intro p e s m args below meth c Z ad0 w0 hF hc ad H locs ls hR hE hL hl hS ho h1 h2
  obtain ⟨hx, hb, -⟩ := id hF
  simp only [stW, stp] at hs
  split at hs
  · exact lv_lshr hx hb hd rfl (hs p e s m args below meth c Z ad0 w0 hF hc ad H locs ls hR hE hL hl (clS_c trivial (clS_t (clS_t hS))) ho h1 h2)
  · exact hs.elim
theorem s_idiv (hd : decode (mB M) pc = .ok (.idiv, 1)) (hs : stW l G M C X n mc ms Q pc (.idiv) L S w cu su) : WP l G M n mc ms Q pc L S w cu su := by
  intro p e s m args below meth c Z ad0 w0 hF hc ad H locs ls hR hE hL hl hS ho h1 h2
  obtain ⟨hx, hb, -⟩ := id hF
  simp only [stW, stp] at hs
  split at hs
  · exact lv_idiv hx hb hd hs.1 (hs.2 p e s m args below meth c Z ad0 w0 hF hc ad H locs ls hR hE hL hl (clS_c trivial (clS_t (clS_t hS))) ho h1 h2)
  · exact hs.elim
theorem s_irem (hd : decode (mB M) pc = .ok (.irem, 1)) (hs : stW l G M C X n mc ms Q pc (.irem) L S w cu su) : WP l G M n mc ms Q pc L S w cu su := by
  intro p e s m args below meth c Z ad0 w0 hF hc ad H locs ls hR hE hL hl hS ho h1 h2
  obtain ⟨hx, hb, -⟩ := id hF
  simp only [stW, stp] at hs
  split at hs
  · exact lv_irem hx hb hd hs.1 (hs.2 p e s m args below meth c Z ad0 w0 hF hc ad H locs ls hR hE hL hl (clS_c trivial (clS_t (clS_t hS))) ho h1 h2)
  · exact hs.elim
theorem s_ldiv (hd : decode (mB M) pc = .ok (.ldiv, 1)) (hs : stW l G M C X n mc ms Q pc (.ldiv) L S w cu su) : WP l G M n mc ms Q pc L S w cu su := by
  intro p e s m args below meth c Z ad0 w0 hF hc ad H locs ls hR hE hL hl hS ho h1 h2
  obtain ⟨hx, hb, -⟩ := id hF
  simp only [stW, stp] at hs
  split at hs
  · exact lv_ldiv hx hb hd hs.1 (hs.2 p e s m args below meth c Z ad0 w0 hF hc ad H locs ls hR hE hL hl (clS_c trivial (clS_t (clS_t hS))) ho h1 h2)
  · exact hs.elim
theorem s_ineg (hd : decode (mB M) pc = .ok (.ineg, 1)) (hs : stW l G M C X n mc ms Q pc (.ineg) L S w cu su) : WP l G M n mc ms Q pc L S w cu su := by
  intro p e s m args below meth c Z ad0 w0 hF hc ad H locs ls hR hE hL hl hS ho h1 h2
  obtain ⟨hx, hb, -⟩ := id hF
  simp only [stW, stp] at hs
  split at hs
  · exact lv_ineg hx hb hd (hs p e s m args below meth c Z ad0 w0 hF hc ad H locs ls hR hE hL hl (clS_c trivial (clS_t hS)) ho h1 h2)
  · exact hs.elim
theorem s_i2l (hd : decode (mB M) pc = .ok (.i2l, 1)) (hs : stW l G M C X n mc ms Q pc (.i2l) L S w cu su) : WP l G M n mc ms Q pc L S w cu su := by
  intro p e s m args below meth c Z ad0 w0 hF hc ad H locs ls hR hE hL hl hS ho h1 h2
  obtain ⟨hx, hb, -⟩ := id hF
  simp only [stW, stp] at hs
  split at hs
  · exact lv_i2l hx hb hd rfl (hs p e s m args below meth c Z ad0 w0 hF hc ad H locs ls hR hE hL hl (clS_c trivial (clS_t hS)) ho h1 h2)
  · exact hs.elim
theorem s_l2i (hd : decode (mB M) pc = .ok (.l2i, 1)) (hs : stW l G M C X n mc ms Q pc (.l2i) L S w cu su) : WP l G M n mc ms Q pc L S w cu su := by
  intro p e s m args below meth c Z ad0 w0 hF hc ad H locs ls hR hE hL hl hS ho h1 h2
  obtain ⟨hx, hb, -⟩ := id hF
  simp only [stW, stp] at hs
  split at hs
  · exact lv_l2i hx hb hd rfl (hs p e s m args below meth c Z ad0 w0 hF hc ad H locs ls hR hE hL hl (clS_c trivial (clS_t hS)) ho h1 h2)
  · exact hs.elim
theorem s_dup (hd : decode (mB M) pc = .ok (.dup, 1)) (hs : stW l G M C X n mc ms Q pc (.dup) L S w cu su) : WP l G M n mc ms Q pc L S w cu su := by
  intro p e s m args below meth c Z ad0 w0 hF hc ad H locs ls hR hE hL hl hS ho h1 h2
  obtain ⟨hx, hb, -⟩ := id hF
  simp only [stW, stp] at hs
  split at hs
  · exact lv_dup hx hb hd (by rw [cat_ren, hs.1]; rfl) (hs.2 p e s m args below meth c Z ad0 w0 hF hc ad H locs ls hR hE hL hl (clS_c (clS_h hS) hS) ho h1 h2)
  · exact hs.elim
theorem s_pop (hd : decode (mB M) pc = .ok (.pop, 1)) (hs : stW l G M C X n mc ms Q pc (.pop) L S w cu su) : WP l G M n mc ms Q pc L S w cu su := by
  intro p e s m args below meth c Z ad0 w0 hF hc ad H locs ls hR hE hL hl hS ho h1 h2
  obtain ⟨hx, hb, -⟩ := id hF
  simp only [stW, stp] at hs
  split at hs
  · exact lv_pop hx hb hd (by rw [cat_ren, hs.1]; rfl) (hs.2 p e s m args below meth c Z ad0 w0 hF hc ad H locs ls hR hE hL hl (clS_t hS) ho h1 h2)
  · exact hs.elim
theorem s_dup_x1 (hd : decode (mB M) pc = .ok (.dup_x1, 1)) (hs : stW l G M C X n mc ms Q pc (.dup_x1) L S w cu su) : WP l G M n mc ms Q pc L S w cu su := by
  intro p e s m args below meth c Z ad0 w0 hF hc ad H locs ls hR hE hL hl hS ho h1 h2
  obtain ⟨hx, hb, -⟩ := id hF
  simp only [stW, stp] at hs
  split at hs
  · exact lv_dup_x1 hx hb hd (by rw [cat_ren, hs.1]; rfl) (by rw [cat_ren, hs.2.1]; rfl) (hs.2.2 p e s m args below meth c Z ad0 w0 hF hc ad H locs ls hR hE hL hl (clS_c (clS_h hS) (clS_c (clS_h (clS_t hS)) (clS_c (clS_h hS) (clS_t (clS_t hS))))) ho h1 h2)
  · exact hs.elim
theorem s_dup2 (hd : decode (mB M) pc = .ok (.dup2, 1)) (hs : stW l G M C X n mc ms Q pc (.dup2) L S w cu su) : WP l G M n mc ms Q pc L S w cu su := by
  intro p e s m args below meth c Z ad0 w0 hF hc ad H locs ls hR hE hL hl hS ho h1 h2
  obtain ⟨hx, hb, -⟩ := id hF
  simp only [stW, stp] at hs
  split at hs
  · exact lv_dup2_11 hx hb hd (by rw [cat_ren, hs.1]; rfl) (by rw [cat_ren, hs.2.1]; rfl) (hs.2.2 p e s m args below meth c Z ad0 w0 hF hc ad H locs ls hR hE hL hl (clS_c (clS_h hS) (clS_c (clS_h (clS_t hS)) hS)) ho h1 h2)
  · exact hs.elim
theorem s_if_eq {off : Int} (hd : decode (mB M) pc = .ok (.ifCond .eq off, 3)) (hs : stW l G M C X n mc ms Q pc (.ifCond .eq off) L S w cu su) : WP l G M n mc ms Q pc L S w cu su := by
  intro p e s m args below meth c Z ad0 w0 hF hc ad H locs ls hR hE hL hl hS ho h1 h2
  obtain ⟨hx, hb, -⟩ := id hF
  simp only [stW, stp] at hs
  split at hs
  · rename_i x S2
    exact lv_if_eq hx hb hd (Int.toNat_of_nonneg hs.1).symm (fun z => ((hs.2.1 z) p e s m args below meth c Z ad0 w0 hF hc ad H locs ls hR hE hL hl (clS_t hS) ho h1 h2)) (fun z => ((hs.2.2 z) p e s m args below meth c Z ad0 w0 hF hc ad H locs ls hR hE hL hl (clS_t hS) ho h1 h2))
  · exact hs.elim
theorem s_icmp_eq {off : Int} (hd : decode (mB M) pc = .ok (.if_icmp .eq off, 3)) (hs : stW l G M C X n mc ms Q pc (.if_icmp .eq off) L S w cu su) : WP l G M n mc ms Q pc L S w cu su := by
  intro p e s m args below meth c Z ad0 w0 hF hc ad H locs ls hR hE hL hl hS ho h1 h2
  obtain ⟨hx, hb, -⟩ := id hF
  simp only [stW, stp] at hs
  split at hs
  · rename_i y x S2
    exact lv_icmp_eq hx hb hd (Int.toNat_of_nonneg hs.1).symm (fun z => ((hs.2.1 z) p e s m args below meth c Z ad0 w0 hF hc ad H locs ls hR hE hL hl (clS_t (clS_t hS)) ho h1 h2)) (fun z => ((hs.2.2 z) p e s m args below meth c Z ad0 w0 hF hc ad H locs ls hR hE hL hl (clS_t (clS_t hS)) ho h1 h2))
  · exact hs.elim
theorem s_if_ne {off : Int} (hd : decode (mB M) pc = .ok (.ifCond .ne off, 3)) (hs : stW l G M C X n mc ms Q pc (.ifCond .ne off) L S w cu su) : WP l G M n mc ms Q pc L S w cu su := by
  intro p e s m args below meth c Z ad0 w0 hF hc ad H locs ls hR hE hL hl hS ho h1 h2
  obtain ⟨hx, hb, -⟩ := id hF
  simp only [stW, stp] at hs
  split at hs
  · rename_i x S2
    exact lv_if_ne hx hb hd (Int.toNat_of_nonneg hs.1).symm (fun z => ((hs.2.1 z) p e s m args below meth c Z ad0 w0 hF hc ad H locs ls hR hE hL hl (clS_t hS) ho h1 h2)) (fun z => ((hs.2.2 z) p e s m args below meth c Z ad0 w0 hF hc ad H locs ls hR hE hL hl (clS_t hS) ho h1 h2))
  · exact hs.elim
theorem s_icmp_ne {off : Int} (hd : decode (mB M) pc = .ok (.if_icmp .ne off, 3)) (hs : stW l G M C X n mc ms Q pc (.if_icmp .ne off) L S w cu su) : WP l G M n mc ms Q pc L S w cu su := by
  intro p e s m args below meth c Z ad0 w0 hF hc ad H locs ls hR hE hL hl hS ho h1 h2
  obtain ⟨hx, hb, -⟩ := id hF
  simp only [stW, stp] at hs
  split at hs
  · rename_i y x S2
    exact lv_icmp_ne hx hb hd (Int.toNat_of_nonneg hs.1).symm (fun z => ((hs.2.1 z) p e s m args below meth c Z ad0 w0 hF hc ad H locs ls hR hE hL hl (clS_t (clS_t hS)) ho h1 h2)) (fun z => ((hs.2.2 z) p e s m args below meth c Z ad0 w0 hF hc ad H locs ls hR hE hL hl (clS_t (clS_t hS)) ho h1 h2))
  · exact hs.elim
theorem s_if_lt {off : Int} (hd : decode (mB M) pc = .ok (.ifCond .lt off, 3)) (hs : stW l G M C X n mc ms Q pc (.ifCond .lt off) L S w cu su) : WP l G M n mc ms Q pc L S w cu su := by
  intro p e s m args below meth c Z ad0 w0 hF hc ad H locs ls hR hE hL hl hS ho h1 h2
  obtain ⟨hx, hb, -⟩ := id hF
  simp only [stW, stp] at hs
  split at hs
  · rename_i x S2
    exact lv_if_lt hx hb hd (Int.toNat_of_nonneg hs.1).symm (fun z => ((hs.2.1 z) p e s m args below meth c Z ad0 w0 hF hc ad H locs ls hR hE hL hl (clS_t hS) ho h1 h2)) (fun z => ((hs.2.2 z) p e s m args below meth c Z ad0 w0 hF hc ad H locs ls hR hE hL hl (clS_t hS) ho h1 h2))
  · exact hs.elim
theorem s_icmp_lt {off : Int} (hd : decode (mB M) pc = .ok (.if_icmp .lt off, 3)) (hs : stW l G M C X n mc ms Q pc (.if_icmp .lt off) L S w cu su) : WP l G M n mc ms Q pc L S w cu su := by
  intro p e s m args below meth c Z ad0 w0 hF hc ad H locs ls hR hE hL hl hS ho h1 h2
  obtain ⟨hx, hb, -⟩ := id hF
  simp only [stW, stp] at hs
  split at hs
  · rename_i y x S2
    exact lv_icmp_lt hx hb hd (Int.toNat_of_nonneg hs.1).symm (fun z => ((hs.2.1 z) p e s m args below meth c Z ad0 w0 hF hc ad H locs ls hR hE hL hl (clS_t (clS_t hS)) ho h1 h2)) (fun z => ((hs.2.2 z) p e s m args below meth c Z ad0 w0 hF hc ad H locs ls hR hE hL hl (clS_t (clS_t hS)) ho h1 h2))
  · exact hs.elim
theorem s_if_ge {off : Int} (hd : decode (mB M) pc = .ok (.ifCond .ge off, 3)) (hs : stW l G M C X n mc ms Q pc (.ifCond .ge off) L S w cu su) : WP l G M n mc ms Q pc L S w cu su := by
  intro p e s m args below meth c Z ad0 w0 hF hc ad H locs ls hR hE hL hl hS ho h1 h2
  obtain ⟨hx, hb, -⟩ := id hF
  simp only [stW, stp] at hs
  split at hs
  · rename_i x S2
    exact lv_if_ge hx hb hd (Int.toNat_of_nonneg hs.1).symm (fun z => ((hs.2.1 z) p e s m args below meth c Z ad0 w0 hF hc ad H locs ls hR hE hL hl (clS_t hS) ho h1 h2)) (fun z => ((hs.2.2 z) p e s m args below meth c Z ad0 w0 hF hc ad H locs ls hR hE hL hl (clS_t hS) ho h1 h2))
  · exact hs.elim
theorem s_icmp_ge {off : Int} (hd : decode (mB M) pc = .ok (.if_icmp .ge off, 3)) (hs : stW l G M C X n mc ms Q pc (.if_icmp .ge off) L S w cu su) : WP l G M n mc ms Q pc L S w cu su := by
  intro p e s m args below meth c Z ad0 w0 hF hc ad H locs ls hR hE hL hl hS ho h1 h2
  obtain ⟨hx, hb, -⟩ := id hF
  simp only [stW, stp] at hs
  split at hs
  · rename_i y x S2
    exact lv_icmp_ge hx hb hd (Int.toNat_of_nonneg hs.1).symm (fun z => ((hs.2.1 z) p e s m args below meth c Z ad0 w0 hF hc ad H locs ls hR hE hL hl (clS_t (clS_t hS)) ho h1 h2)) (fun z => ((hs.2.2 z) p e s m args below meth c Z ad0 w0 hF hc ad H locs ls hR hE hL hl (clS_t (clS_t hS)) ho h1 h2))
  · exact hs.elim
theorem s_if_gt {off : Int} (hd : decode (mB M) pc = .ok (.ifCond .gt off, 3)) (hs : stW l G M C X n mc ms Q pc (.ifCond .gt off) L S w cu su) : WP l G M n mc ms Q pc L S w cu su := by
  intro p e s m args below meth c Z ad0 w0 hF hc ad H locs ls hR hE hL hl hS ho h1 h2
  obtain ⟨hx, hb, -⟩ := id hF
  simp only [stW, stp] at hs
  split at hs
  · rename_i x S2
    exact lv_if_gt hx hb hd (Int.toNat_of_nonneg hs.1).symm (fun z => ((hs.2.1 z) p e s m args below meth c Z ad0 w0 hF hc ad H locs ls hR hE hL hl (clS_t hS) ho h1 h2)) (fun z => ((hs.2.2 z) p e s m args below meth c Z ad0 w0 hF hc ad H locs ls hR hE hL hl (clS_t hS) ho h1 h2))
  · exact hs.elim
theorem s_icmp_gt {off : Int} (hd : decode (mB M) pc = .ok (.if_icmp .gt off, 3)) (hs : stW l G M C X n mc ms Q pc (.if_icmp .gt off) L S w cu su) : WP l G M n mc ms Q pc L S w cu su := by
  intro p e s m args below meth c Z ad0 w0 hF hc ad H locs ls hR hE hL hl hS ho h1 h2
  obtain ⟨hx, hb, -⟩ := id hF
  simp only [stW, stp] at hs
  split at hs
  · rename_i y x S2
    exact lv_icmp_gt hx hb hd (Int.toNat_of_nonneg hs.1).symm (fun z => ((hs.2.1 z) p e s m args below meth c Z ad0 w0 hF hc ad H locs ls hR hE hL hl (clS_t (clS_t hS)) ho h1 h2)) (fun z => ((hs.2.2 z) p e s m args below meth c Z ad0 w0 hF hc ad H locs ls hR hE hL hl (clS_t (clS_t hS)) ho h1 h2))
  · exact hs.elim
theorem s_if_le {off : Int} (hd : decode (mB M) pc = .ok (.ifCond .le off, 3)) (hs : stW l G M C X n mc ms Q pc (.ifCond .le off) L S w cu su) : WP l G M n mc ms Q pc L S w cu su := by
  intro p e s m args below meth c Z ad0 w0 hF hc ad H locs ls hR hE hL hl hS ho h1 h2
  obtain ⟨hx, hb, -⟩ := id hF
  simp only [stW, stp] at hs
  split at hs
  · rename_i x S2
    exact lv_if_le hx hb hd (Int.toNat_of_nonneg hs.1).symm (fun z => ((hs.2.1 z) p e s m args below meth c Z ad0 w0 hF hc ad H locs ls hR hE hL hl (clS_t hS) ho h1 h2)) (fun z => ((hs.2.2 z) p e s m args below meth c Z ad0 w0 hF hc ad H locs ls hR hE hL hl (clS_t hS) ho h1 h2))
  · exact hs.elim
theorem s_icmp_le {off : Int} (hd : decode (mB M) pc = .ok (.if_icmp .le off, 3)) (hs : stW l G M C X n mc ms Q pc (.if_icmp .le off) L S w cu su) : WP l G M n mc ms Q pc L S w cu su := by
  intro p e s m args below meth c Z ad0 w0 hF hc ad H locs ls hR hE hL hl hS ho h1 h2
  obtain ⟨hx, hb, -⟩ := id hF
  simp only [stW, stp] at hs
  split at hs
  · rename_i y x S2
    exact lv_icmp_le hx hb hd (Int.toNat_of_nonneg hs.1).symm (fun z => ((hs.2.1 z) p e s m args below meth c Z ad0 w0 hF hc ad H locs ls hR hE hL hl (clS_t (clS_t hS)) ho h1 h2)) (fun z => ((hs.2.2 z) p e s m args below meth c Z ad0 w0 hF hc ad H locs ls hR hE hL hl (clS_t (clS_t hS)) ho h1 h2))
  · exact hs.elim
theorem s_goto {off : Int} (hd : decode (mB M) pc = .ok (.goto off, 3)) (hs : stW l G M C X n mc ms Q pc (.goto off) L S w cu su) : WP l G M n mc ms Q pc L S w cu su := by
  intro p e s m args below meth c Z ad0 w0 hF hc ad H locs ls hR hE hL hl hS ho h1 h2
  obtain ⟨hx, hb, -⟩ := id hF
  simp only [stW, stp] at hs
  obtain ⟨t, ht, hk⟩ := jmp_go hs
  exact lv_goto hx hb hd ht (hk p e s m args below meth c Z ad0 w0 hF hc ad H locs ls hR hE hL hl hS ho h1 h2)
end S1
end
section
/-! the classes in the tables -/
theorem gT_at {i : Nat} {w : Cond} (h : lw_tbl[i]? = some w) (hg : goodWord w = true) : w ∈ goodT := List.mem_filter.mpr ⟨List.mem_of_getElem? h, hg⟩
theorem gT_in (ws : List Cond) (ps : List Nat) (hp : ws = ps.filterMap (fun i => lw_tbl[i]?)) (hg : ws.all goodWord = true) : ∀ w ∈ ws, w ∈ goodT := by
  intro w hw
  have h1 := List.all_eq_true.mp hg w hw
  rw [hp] at hw
  obtain ⟨i, -, hi⟩ := List.mem_filterMap.mp hw
  exact gT_at hi h1
set_option maxRecDepth 100000 in
theorem clsIn_0 : ∀ w ∈ u_ws RX11 TX11 10, w ∈ goodT := gT_in _ [314, 316, 318, 320, 322, 324, 326, 328, 330, 332] (by decide +kernel) (by decide +kernel)
set_option maxRecDepth 100000 in
theorem clsIn_1 : ∀ w ∈ u_ws RX10 TX10 5, w ∈ goodT := gT_in _ [143, 145, 147, 149, 151] (by decide +kernel) (by decide +kernel)
set_option maxRecDepth 100000 in
theorem clsIn_2 : ∀ w ∈ u_ws RJx4a65c TJx4a65c 3, w ∈ goodT := gT_in _ [131, 127, 129] (by decide +kernel) (by decide +kernel)
set_option maxRecDepth 100000 in
theorem clsIn_3 : ∀ w ∈ u_ws RX8 TX8 3, w ∈ goodT := gT_in _ [168, 170, 172] (by decide +kernel) (by decide +kernel)
set_option maxRecDepth 100000 in
theorem clsIn_4 : ∀ w ∈ u_ws RX6 TX6 1, w ∈ goodT := gT_in _ [185] (by decide +kernel) (by decide +kernel)
set_option maxRecDepth 100000 in
theorem clsIn_5 : ∀ w ∈ u_ws RX2 TX2 3, w ∈ goodT := gT_in _ [198, 200, 202] (by decide +kernel) (by decide +kernel)
set_option maxRecDepth 100000 in
theorem clsIn_6 : ∀ w ∈ u_ws RX3 TX3 15, w ∈ goodT := gT_in _ [253, 255, 257, 259, 261, 263, 265, 267, 269, 271, 273, 275, 277, 279, 281] (by decide +kernel) (by decide +kernel)
set_option maxRecDepth 100000 in
theorem clsIn_7 : ∀ w ∈ u_ws RX4 TX4 3, w ∈ goodT := gT_in _ [295, 297, 299] (by decide +kernel) (by decide +kernel)
set_option maxRecDepth 100000 in
theorem clsIn_8 : ∀ w ∈ u_ws RX9 TX9 4, w ∈ goodT := gT_in _ [227, 229, 231, 233] (by decide +kernel) (by decide +kernel)
set_option maxRecDepth 100000 in
theorem clsIn_9 : ∀ w ∈ u_ws RX0 TX0 5, w ∈ goodT := gT_in _ [379, 381, 383, 385, 387] (by decide +kernel) (by decide +kernel)
set_option maxRecDepth 100000 in
theorem clsIn_10 : ∀ w ∈ u_ws RX1 TX1 11, w ∈ goodT := gT_in _ [608, 610, 612, 614, 616, 618, 620, 622, 624, 626, 628] (by decide +kernel) (by decide +kernel)
set_option maxRecDepth 100000 in
theorem clsIn_11 : ∀ w ∈ u_ws RX7 TX7 11, w ∈ goodT := gT_in _ [560, 562, 564, 566, 568, 570, 572, 574, 576, 578, 580] (by decide +kernel) (by decide +kernel)
set_option maxRecDepth 100000 in
theorem clsIn_12 : ∀ w ∈ u_ws RX5 TX5 9, w ∈ goodT := gT_in _ [871, 873, 875, 877, 879, 881, 883, 885, 887] (by decide +kernel) (by decide +kernel)
set_option maxRecDepth 100000 in
theorem clsIn_13 : ∀ w ∈ u_ws RX12 TX12 69, w ∈ goodT := gT_in _ [1264, 1266, 1268, 1270, 1272, 1274, 1276, 1278, 1280, 1282, 1284, 1286, 1288, 1290, 1292, 1294, 1296, 1298, 1300, 1302, 1304, 1306, 1308, 1310, 1312, 1314, 1316, 1318, 1320, 1322, 1324, 1326, 1328, 1330, 1332, 1334, 1336, 1338, 1340, 1342, 1344, 1346, 1348, 1350, 1352, 1354, 1356, 1358, 1360, 1362, 1364, 1366, 1368, 1370, 1372, 1374, 1376, 1378, 1380, 1382, 1384, 1386, 1388, 1390, 1392, 1394, 1396, 1398, 1400] (by decide +kernel) (by decide +kernel)
theorem clsIn {ci : Nat} (h : ci < 14) : ∀ w ∈ u_ws (clsN ci).1 (clsN ci).2.1 (clsN ci).2.2, w ∈ goodT := by
  match ci, h with
  | 0, _ => exact clsIn_0
  | 1, _ => exact clsIn_1
  | 2, _ => exact clsIn_2
  | 3, _ => exact clsIn_3
  | 4, _ => exact clsIn_4
  | 5, _ => exact clsIn_5
  | 6, _ => exact clsIn_6
  | 7, _ => exact clsIn_7
  | 8, _ => exact clsIn_8
  | 9, _ => exact clsIn_9
  | 10, _ => exact clsIn_10
  | 11, _ => exact clsIn_11
  | 12, _ => exact clsIn_12
  | 13, _ => exact clsIn_13
theorem clsTy {ci : Nat} (h : ci < 14) : ∀ k, k < (clsN ci).2.2 → parseFieldDescriptor ((clsN ci).2.1 k).2.2.1 = some (cTy ci k) := by
  match ci, h with
  | 0, _ => exact tyX11_ok
  | 1, _ => exact tyX10_ok
  | 2, _ => exact tyJx4a65c_ok
  | 3, _ => exact tyX8_ok
  | 4, _ => exact tyX6_ok
  | 5, _ => exact tyX2_ok
  | 6, _ => exact tyX3_ok
  | 7, _ => exact tyX4_ok
  | 8, _ => exact tyX9_ok
  | 9, _ => exact tyX0_ok
  | 10, _ => exact tyX1_ok
  | 11, _ => exact tyX7_ok
  | 12, _ => exact tyX5_ok
  | 13, _ => exact tyX12_ok
theorem clsNm {ci : Nat} (h : ci < 14) : ∀ a, a < (clsN ci).2.2 → ∀ b, b < (clsN ci).2.2 → a ≠ b → ((clsN ci).2.1 a).2.1 ≠ ((clsN ci).2.1 b).2.1 := by
  match ci, h with
  | 0, _ => exact nmX11
  | 1, _ => exact nmX10
  | 2, _ => exact nmJx4a65c
  | 3, _ => exact nmX8
  | 4, _ => exact nmX6
  | 5, _ => exact nmX2
  | 6, _ => exact nmX3
  | 7, _ => exact nmX4
  | 8, _ => exact nmX9
  | 9, _ => exact nmX0
  | 10, _ => exact nmX1
  | 11, _ => exact nmX7
  | 12, _ => exact nmX5
  | 13, _ => exact nmX12
theorem clsAt {ci : Nat} (h : ci < 14) : cls[ci]? = some (clsN ci) := by
  match ci, h with
  | 0, _ => rfl
  | 1, _ => rfl
  | 2, _ => rfl
  | 3, _ => rfl
  | 4, _ => rfl
  | 5, _ => rfl
  | 6, _ => rfl
  | 7, _ => rfl
  | 8, _ => rfl
  | 9, _ => rfl
  | 10, _ => rfl
  | 11, _ => rfl
  | 12, _ => rfl
  | 13, _ => rfl
end
section
/-! instructions on cells of the world -/
theorem cOk_kept {G : Gc} {t a n : Nat} {V : Nat → Value} {H H' : Heap} (h : cOk G t a n V H) (hq : H'[a]? = H[a]?) : cOk G t a n V H' := by
  unfold cOk at h ⊢
  split at h
  · rename_i ht
    rw [if_pos ht]
    obtain ⟨r, h1, h2⟩ := h
    exact ⟨r, h1, h2.kept hq⟩
  · rename_i ht
    rw [if_neg ht, hq]
    exact h
theorem cOk_lt {G : Gc} {t a n : Nat} {V : Nat → Value} {H : Heap} (h : cOk G t a n V H) : a < H.size := by
  unfold cOk at h
  split at h
  · obtain ⟨r, h1, cell, h2, -⟩ := h
    exact (Array.getElem?_eq_some_iff.mp h2).1
  · exact (Array.getElem?_eq_some_iff.mp h).1
theorem vAt_sI_ne {ad : Nat → Nat → Nat} {w : Wd} {t k i t' k' : Nat} {v : Int32} (h : ¬ (t' = t ∧ k' = k)) : vAt ad (sI w t k i v) t' k' = vAt ad w t' k' := by
  funext j
  simp only [vAt, wR_sI, wI_sI]
  rw [if_neg (show ¬ (t' = t ∧ k' = k ∧ j = i) from fun q => h ⟨q.1, q.2.1⟩)]
theorem vAt_sR_ne {ad : Nat → Nat → Nat} {w : Wd} {t k i t' k' : Nat} {v : Option (Nat × Nat)} (h : ¬ (t' = t ∧ k' = k)) : vAt ad (sR w t k i v) t' k' = vAt ad w t' k' := by
  funext j
  simp only [vAt, wI_sR, wR_sR]
  rw [if_neg (show ¬ (t' = t ∧ k' = k ∧ j = i) from fun q => h ⟨q.1, q.2.1⟩)]
theorem vAt_sI_at {ad : Nat → Nat → Nat} {w : Wd} {t k i : Nat} {v : Int32} (h : rp t i = false) (j : Nat) : updV (vAt ad w t k) i (.int v) j = vAt ad (sI w t k i v) t k j := by
  simp only [updV, vAt, wI_sI, wR_sI]
  by_cases e : j = i
  · subst e
    simp [h]
  · simp [e]
theorem vAt_sR_at {ad : Nat → Nat → Nat} {w : Wd} {t k i : Nat} {v : Option (Nat × Nat)} (h : rp t i = true) (j : Nat) : updV (vAt ad w t k) i (renR ad v) j = vAt ad (sR w t k i v) t k j := by
  simp only [updV, vAt, wI_sR, wR_sR]
  by_cases e : j = i
  · subst e
    simp [h]
  · simp [e]
theorem Rel_sI {G : Gc} {ad : Nat → Nat → Nat} {w : Wd} {H H' : Heap} {t k i : Nat} {v : Int32} (hR : Rel G ad w H) (ht : t < 900) (hk : k < wC w t) (hc : cOk G t (ad t k) (wN w t k) (vAt ad (sI w t k i v) t k) H') (hz : H'.size = H.size) (oq : ∀ q, q ≠ ad t k → H'[q]? = H[q]?) : Rel G ad (sI w t k i v) H' := by
  obtain ⟨r1, r2, r3, r4, r5, r6⟩ := hR
  refine ⟨fun t' k' h1 h2 => ?_, r2, r3, r4, by rw [hz]; exact r5, fun q hq => ?_⟩
  · by_cases e : t' = t ∧ k' = k
    · obtain ⟨rfl, rfl⟩ := e
      exact ⟨hc, (r1 _ _ ht hk).2⟩
    · rw [vAt_sI_ne e]
      refine ⟨cOk_kept (r1 t' k' h1 h2).1 (oq _ (fun z => e ?_)), (r1 t' k' h1 h2).2⟩
      exact r2 t' k' t k h1 ht h2 hk z
  · rw [oq q (fun z => ?_)]
    · exact r6 q hq
    · have := (r1 t k ht hk).2
      omega
theorem Rel_sR {G : Gc} {ad : Nat → Nat → Nat} {w : Wd} {H H' : Heap} {t k i : Nat} {v : Option (Nat × Nat)} (hR : Rel G ad w H) (ht : t < 900) (hk : k < wC w t) (hv : clV w (.inr (.inr v))) (hc : cOk G t (ad t k) (wN w t k) (vAt ad (sR w t k i v) t k) H') (hz : H'.size = H.size) (oq : ∀ q, q ≠ ad t k → H'[q]? = H[q]?) : Rel G ad (sR w t k i v) H' := by
  obtain ⟨r1, r2, r3, r4, r5, r6⟩ := hR
  refine ⟨fun t' k' h1 h2 => ?_, r2, fun t' k' j q h1 h2 => ?_, r4, by rw [hz]; exact r5, fun q hq => ?_⟩
  · by_cases e : t' = t ∧ k' = k
    · obtain ⟨rfl, rfl⟩ := e
      exact ⟨hc, (r1 _ _ ht hk).2⟩
    · rw [vAt_sR_ne e]
      refine ⟨cOk_kept (r1 t' k' h1 h2).1 (oq _ (fun z => e ?_)), (r1 t' k' h1 h2).2⟩
      exact r2 t' k' t k h1 ht h2 hk z
  · rw [wR_sR] at h2
    split at h2
    · subst h2
      exact hv
    · exact r3 t' k' j q h1 h2
  · rw [oq q (fun z => ?_)]
    · exact r6 q hq
    · have := (r1 t k ht hk).2
      omega
theorem Exd_sI {ad0 ad : Nat → Nat → Nat} {w0 w : Wd} {t k i : Nat} {v : Int32} (h : Exd ad0 w0 ad w) : Exd ad0 w0 ad (sI w t k i v) := h
theorem Exd_sR {ad0 ad : Nat → Nat → Nat} {w0 w : Wd} {t k i : Nat} {v : Option (Nat × Nat)} (h : Exd ad0 w0 ad w) : Exd ad0 w0 ad (sR w t k i v) := h
theorem locs_app {G : Gc} {locs : List Loc} {q : Loc} (h : locsOk G locs) (hq : gOut G q.base) : locsOk G (locs ++ [q]) := fun x hx => by
  rcases List.mem_append.mp hx with h1 | h1
  · exact h x h1
  · rw [List.mem_singleton.mp h1]; exact hq
/-- a field of the class's constants, linked -/
def fldOk (own : String) (idx ci k : Nat) : Prop := ci < 14 ∧ k < (clsN ci).2.2 ∧ ∃ ref, Cond.fieldLink own idx ref ((clsN ci).2.1 k).2.1 ((clsN ci).2.1 k).2.2.1 ∈ goodT ∧ (ref = ((clsN ci).2.1 k).1 ∨ Cond.sameField ref ((clsN ci).2.1 k).1 ((clsN ci).2.1 k).2.1 ((clsN ci).2.1 k).2.2.1 ∈ goodT)
theorem rp_lt {t i : Nat} (h : t < 14) : rp t i = rTy (cTy t i) := by simp [rp, show t < 20 by omega]
theorem eTy_int {t : Nat} (h : t < 200) : ak t = 0 := by simp [ak, h]
theorem eTy_bool {t : Nat} (h : 200 ≤ t) (h2 : t < 300) : ak t = 1 := by simp [ak, show ¬ t < 200 by omega, h2]
theorem ak_in (t : Nat) : ak t < 5 := by unfold ak; split <;> (try split) <;> (try split) <;> (try split) <;> omega
theorem KK_arr {G : Gc} {s : State} (h : KK G s) (a : Nat) (ha : a < 5) : ArrOfT s (gA G a) (eTk a) := by
  match a, ha with
  | 0, _ => exact (h.1.2 0 _ rfl).1
  | 1, _ => exact (h.1.2 1 _ rfl).1
  | 2, _ => exact (h.1.2 2 _ rfl).1
  | 3, _ => exact (h.1.2 3 _ rfl).1
  | 4, _ => exact (h.1.2 4 _ rfl).1
theorem nar_narrow {ty : FieldType} {v : Int32} (h : nar (some ty) v) : narrow ty (.int v) = .int v ∧ fits ty (.int v) = true := by
  cases ty <;> simp only [nar] at h <;> try exact h.elim
  · exact ⟨by rw [show narrow .byte (.int v) = .int v.toInt8.toInt32 from rfl, h]; rfl, by rw [h]; decide⟩
  · obtain ⟨j, hj, rfl⟩ := nI_of2 (M := 255) (n := 255) (x := v) rfl (by exact Int32.not_lt.mpr h.1) h.2
    exact pk_charN (by omega)
  · exact ⟨rfl, rfl⟩
  · rcases h with rfl | rfl <;> decide
section S2
variable {l : Launch} {G : Gc} {M : MI} {C : CE} {X : XE} {n mc ms : Nat} {Q : Option AV → Wd → Prop} {pc : Nat} {L : List (Option AV)} {S : List AV} {w : Wd} {cu su : Nat}
theorem s_ifnull {off : Int} (hd : decode (mB M) pc = .ok (.ifnull off, 3)) (hs : stW l G M C X n mc ms Q pc (.ifnull off) L S w cu su) : WP l G M n mc ms Q pc L S w cu su := by
  intro p e s m args below meth c Z ad0 w0 hF hc ad H locs ls hR hE hL hl hS ho h1 h2
  obtain ⟨hx, hb, -⟩ := id hF
  simp only [stW, stp] at hs
  split at hs
  · obtain ⟨t, ht, hk⟩ := jmp_go hs
    exact lv_ifnullN hx hb hd ht (hk p e s m args below meth c Z ad0 w0 hF hc ad H locs ls hR hE hL hl (clS_t hS) ho h1 h2)
  · exact lv_ifnull hx hb hd (hs p e s m args below meth c Z ad0 w0 hF hc ad H locs ls hR hE hL hl (clS_t hS) ho h1 h2)
  · exact hs.elim
theorem s_ifnonnull {off : Int} (hd : decode (mB M) pc = .ok (.ifnonnull off, 3)) (hs : stW l G M C X n mc ms Q pc (.ifnonnull off) L S w cu su) : WP l G M n mc ms Q pc L S w cu su := by
  intro p e s m args below meth c Z ad0 w0 hF hc ad H locs ls hR hE hL hl hS ho h1 h2
  obtain ⟨hx, hb, -⟩ := id hF
  simp only [stW, stp] at hs
  split at hs
  · exact lv_ifnonnullN hx hb hd (hs p e s m args below meth c Z ad0 w0 hF hc ad H locs ls hR hE hL hl (clS_t hS) ho h1 h2)
  · obtain ⟨t, ht, hk⟩ := jmp_go hs
    exact lv_ifnonnull hx hb hd ht (hk p e s m args below meth c Z ad0 w0 hF hc ad H locs ls hR hE hL hl (clS_t hS) ho h1 h2)
  · exact hs.elim
theorem s_table {d lo hi : Int} {offs : Array Int} {len : Nat} (hd : decode (mB M) pc = .ok (.tableswitch d lo hi offs, len)) (hs : stW l G M C X n mc ms Q pc (.tableswitch d lo hi offs) L S w cu su) : WP l G M n mc ms Q pc L S w cu su := by
  intro p e s m args below meth c Z ad0 w0 hF hc ad H locs ls hR hE hL hl hS ho h1 h2
  obtain ⟨hx, hb, -⟩ := id hF
  simp only [stW, stp] at hs
  split at hs
  · rename_i x S2
    split at hs
    · rename_i hq
      obtain ⟨t, ht, hk⟩ := jmp_go hs
      exact lv_tableOut hx hb hd hq ht (hk p e s m args below meth c Z ad0 w0 hF hc ad H locs ls hR hE hL hl (clS_t hS) ho h1 h2)
    · rename_i hq
      split at hs
      · rename_i off hoff
        obtain ⟨t, ht, hk⟩ := jmp_go hs
        exact lv_tableIn hx hb hd (fun z => hq (Or.inl z)) (fun z => hq (Or.inr z)) hoff ht (hk p e s m args below meth c Z ad0 w0 hF hc ad H locs ls hR hE hL hl (clS_t hS) ho h1 h2)
      · exact hs.elim
  · exact hs.elim
theorem s_lookup {d : Int} {ps : Array (Int × Int)} {len : Nat} (hd : decode (mB M) pc = .ok (.lookupswitch d ps, len)) (hs : stW l G M C X n mc ms Q pc (.lookupswitch d ps) L S w cu su) : WP l G M n mc ms Q pc L S w cu su := by
  intro p e s m args below meth c Z ad0 w0 hF hc ad H locs ls hR hE hL hl hS ho h1 h2
  obtain ⟨hx, hb, -⟩ := id hF
  simp only [stW, stp] at hs
  split at hs
  · obtain ⟨t, ht, hk⟩ := jmp_go hs.2
    exact lv_lookup hx hb hd hs.1 rfl ht (hk p e s m args below meth c Z ad0 w0 hF hc ad H locs ls hR hE hL hl (clS_t hS) ho h1 h2)
  · exact hs.elim
theorem s_getfield {idx : Nat} (hf : ∀ ci k, ceF C idx = some (ci, k) → fldOk (mOwn M) idx ci k) (hd : decode (mB M) pc = .ok (.getfield idx, 3)) (hs : stW l G M C X n mc ms Q pc (.getfield idx) L S w cu su) : WP l G M n mc ms Q pc L S w cu su := by
  intro p e s m args below meth c Z ad0 w0 hF hc ad H locs ls hR hE hL hl hS ho h1 h2
  obtain ⟨hx, hb, hr, hml, hown, hts, hKK, hlk, hnm⟩ := id hF
  simp only [stW, stp] at hs
  split at hs
  · rename_i ci k hce
    split at hs
    · rename_i S0 t j S2
      obtain ⟨rfl, hj, hk⟩ := hs
      obtain ⟨c14, ck, ref, hlink, hsame⟩ := hf _ _ hce
      obtain ⟨hcell, -⟩ := hR.1 t j (by omega) hj
      rw [cOk, if_pos (by omega)] at hcell
      obtain ⟨r, hcr, cell, q1, q2, q3, q4⟩ := hcell
      have hr0 : r = clsN t := Option.some.inj (hcr.symm.trans (clsAt c14))
      subst hr0
      obtain ⟨hSl, hfc, kC, hkC, hkind⟩ := hKK.1.1 t _ (clsAt c14)
      obtain ⟨cf, kf, fi, f, hi, hsl⟩ := hSl k ck
      have hi2 : s.fieldFound? ref ((clsN t).2.1 k).2.1 ((clsN t).2.1 k).2.2.1 = some (cf, kf, fi, f) := by
        rcases hsame with h | h
        · rw [h]; exact hi
        · exact u_same (hts _ h) _ hi
      refine W.getf hx hb hown (hts _ hlink) hi2 (u_facts hfc hkC (u_lays hts (clsIn c14) ck) hi).1 q1 (by rw [q3]; exact fun h => by cases h) (v := vAt ad w t j k) (by rw [hsl]; exact q4 k ck) rfl rfl hd ?_
      have hv : vAt ad w t j k = renV ad (if rp t k = true then .inr (.inr (wR w t j k)) else .inl (wI w t j k)) := by
        unfold vAt
        split <;> rfl
      rw [hv]
      refine hk p e s m args below meth c Z ad0 w0 hF hc ad H locs ls hR hE hL hl (clS_c ?_ (clS_t hS)) ho h1 h2
      split
      · cases hw : wR w t j k with
        | none => trivial
        | some q => exact hR.2.2.1 _ _ _ _ hj hw
      · trivial
    · exact hs.elim
  · exact hs.elim
theorem s_putfield {idx : Nat} (hf : ∀ ci k, ceF C idx = some (ci, k) → fldOk (mOwn M) idx ci k) (hd : decode (mB M) pc = .ok (.putfield idx, 3)) (hs : stW l G M C X n mc ms Q pc (.putfield idx) L S w cu su) : WP l G M n mc ms Q pc L S w cu su := by
  intro p e s m args below meth c Z ad0 w0 hF hc ad H locs ls hR hE hL hl hS ho h1 h2
  obtain ⟨hx, hb, hr, hml, hown, hts, hKK, hlk, hnm⟩ := id hF
  simp only [stW, stp] at hs
  split at hs
  · rename_i ci k hce
    split at hs
    · rename_i S0 x t j S2
      obtain ⟨rfl, hj, hrp, hfin, hnar, hk⟩ := hs
      obtain ⟨c14, ck, ref, hlink, hsame⟩ := hf _ _ hce
      obtain ⟨hcell, hge⟩ := hR.1 t j (by omega) hj
      rw [cOk, if_pos (by omega)] at hcell
      obtain ⟨r, hcr, cell, q1, q2, q3, q4⟩ := hcell
      have hr0 : r = clsN t := Option.some.inj (hcr.symm.trans (clsAt c14))
      subst hr0
      obtain ⟨hSl, hfc, kC, hkC, hkind⟩ := hKK.1.1 t _ (clsAt c14)
      obtain ⟨cf, kf, fi, f, hi, hsl⟩ := hSl k ck
      have hi2 : s.fieldFound? ref ((clsN t).2.1 k).2.1 ((clsN t).2.1 k).2.2.1 = some (cf, kf, fi, f) := by
        rcases hsame with h | h
        · rw [h]; exact hi
        · exact u_same (hts _ h) _ hi
      have hlay := hts _ (clsIn c14 _ (u_in_lay ck))
      unfold u_lay at hlay
      rw [if_neg (by rw [hfin]; decide)] at hlay
      have hst := (u_facts hfc hkC (u_lays hts (clsIn c14) ck) hi).1
      obtain ⟨n1, n2⟩ := nar_narrow hnar
      have h6 := u_store hfc hkC hkind hlay hi (clsTy c14 k ck) n1 n2
      have hap := va_apart (own := mOwn M) hts (clsIn c14) (cTy t) (clsTy c14) (clsNm c14) hKK.1 (clsAt c14)
      refine W.putK hx hb (f := f) ⟨hown, hts _ hlink, ⟨_, _, _, hi2⟩, hst⟩ (by rw [q2]; exact h6) q1 q3 (by rw [hsl]; exact k2_hasslot (q4 k ck)) rfl rfl hd fun H' e1 e2 e3 => ?_
      rw [hsl] at e1 ⊢
      refine hk p e s m args below meth c Z ad0 w0 hF hc ad H' _ ls (Rel_sI hR (by omega) hj ?_ e2 e3) hE hL hl (clS_t (clS_t hS)) (locs_app ho hge) h1 h2
      rw [cOk, if_pos (by omega)]
      exact ⟨_, hcr, t_OB.to (V := updV (vAt ad w t j) k (.int x)) ⟨_, e1, q2, q3, t_set q4 hap ck _⟩ (fun i _ => vAt_sI_at hrp i)⟩
    · exact hs.elim
  · exact hs.elim
theorem arr_in {t : Nat} (h : 20 ≤ t) (h2 : t < 900) {w : Wd} {ad : Nat → Nat → Nat} {H : Heap} {j : Nat} (hR : Rel G ad w H) (hj : j < wC w t) : H[ad t j]? = some (arrV (gA G (ak t)) (wN w t j) (vAt ad w t j)) ∧ n0 G ≤ ad t j := by
  obtain ⟨h3, h4⟩ := hR.1 t j h2 hj
  rw [cOk, if_neg (by omega)] at h3
  exact ⟨h3, h4⟩
theorem rp_arr {t i : Nat} (h : 20 ≤ t) : rp t i = rTy (eTy t) := by simp [rp, show ¬ t < 20 by omega]
theorem s_iaload (hd : decode (mB M) pc = .ok (.iaload, 1)) (hs : stW l G M C X n mc ms Q pc (.iaload) L S w cu su) : WP l G M n mc ms Q pc L S w cu su := by
  intro p e s m args below meth c Z ad0 w0 hF hc ad H locs ls hR hE hL hl hS ho h1 h2
  obtain ⟨hx, hb, hr, hml, hown, hts, hKK, hlk, hnm⟩ := id hF
  simp only [stW, stp] at hs
  split at hs
  · rename_i S0 i t j S2
    split at hs
    · rename_i ht
      subst ht
      obtain ⟨rfl, hin, hk⟩ := hs
      obtain ⟨scr, x1, x2, x3, x4, x5⟩ := hKK.2.2.2.2.2.2.2.2.2.2.2
      have hbl : gX G 901 0 < n0 G := (Array.getElem?_eq_some_iff.mp x1).1
      have ha : ad 901 0 = gX G 901 0 := hR.2.2.2.1 901 0 (by omega)
      have hlt : i.toNatClampNeg < gL G := Nat.not_le.mp fun q => hin (Or.inr q)
      refine W.iald (v := .int (gS G i.toNatClampNeg)) hx hb (a := ad 901 0) (cell := scr) (by rw [ha, hR.2.2.2.2.2 _ hbl]; exact x1) x2 x3 (by rw [x4]; exact hin) (x5 _ hlt) rfl rfl hd ?_
      exact hk p e s m args below meth c Z ad0 w0 hF hc ad H locs ls hR hE hL hl (clS_c trivial (clS_t (clS_t hS))) ho h1 h2
    · obtain ⟨t1, t2, hj, hin, hk⟩ := hs
      obtain ⟨a1, a2⟩ := arr_in t1 (by omega) hR hj
      have hA := KK_arr hKK (ak t) (ak_in t)
      rw [eTy_int t2] at hA a1
      have hlt : i.toNatClampNeg < wN w t j := Nat.not_le.mp fun q => hin (Or.inr q)
      refine W.iald (v := vAt ad w t j i.toNatClampNeg) hx hb a1 (hA _ _) (fun q => by cases q) (by rw [arrV_size]; exact hin) (by rw [arrV_read _ _ hlt]) rfl rfl hd ?_
      have hv : vAt ad w t j i.toNatClampNeg = .int (wI w t j i.toNatClampNeg) := by rw [vAt, rp_arr t1, eTy, eTy_int t2]; rfl
      rw [hv]
      exact hk p e s m args below meth c Z ad0 w0 hF hc ad H locs ls hR hE hL hl (clS_c trivial (clS_t (clS_t hS))) ho h1 h2
  · exact hs.elim
theorem s_baload (hd : decode (mB M) pc = .ok (.baload, 1)) (hs : stW l G M C X n mc ms Q pc (.baload) L S w cu su) : WP l G M n mc ms Q pc L S w cu su := by
  intro p e s m args below meth c Z ad0 w0 hF hc ad H locs ls hR hE hL hl hS ho h1 h2
  obtain ⟨hx, hb, hr, hml, hown, hts, hKK, hlk, hnm⟩ := id hF
  simp only [stW, stp] at hs
  split at hs
  · rename_i S0 i t j S2
    obtain ⟨t1, t2, hj, hin, hk⟩ := hs
    obtain ⟨a1, a2⟩ := arr_in (by omega) (by omega) hR hj
    have hA := KK_arr hKK (ak t) (ak_in t)
    rw [eTy_bool t1 t2] at hA a1
    have hlt : i.toNatClampNeg < wN w t j := Nat.not_le.mp fun q => hin (Or.inr q)
    refine W.zald (v := vAt ad w t j i.toNatClampNeg) hx hb a1 (hA _ _) (fun q => by cases q) (by rw [arrV_size]; exact hin) (by rw [arrV_read _ _ hlt]) rfl rfl hd ?_
    have hv : vAt ad w t j i.toNatClampNeg = .int (wI w t j i.toNatClampNeg) := by rw [vAt, rp_arr (by omega), eTy, eTy_bool t1 t2]; rfl
    rw [hv]
    exact hk p e s m args below meth c Z ad0 w0 hF hc ad H locs ls hR hE hL hl (clS_c trivial (clS_t (clS_t hS))) ho h1 h2
  · exact hs.elim
theorem ref_arr {t : Nat} (h : 300 ≤ t) : rTy (eTy t) = true := by
  unfold eTy ak
  rw [if_neg (by omega), if_neg (by omega)]
  split
  · rfl
  · split <;> rfl
theorem ref_isRef {t : Nat} (h : 300 ≤ t) : (eTy t).isReference = true := by
  unfold eTy ak
  rw [if_neg (by omega), if_neg (by omega)]
  split
  · rfl
  · split <;> rfl
theorem s_aaload (hd : decode (mB M) pc = .ok (.aaload, 1)) (hs : stW l G M C X n mc ms Q pc (.aaload) L S w cu su) : WP l G M n mc ms Q pc L S w cu su := by
  intro p e s m args below meth c Z ad0 w0 hF hc ad H locs ls hR hE hL hl hS ho h1 h2
  obtain ⟨hx, hb, hr, hml, hown, hts, hKK, hlk, hnm⟩ := id hF
  simp only [stW, stp] at hs
  split at hs
  · rename_i S0 i t j S2
    obtain ⟨t1, t2, hj, hin, hk⟩ := hs
    obtain ⟨a1, a2⟩ := arr_in (by omega) (by omega) hR hj
    have hA := KK_arr hKK (ak t) (ak_in t)
    have hlt : i.toNatClampNeg < wN w t j := Nat.not_le.mp fun q => hin (Or.inr q)
    refine W.aald (v := vAt ad w t j i.toNatClampNeg) (ty := eTy t) hx hb a1 (hA _ _) (ref_isRef t1) (fun q => by cases q) (by rw [arrV_size]; exact hin) (by rw [arrV_read _ _ hlt]) rfl rfl hd ?_
    have hv : vAt ad w t j i.toNatClampNeg = renR ad (wR w t j i.toNatClampNeg) := by rw [vAt, rp_arr (by omega), ref_arr t1]; rfl
    rw [hv]
    refine hk p e s m args below meth c Z ad0 w0 hF hc ad H locs ls hR hE hL hl (clS_c ?_ (clS_t (clS_t hS))) ho h1 h2
    cases hw : wR w t j i.toNatClampNeg with
    | none => trivial
    | some q => exact hR.2.2.1 _ _ _ _ hj hw
  · exact hs.elim
theorem s_iastore (hd : decode (mB M) pc = .ok (.iastore, 1)) (hs : stW l G M C X n mc ms Q pc (.iastore) L S w cu su) : WP l G M n mc ms Q pc L S w cu su := by
  intro p e s m args below meth c Z ad0 w0 hF hc ad H locs ls hR hE hL hl hS ho h1 h2
  obtain ⟨hx, hb, hr, hml, hown, hts, hKK, hlk, hnm⟩ := id hF
  simp only [stW, stp] at hs
  split at hs
  · rename_i S0 x i t j S2
    obtain ⟨t1, t2, hj, hin, hk⟩ := hs
    obtain ⟨a1, a2⟩ := arr_in (by omega) (by omega) hR hj
    have hA := KK_arr hKK (ak t) (ak_in t)
    rw [eTy_int t2] at hA
    have a1' := a1
    rw [eTy_int t2] at a1'
    refine W.iast hx hb a1' (hA _ _) (fun q => by cases q) (by rw [arrV_size]; exact hin) rfl rfl hd fun H1 e1 z oq => ?_
    refine hk p e s m args below meth c Z ad0 w0 hF hc ad H1 _ ls (Rel_sI hR (by omega) hj ?_ z oq) hE hL hl (clS_t (clS_t (clS_t hS))) (locs_app ho a2) h1 h2
    rw [cOk, if_neg (by omega), e1, arrV_store, eTy_int t2]
    congr 2
    funext q
    exact vAt_sI_at (by rw [rp_arr t1, eTy, eTy_int t2]; rfl) q
  · exact hs.elim
theorem s_bastore (hd : decode (mB M) pc = .ok (.bastore, 1)) (hs : stW l G M C X n mc ms Q pc (.bastore) L S w cu su) : WP l G M n mc ms Q pc L S w cu su := by
  intro p e s m args below meth c Z ad0 w0 hF hc ad H locs ls hR hE hL hl hS ho h1 h2
  obtain ⟨hx, hb, hr, hml, hown, hts, hKK, hlk, hnm⟩ := id hF
  simp only [stW, stp] at hs
  split at hs
  · rename_i S0 x i t j S2
    obtain ⟨t1, t2, hj, hin, hv, hk⟩ := hs
    obtain ⟨a1, a2⟩ := arr_in (by omega) (by omega) hR hj
    have hA := KK_arr hKK (ak t) (ak_in t)
    rw [eTy_bool t1 t2] at hA
    have a1' := a1
    rw [eTy_bool t1 t2] at a1'
    refine W.zast hx hb a1' (hA _ _) (fun q => by cases q) (by rw [arrV_size]; exact hin) rfl rfl hd fun H1 e1 z oq => ?_
    refine hk p e s m args below meth c Z ad0 w0 hF hc ad H1 _ ls (Rel_sI hR (by omega) hj ?_ z oq) hE hL hl (clS_t (clS_t (clS_t hS))) (locs_app ho a2) h1 h2
    rw [(nar_narrow (ty := .boolean) hv).1] at e1
    rw [cOk, if_neg (by omega), e1, arrV_store, eTy_bool t1 t2]
    congr 2
    funext q
    exact vAt_sI_at (by rw [rp_arr (by omega), eTy, eTy_bool t1 t2]; rfl) q
  · exact hs.elim
theorem s_alen (hd : decode (mB M) pc = .ok (.arraylength, 1)) (hs : stW l G M C X n mc ms Q pc (.arraylength) L S w cu su) : WP l G M n mc ms Q pc L S w cu su := by
  intro p e s m args below meth c Z ad0 w0 hF hc ad H locs ls hR hE hL hl hS ho h1 h2
  obtain ⟨hx, hb, hr, hml, hown, hts, hKK, hlk, hnm⟩ := id hF
  simp only [stW, stp] at hs
  split at hs
  · rename_i S0 t j S2
    split at hs
    · rename_i ht
      subst ht
      obtain ⟨rfl, hk⟩ := hs
      obtain ⟨scr, x1, x2, x3, x4, x5⟩ := hKK.2.2.2.2.2.2.2.2.2.2.2
      have hbl : gX G 901 0 < n0 G := (Array.getElem?_eq_some_iff.mp x1).1
      have ha : ad 901 0 = gX G 901 0 := hR.2.2.2.1 901 0 (by omega)
      refine W.alen (n := Int32.ofNat (gL G)) hx hb (a := ad 901 0) (cell := scr) (by rw [ha, hR.2.2.2.2.2 _ hbl]; exact x1) x2 (by rw [x4] <;> rfl) rfl rfl hd ?_
      exact hk p e s m args below meth c Z ad0 w0 hF hc ad H locs ls hR hE hL hl (clS_c trivial (clS_t hS)) ho h1 h2
    · obtain ⟨t1, t2, hj, hk⟩ := hs
      obtain ⟨a1, a2⟩ := arr_in t1 t2 hR hj
      have hA := KK_arr hKK (ak t) (ak_in t)
      refine W.alen (n := Int32.ofNat (wN w t j)) hx hb a1 (hA _ _) (by rw [arrV_size] <;> rfl) rfl rfl hd ?_
      exact hk p e s m args below meth c Z ad0 w0 hF hc ad H locs ls hR hE hL hl (clS_c trivial (clS_t hS)) ho h1 h2
  · exact hs.elim
theorem s_ldc {idx : Nat} (hk0 : ∀ v, ceK C idx = some (.inl v) → Cond.constant (mOwn M) idx v ∈ goodT) (hd : decode (mB M) pc = .ok (.ldc idx, 2)) (hs : stW l G M C X n mc ms Q pc (.ldc idx) L S w cu su) : WP l G M n mc ms Q pc L S w cu su := by
  intro p e s m args below meth c Z ad0 w0 hF hc ad H locs ls hR hE hL hl hS ho h1 h2
  obtain ⟨hx, hb, hr, hml, hown, hts, hKK, hlk, hnm⟩ := id hF
  simp only [stW, stp] at hs
  split at hs
  · rename_i x hg
    exact lv_ldc hx hb hown (hts _ (hk0 _ hg)) hd (hs p e s m args below meth c Z ad0 w0 hF hc ad H locs ls hR hE hL hl (clS_c trivial hS) ho h1 h2)
  · exact hs.elim
theorem s_ldc2 {idx : Nat} (hk0 : ∀ v, ceK C idx = some (.inr (.inl v)) → Cond.constantLong (mOwn M) idx v ∈ goodT) (hd : decode (mB M) pc = .ok (.ldc2_w idx, 3)) (hs : stW l G M C X n mc ms Q pc (.ldc2_w idx) L S w cu su) : WP l G M n mc ms Q pc L S w cu su := by
  intro p e s m args below meth c Z ad0 w0 hF hc ad H locs ls hR hE hL hl hS ho h1 h2
  obtain ⟨hx, hb, hr, hml, hown, hts, hKK, hlk, hnm⟩ := id hF
  simp only [stW, stp] at hs
  split at hs
  · rename_i x hg
    exact lv_ldc2 hx hb hown (hts _ (hk0 _ hg)) hd (hs p e s m args below meth c Z ad0 w0 hF hc ad H locs ls hR hE hL hl (clS_c trivial hS) ho h1 h2)
  · exact hs.elim
theorem wd_recv {s : State} {ad : Nat → Nat → Nat} {H : Heap} {t j : Nat} (hKK : KK G s) (hR : Rel G ad w H) (h : t < 14) (hj : j < wC w t) : ∃ cell : Cell, H[ad t j]? = some cell ∧ cell.vm.isStatics = false ∧ s.vm.findClass (clsN t).1 = some cell.cls := by
  obtain ⟨hcell, -⟩ := hR.1 t j (by omega) hj
  rw [cOk, if_pos (by omega)] at hcell
  obtain ⟨r, hcr, cell, q1, q2, q3, q4⟩ := hcell
  exact ⟨cell, q1, by rw [q3]; rfl, by rw [q2]; exact (hKK.1.1 t _ (clsAt h)).2.1⟩
theorem s_cast {idx : Nat} (hk0 : ∀ ci, ceT C idx = some ci → Cond.classLink (mOwn M) idx (clsN ci).1 ∈ goodT) (hd : decode (mB M) pc = .ok (.checkcast idx, 3)) (hs : stW l G M C X n mc ms Q pc (.checkcast idx) L S w cu su) : WP l G M n mc ms Q pc L S w cu su := by
  intro p e s m args below meth c Z ad0 w0 hF hc ad H locs ls hR hE hL hl hS ho h1 h2
  obtain ⟨hx, hb, hr, hml, hown, hts, hKK, hlk, hnm⟩ := id hF
  simp only [stW, stp] at hs
  split at hs
  · rename_i ci hg
    split at hs
    · rename_i S0 t j S2
      obtain ⟨rfl, c14, hj, hk⟩ := hs
      exact va_castS hx hb hown (hts _ (hk0 _ hg)) (hKK.1.1 t _ (clsAt c14)).2 (wd_recv hKK hR c14 hj) hd (hk p e s m args below meth c Z ad0 w0 hF hc ad H locs ls hR hE hL hl hS ho h1 h2)
    · exact hs.elim
  · exact hs.elim
theorem s_ireturn (hd : decode (mB M) pc = .ok (.ireturn, 1)) (hs : stW l G M C X n mc ms Q pc (.ireturn) L S w cu su) : WP l G M n mc ms Q pc L S w cu su := by
  intro p e s m args below meth c Z ad0 w0 hF hc ad H locs ls hR hE hL hl hS ho h1 h2
  simp only [stW, stp] at hs
  split at hs
  · exact hc _ w ad H locs pc ls cu su hs.2 hR hE (fun a ha => by cases ha; trivial) ho h1 h2 (Or.inl ⟨_, rfl, hd, hs.1⟩)
  · exact hs.elim
theorem s_lreturn (hd : decode (mB M) pc = .ok (.lreturn, 1)) (hs : stW l G M C X n mc ms Q pc (.lreturn) L S w cu su) : WP l G M n mc ms Q pc L S w cu su := by
  intro p e s m args below meth c Z ad0 w0 hF hc ad H locs ls hR hE hL hl hS ho h1 h2
  simp only [stW, stp] at hs
  split at hs
  · exact hc _ w ad H locs pc ls cu su hs.2 hR hE (fun a ha => by cases ha; trivial) ho h1 h2 (Or.inr (Or.inl ⟨_, rfl, hd, hs.1⟩))
  · exact hs.elim
theorem s_areturn (hd : decode (mB M) pc = .ok (.areturn, 1)) (hs : stW l G M C X n mc ms Q pc (.areturn) L S w cu su) : WP l G M n mc ms Q pc L S w cu su := by
  intro p e s m args below meth c Z ad0 w0 hF hc ad H locs ls hR hE hL hl hS ho h1 h2
  simp only [stW, stp] at hs
  split at hs
  · obtain ⟨hr, hq⟩ := hs
    refine hc _ w ad H locs pc ls cu su hq hR hE (fun a ha => by cases ha; exact clS_h hS) ho h1 h2 (Or.inr (Or.inr (Or.inl ⟨_, rfl, hd, ?_⟩)))
    cases hm : mR M with
    | none => rw [hm] at hr; cases hr
    | some ty => rw [hm] at hr; exact ⟨ty, rfl, hr⟩
  · exact hs.elim
theorem s_vreturn (hd : decode (mB M) pc = .ok (.return_, 1)) (hs : stW l G M C X n mc ms Q pc (.return_) L S w cu su) : WP l G M n mc ms Q pc L S w cu su := by
  intro p e s m args below meth c Z ad0 w0 hF hc ad H locs ls hR hE hL hl hS ho h1 h2
  simp only [stW, stp] at hs
  split at hs
  · exact hc _ w ad H locs pc ls cu su hs.2 hR hE (fun a ha => by cases ha) ho h1 h2 (Or.inr (Or.inr (Or.inr ⟨rfl, hd, hs.1⟩)))
  · exact hs.elim
end S2
end
section
/-! calls; the step; a method's working out of its body -/
theorem ren_eq {G : Gc} {ad ad' : Nat → Nat → Nat} {w w' : Wd} {H H' : Heap} (hR : Rel G ad w H) (hR' : Rel G ad' w' H') (hE : Exd ad w ad' w') {v : AV} (h : clV w v) : renV ad' v = renV ad v := by
  rcases v with x | x | x
  · rfl
  · rfl
  · cases x with
    | none => rfl
    | some q =>
      show Value.ref (ad' q.1 q.2) = .ref (ad q.1 q.2)
      rcases h with h | h
      · rw [hR.2.2.2.1 _ _ h, hR'.2.2.2.1 _ _ h]
      · rw [hE.1 _ _ h]
theorem clV_mono {w w' : Wd} (hw : ∀ t, wC w t ≤ wC w' t) {v : AV} (h : clV w v) : clV w' v := by
  rcases v with x | x | x
  · trivial
  · trivial
  · cases x with
    | none => trivial
    | some q =>
      rcases h with h | h
      · exact Or.inl h
      · exact Or.inr (Nat.lt_of_lt_of_le h (hw _))
theorem Exd_trans {ad0 ad ad' : Nat → Nat → Nat} {w0 w w' : Wd} (h : Exd ad0 w0 ad w) (h' : Exd ad w ad' w') : Exd ad0 w0 ad' w' :=
  ⟨fun t k hk => (h'.1 t k (Nat.lt_of_lt_of_le hk (h.2 t))).trans (h.1 t k hk), fun t => Nat.le_trans (h.2 t) (h'.2 t)⟩
theorem spl_eq : ∀ (n : Nat) (acc S as S' : List AV), spl n acc S = some (as, S') → ∃ xs, S = xs ++ S' ∧ xs.length = n ∧ as = xs.reverse ++ acc
  | 0, acc, S, as, S', h => by
    simp only [spl, Option.some.injEq, Prod.mk.injEq] at h
    exact ⟨[], by simp [h.2], rfl, by simp [h.1]⟩
  | n + 1, acc, [], as, S', h => by simp [spl] at h
  | n + 1, acc, v :: S, as, S', h => by
    simp only [spl] at h
    obtain ⟨xs, h1, h2, h3⟩ := spl_eq n (v :: acc) S as S' h
    exact ⟨v :: xs, by rw [h1]; rfl, by simp [h2], by rw [h3]; simp⟩
theorem spl_S {n : Nat} {S as S' : List AV} (h : spl n [] S = some (as, S')) : S = as.reverse ++ S' ∧ as.length = n := by
  obtain ⟨xs, h1, h2, h3⟩ := spl_eq n [] S as S' h
  rw [List.append_nil] at h3
  subst h3
  exact ⟨by simp [h1], by simp [h2]⟩
theorem catS_eq (ad : Nat → Nat → Nat) (S : List AV) : ((S.map (renV ad)).map fun v => v.category).sum = catS S := by
  induction S with
  | nil => rfl
  | cons v S ih => simp only [List.map_cons, List.sum_cons, ih, cat_ren, catS]
/-- a callee's words -/
def calOk (own : String) (idx : Nat) (c : Cal) : Prop :=
  Cond.code (mY c.1) (mB c.1) (mL c.1) (mR c.1) ∈ goodT ∧ Cond.initialized (mY c.1).cls ∈ goodT ∧ ((mY c.1).cls ≠ "java/lang/invoke/MethodHandle" ∧ (mY c.1).cls ≠ "java/lang/invoke/VarHandle" ∧ (parseMethodDescriptor (mY c.1).desc).map (fun d => d.parameters.length) = some c.2.1) ∧ mL c.1 ≤ 20 ∧
  (c.2.2 < 3 → Cond.methodLink own idx (mY c.1) ∈ goodT) ∧ (3 ≤ c.2.2 → ∃ host, Cond.methodLinkNest own idx (mY c.1) host ∈ nestW) ∧
  ((c.2.2 = 0 ∨ c.2.2 = 3) → Cond.instanceMethod (mY c.1) ∈ goodT ∧ Cond.selects (mY c.1).cls (mY c.1) (mY c.1) ∈ goodT) ∧
  ((c.2.2 = 1 ∨ c.2.2 = 4) → Cond.static (mY c.1) ∈ goodT) ∧
  ((c.2.2 = 2 ∨ c.2.2 = 5) → Cond.instanceMethod (mY c.1) ∈ goodT ∧ (mY c.1).name = "<init>" ∧ mR c.1 = none)
def XOk (l : Launch) (G : Gc) (C : CE) (X : XE) : Prop := ∀ idx n' f c, X idx = some (n', f) → ceM C idx = some c → ∀ as w r w', f as w = some (r, w') → Sem l G c.1 n' 0 0 as w (fun r2 w2 => r2 = r ∧ w2 = w')
theorem good_in {M : MI} (h : Cond.code (mY M) (mB M) (mL M) (mR M) ∈ goodT) : GoodIn goodT (wsY M) := by
  intro w hw
  have hm : w ∈ goodT := by
    rcases List.mem_cons.mp hw with rfl | h1
    · exact h
    · exact h1
  exact ⟨hm, good_of_word (List.mem_filter.mp hm).2⟩
theorem blind {G : Gc} {ad : Nat → Nat → Nat} {as : List AV} {w : Wd} : FrameBlind (SemPc G ad as w) := fun a U g mk h => ⟨h.1, h.2.1, KK.same (s := U) rfl h.2.2.1, h.2.2.2⟩
section S3
variable {l : Launch} {G : Gc} {M : MI} {C : CE} {X : XE} {n mc ms : Nat} {Q : Option AV → Wd → Prop} {pc : Nat} {L : List (Option AV)} {S : List AV} {w : Wd} {cu su : Nat}
/-- a call, as it comes back -/
theorem call_back {p : Program} {e : Env} {s : State} {m : MethodId} {args : Array Value} {below : List Frame} {meth : Method} {c : Code} {Z : State → Prop} {ad0 : Nat → Nat → Nat} {w0 : Wd} (hF : Fx G M p s m args meth c)
    (hc : ∀ r w' ad' H' locs' pc' ls' cu' su', Q r w' → Rel G ad' w' H' → Exd ad0 w0 ad' w' → (∀ a, r = some a → clV w' a) → locsOk G locs' → cu' ≤ mc → su' ≤ ms → retI M pc' r → W p l e (rml n mc ms) s m args below meth c H' locs' cu' su' Z (F0 m pc' ls' (r.toList.map (renV ad'))))
    {ad : Nat → Nat → Nat} {H : Heap} {locs : List Loc} {ls : Array Slot} (hR : Rel G ad w H) (hE : Exd ad0 w0 ad w) (hL : LsR ad (mL M) L ls) (hl : clL w L) (hS : clS w S) (ho : locsOk G locs) {mc' ms' : Nat} (h1 : cu + mc' ≤ mc) (h2 : su + ms' ≤ ms) {st0 : List Value} {a : Array Value}
    (hr : va_Run p l e (rml n mc ms) s m args below meth c H locs cu su mc' ms' (F0 m pc ls st0) (S.map (renV ad)) (SemQc G ad w (fun r w' => WP l G M n mc ms Q (pc + 3) L (r.toList ++ S) w' (cu + mc') (su + ms')) a) (gOut G)) :
    W p l e (rml n mc ms) s m args below meth c H locs cu su Z (F0 m pc ls st0) := by
  intro T hT X
  obtain ⟨v, st₀, t, T', LL, g0, X', hLL, e1, e2, ⟨r, w', ad', hv, hR', hE', hcr, hk⟩, st⟩ := hr T hT X
  have hv' : v = r.map (renV ad') := by injection hv
  subst hv'
  rw [← e1] at hR'
  have hls : LsR ad' (mL M) L ls := ⟨hL.1, hL.2.1, hL.2.2.1, fun i v hi => by rw [ren_eq hR hR' hE' (hl i v hi)]; exact hL.2.2.2 i v hi⟩
  have hSS : S.map (renV ad) = S.map (renV ad') := List.map_congr_left fun v hv => (ren_eq hR hR' hE' (hS v hv)).symm
  have hcS : clS w' (r.toList ++ S) := fun v hv => by
    rcases List.mem_append.mp hv with h | h
    · exact hcr v (by simpa using h)
    · exact clV_mono hE'.2 (hS v h)
  obtain ⟨t2, a1, b1⟩ := hk p e s m args below meth c Z ad0 w0 hF hc ad' T'.heap (locs ++ LL) ls hR' (Exd_trans hE hE') hls (fun i v hi => clV_mono hE'.2 (hl i v hi)) hcS (fun q hq => by
    rcases List.mem_append.mp hq with h | h
    · exact ho q h
    · exact hLL q h) h1 h2 T' rfl X'
  refine ⟨t2, st t2 ?_, b1⟩
  have he : ((r.map (renV ad')).toList ++ S.map (renV ad)) = (r.toList ++ S).map (renV ad') := by
    rw [hSS]
    cases r <;> simp
  rw [he]
  exact a1
theorem cll_sem {c : Cal} {idx : Nat} {as : List AV} (hX : XOk l G C X) (hcal : ceM C idx = some c) (h1 : cu ≤ mc) (h2 : su ≤ ms) (h : cll l G n mc ms c (X idx) as S w cu su (fun S2 w2 => WP l G M n mc ms Q (pc + 3) L S2 w2 cu su) (fun S2 w2 cu2 su2 => WP l G M n mc ms Q (pc + 3) L S2 w2 cu2 su2)) :
    catS S ≤ 8 ∧ ∃ n' mc' ms', n' < n ∧ cu + mc' ≤ mc ∧ su + ms' ≤ ms ∧ Sem l G c.1 n' mc' ms' as w (fun r w' => WP l G M n mc ms Q (pc + 3) L (r.toList ++ S) w' (cu + mc') (su + ms')) := by
  obtain ⟨h3, h4⟩ := h
  refine ⟨h3, ?_⟩
  split at h4
  · rename_i n' f hx
    obtain ⟨hn, h5⟩ := h4
    split at h5
    · rename_i r w' hf
      exact ⟨n', 0, 0, hn, h1, h2, (hX idx n' f c hx hcal as w r w' hf).mono fun r2 w2 hq => by rw [hq.1, hq.2]; exact h5⟩
    · exact h5.elim
  · exact h4
theorem s_invokestatic {idx : Nat} (hX : XOk l G C X) (hm : ∀ c, ceM C idx = some c → calOk (mOwn M) idx c) (hd : decode (mB M) pc = .ok (.invokestatic idx, 3)) (hs : stW l G M C X n mc ms Q pc (.invokestatic idx) L S w cu su) : WP l G M n mc ms Q pc L S w cu su := by
  intro p e s m args below meth c Z ad0 w0 hF hc ad H locs ls hR hE hL hl hS ho h1 h2
  obtain ⟨hx, hb, hr, hml, hown, hts, hKK, hlk, hnm⟩ := id hF
  simp only [stW, stp] at hs
  split at hs
  · rename_i cal hcal
    split at hs
    · rename_i as S2 hsp
      obtain ⟨hk, hcl⟩ := hs
      obtain ⟨hSe, hlen⟩ := spl_S hsp
      obtain ⟨o1, o2, o3, o4, o5, o6, o7, o8, o9⟩ := hm _ hcal
      obtain ⟨h8, n', mc', ms', hn, hc1, hc2, hsem⟩ := cll_sem (M := M) (L := L) hX hcal h1 h2 hcl
      subst hSe
      have hS2 : clS w S2 := fun v hv => hS v (List.mem_append_right _ hv)
      have hpre : PreS s H (SemPc G ad as w) (as.map (renV ad)) := ⟨blind, fun U hU hW => ⟨rfl, by rw [hU]; exact hR, hKK.warm hW, fun a ha => hS a (List.mem_append_left _ (List.mem_reverse.mpr ha))⟩⟩
      have hroom : (rml n' mc' ms').frames + 1 ≤ (rml n mc ms).frames ∧ 8 + (mL cal.1 + 11) + (rml n' mc' ms').locals ≤ (rml n mc ms).locals := by
        constructor
        · exact hn
        · show 8 + (mL cal.1 + 11) + 40 * n' ≤ 40 * n
          omega
      refine call_back hF hc hR hE hL hl hS2 ho hc1 hc2 (a := (as.map (renV ad)).toArray) ?_
      rcases hk with hk | hk
      · refine va_runS (nL := mL M) (index := idx) (own := mOwn M) (Ts := goodT) ⟨hx, hb, hml, hown, hts⟩ (hsem ad) ⟨callB_of cal.2.1 hts (good_in o1) rfl rfl rfl (hts _ o2) (hts _ (o5 (by omega))) o3 hroom, hts _ (o8 (Or.inl hk))⟩ hpre rfl (by rw [List.length_map]; exact hlen) hL.1 (by simp) ?_ hd ⟨hc1, hc2⟩
        exact lv_room (by rw [catS_eq]; exact h8)
      · obtain ⟨host, hh⟩ := o6 (by omega)
        refine va_runSN (nL := mL M) (index := idx) (own := mOwn M) (Ts := goodT) ⟨hx, hb, hml, hown, hts⟩ (hsem ad) ⟨va_cnB cal.2.1 hts (good_in o1) rfl rfl rfl (hKK.2.1 _ hh) (hts _ o2) o3 hroom, hts _ (o8 (Or.inr hk)), trivial⟩ hpre rfl (by rw [List.length_map]; exact hlen) hL.1 (by simp) ?_ hd ⟨hc1, hc2⟩
        exact lv_room (by rw [catS_eq]; exact h8)
    · exact hs.elim
  · exact hs.elim
theorem s_invokevirtual {idx : Nat} (hX : XOk l G C X) (hm : ∀ c, ceM C idx = some c → calOk (mOwn M) idx c) (hd : decode (mB M) pc = .ok (.invokevirtual idx, 3)) (hs : stW l G M C X n mc ms Q pc (.invokevirtual idx) L S w cu su) : WP l G M n mc ms Q pc L S w cu su := by
  intro p e s m args below meth c Z ad0 w0 hF hc ad H locs ls hR hE hL hl hS ho h1 h2
  obtain ⟨hx, hb, hr, hml, hown, hts, hKK, hlk, hnm⟩ := id hF
  simp only [stW, stp] at hs
  split at hs
  · rename_i cal hcal
    split at hs
    · rename_i as t j S2 hsp
      obtain ⟨hk, t14, hcls, hj, hcl⟩ := hs
      obtain ⟨hSe, hlen⟩ := spl_S hsp
      obtain ⟨o1, o2, o3, o4, o5, o6, o7, o8, o9⟩ := hm _ hcal
      obtain ⟨h8, n', mc', ms', hn, hc1, hc2, hsem⟩ := cll_sem (M := M) (L := L) hX hcal h1 h2 hcl
      subst hSe
      have hS2 : clS w S2 := fun v hv => hS v (List.mem_append_right _ (List.mem_cons_of_mem _ hv))
      have hrv := wd_recv hKK hR t14 hj
      rw [hcls] at hrv
      have hpre : PreV s H (mY cal.1).cls (ad t j) (SemPc G ad (.inr (.inr (some (t, j))) :: as) w) (as.map (renV ad)) := ⟨blind, hrv, fun U hU hW => ⟨rfl, by rw [hU]; exact hR, hKK.warm hW, fun a ha => by
        rcases List.mem_cons.mp ha with rfl | ha
        · exact Or.inr hj
        · exact hS a (List.mem_append_left _ (List.mem_reverse.mpr ha))⟩⟩
      have hroom : (rml n' mc' ms').frames + 1 ≤ (rml n mc ms).frames ∧ 8 + (mL cal.1 + 11) + (rml n' mc' ms').locals ≤ (rml n mc ms).locals := by
        constructor
        · exact hn
        · show 8 + (mL cal.1 + 11) + 40 * n' ≤ 40 * n
          omega
      refine call_back hF hc hR hE hL hl hS2 ho hc1 hc2 (a := (Value.ref (ad t j) :: as.map (renV ad)).toArray) ?_
      rcases hk with hk | hk
      · refine va_runV (nL := mL M) (index := idx) (own := mOwn M) (Ts := goodT) ⟨hx, hb, hml, hown, hts⟩ (hsem ad) ⟨callB_of cal.2.1 hts (good_in o1) rfl rfl rfl (hts _ o2) (hts _ (o5 (by omega))) o3 hroom, hts _ (o7 (Or.inl hk)).1, hts _ (o7 (Or.inl hk)).2⟩ hpre rfl (by rw [List.length_map]; exact hlen) hL.1 (by simp [renV, renR]) ?_ hd ⟨hc1, hc2⟩
        exact lv_room (by rw [catS_eq]; exact h8)
      · obtain ⟨host, hh⟩ := o6 (by omega)
        refine va_runVN (nL := mL M) (index := idx) (own := mOwn M) (Ts := goodT) ⟨hx, hb, hml, hown, hts⟩ (hsem ad) ⟨va_cnB cal.2.1 hts (good_in o1) rfl rfl rfl (hKK.2.1 _ hh) (hts _ o2) o3 hroom, hts _ (o7 (Or.inr hk)).1, hts _ (o7 (Or.inr hk)).2⟩ hpre rfl (by rw [List.length_map]; exact hlen) hL.1 (by simp [renV, renR]) ?_ hd ⟨hc1, hc2⟩
        exact lv_room (by rw [catS_eq]; exact h8)
    · exact hs.elim
  · exact hs.elim
theorem s_invokespecial {idx : Nat} (hX : XOk l G C X) (hm : ∀ c, ceM C idx = some c → calOk (mOwn M) idx c) (hd : decode (mB M) pc = .ok (.invokespecial idx, 3)) (hs : stW l G M C X n mc ms Q pc (.invokespecial idx) L S w cu su) : WP l G M n mc ms Q pc L S w cu su := by
  intro p e s m args below meth c Z ad0 w0 hF hc ad H locs ls hR hE hL hl hS ho h1 h2
  obtain ⟨hx, hb, hr, hml, hown, hts, hKK, hlk, hnm⟩ := id hF
  simp only [stW, stp] at hs
  split at hs
  · rename_i cal hcal
    split at hs
    · rename_i as t j S2 hsp
      obtain ⟨hk, t14, hcl⟩ := hs
      obtain ⟨hSe, hlen⟩ := spl_S hsp
      obtain ⟨o1, o2, o3, o4, o5, o6, o7, o8, o9⟩ := hm _ hcal
      obtain ⟨h8, n', mc', ms', hn, hc1, hc2, hsem⟩ := cll_sem (M := M) (L := L) hX hcal h1 h2 hcl
      subst hSe
      have hS2 : clS w S2 := fun v hv => hS v (List.mem_append_right _ (List.mem_cons_of_mem _ hv))
      have hpre : PreS s H (SemPc G ad (.inr (.inr (some (t, j))) :: as) w) (.ref (ad t j) :: as.map (renV ad)) := ⟨blind, fun U hU hW => ⟨rfl, by rw [hU]; exact hR, hKK.warm hW, fun a ha => by
        rcases List.mem_cons.mp ha with rfl | ha
        · exact hS _ (List.mem_append_right _ List.mem_cons_self)
        · exact hS a (List.mem_append_left _ (List.mem_reverse.mpr ha))⟩⟩
      have hroom : (rml n' mc' ms').frames + 1 ≤ (rml n mc ms).frames ∧ 8 + (mL cal.1 + 11) + (rml n' mc' ms').locals ≤ (rml n mc ms).locals := by
        constructor
        · exact hn
        · show 8 + (mL cal.1 + 11) + 40 * n' ≤ 40 * n
          omega
      obtain ⟨oi, on, or⟩ := o9 hk
      refine call_back hF hc hR hE hL hl hS2 ho hc1 hc2 (a := (Value.ref (ad t j) :: as.map (renV ad)).toArray) ?_
      rcases hk with hk | hk
      · refine va_runI (nL := mL M) (index := idx) (own := mOwn M) (Ts := goodT) ⟨hx, hb, hml, hown, hts⟩ (hsem ad) ⟨callB_of cal.2.1 hts (good_in o1) (by rw [← or]; rfl) rfl rfl (hts _ o2) (hts _ (o5 (by omega))) o3 hroom, on, hts _ oi⟩ hpre rfl (by rw [List.length_map]; exact hlen) hL.1 (by simp [renV, renR]) ?_ hd ⟨hc1, hc2⟩
        exact lv_room (by rw [catS_eq]; exact h8)
      · obtain ⟨host, hh⟩ := o6 (by omega)
        refine va_runIN (nL := mL M) (index := idx) (own := mOwn M) (Ts := goodT) ⟨hx, hb, hml, hown, hts⟩ (hsem ad) ⟨va_cnB cal.2.1 hts (good_in o1) (by rw [← or]; rfl) rfl rfl (hKK.2.1 _ hh) (hts _ o2) o3 hroom, on, hts _ oi⟩ hpre rfl (by rw [List.length_map]; exact hlen) hL.1 (by simp [renV, renR]) ?_ hd ⟨hc1, hc2⟩
        exact lv_room (by rw [catS_eq]; exact h8)
    · exact hs.elim
  · exact hs.elim
end S3
end
section
/-! a step, many steps; a method's working out of its body -/
def envOk (own : String) (C : CE) : Prop :=
  (∀ idx ci k, ceF C idx = some (ci, k) → fldOk own idx ci k) ∧ (∀ idx c, ceM C idx = some c → calOk own idx c) ∧ (∀ idx v, ceK C idx = some (.inl v) → Cond.constant own idx v ∈ goodT) ∧ (∀ idx v, ceK C idx = some (.inr (.inl v)) → Cond.constantLong own idx v ∈ goodT) ∧ ∀ idx ci, ceT C idx = some ci → Cond.classLink own idx (clsN ci).1 ∈ goodT
/-- an instruction's length, where it is fixed -/
def ilen : Instr → Nat
  | .bipush _ | .iload _ | .lload _ | .aload _ | .istore _ | .lstore _ | .astore _ | .ldc _ => 2
  | .sipush _ | .iinc _ _ | .ifCond _ _ | .if_icmp _ _ | .ifnull _ | .ifnonnull _ | .goto _ | .getfield _ | .putfield _ | .ldc2_w _ | .checkcast _ | .invokevirtual _ | .invokestatic _ | .invokespecial _ => 3
  | _ => 1
def lenOk : Instr → Nat → Bool
  | .tableswitch .., _ => true
  | .lookupswitch .., _ => true
  | i, n => ilen i == n
abbrev TB : Type := List (Nat × (Instr × Nat))
def tbOk (b : ByteArray) (tb : TB) : Bool := tb.all (fun q => decide (decode b q.1 = .ok q.2) && lenOk q.2.1 q.2.2)
section S4
variable {l : Launch} {G : Gc} {M : MI} {C : CE} {X : XE} {n mc ms : Nat} {Q : Option AV → Wd → Prop} {pc : Nat} {L : List (Option AV)} {S : List AV} {w : Wd} {cu su : Nat}
set_option maxHeartbeats 4000000 in
theorem wp_step {ins : Instr} {len : Nat} (hE : envOk (mOwn M) C) (hX : XOk l G C X) (hd : decode (mB M) pc = .ok (ins, len)) (hl : lenOk ins len = true) (hs : stW l G M C X n mc ms Q pc ins L S w cu su) : WP l G M n mc ms Q pc L S w cu su := by
  have e0 : ∀ {k : Nat}, (k == len) = true → len = k := fun h => (eq_of_beq h).symm
  cases ins with
  | iconst k => cases e0 hl; exact s_iconst hd hs
  | bipush k => cases e0 hl; exact s_bipush hd hs
  | sipush k => cases e0 hl; exact s_sipush hd hs
  | lconst k => cases e0 hl; exact s_lconst hd hs
  | aconst_null => cases e0 hl; exact s_null hd hs
  | iload i => cases e0 hl; exact s_iload hd hs
  | iload_n i => cases e0 hl; exact s_iload_n hd hs
  | lload i => cases e0 hl; exact s_lload hd hs
  | lload_n i => cases e0 hl; exact s_lload_n hd hs
  | aload i => cases e0 hl; exact s_aload hd hs
  | aload_n i => cases e0 hl; exact s_aload_n hd hs
  | istore i => cases e0 hl; exact s_istore hd hs
  | istore_n i => cases e0 hl; exact s_istore_n hd hs
  | lstore i => cases e0 hl; exact s_lstore hd hs
  | lstore_n i => cases e0 hl; exact s_lstore_n hd hs
  | astore i => cases e0 hl; exact s_astore hd hs
  | astore_n i => cases e0 hl; exact s_astore_n hd hs
  | iinc i k => cases e0 hl; exact s_iinc hd hs
  | iadd => cases e0 hl; exact s_iadd hd hs
  | isub => cases e0 hl; exact s_isub hd hs
  | imul => cases e0 hl; exact s_imul hd hs
  | iand => cases e0 hl; exact s_iand hd hs
  | ior => cases e0 hl; exact s_ior hd hs
  | ixor => cases e0 hl; exact s_ixor hd hs
  | ishl => cases e0 hl; exact s_ishl hd hs
  | ishr => cases e0 hl; exact s_ishr hd hs
  | iushr => cases e0 hl; exact s_iushr hd hs
  | idiv => cases e0 hl; exact s_idiv hd hs
  | irem => cases e0 hl; exact s_irem hd hs
  | ineg => cases e0 hl; exact s_ineg hd hs
  | ladd => cases e0 hl; exact s_ladd hd hs
  | lmul => cases e0 hl; exact s_lmul hd hs
  | land => cases e0 hl; exact s_land hd hs
  | ldiv => cases e0 hl; exact s_ldiv hd hs
  | lshr => cases e0 hl; exact s_lshr hd hs
  | i2l => cases e0 hl; exact s_i2l hd hs
  | l2i => cases e0 hl; exact s_l2i hd hs
  | lcmp => cases e0 hl; exact s_lcmp hd hs
  | dup => cases e0 hl; exact s_dup hd hs
  | pop => cases e0 hl; exact s_pop hd hs
  | dup_x1 => cases e0 hl; exact s_dup_x1 hd hs
  | dup2 => cases e0 hl; exact s_dup2 hd hs
  | ifCond cd off => cases e0 hl; cases cd <;> first | exact s_if_eq hd hs | exact s_if_ne hd hs | exact s_if_lt hd hs | exact s_if_ge hd hs | exact s_if_gt hd hs | exact s_if_le hd hs
  | if_icmp cd off => cases e0 hl; cases cd <;> first | exact s_icmp_eq hd hs | exact s_icmp_ne hd hs | exact s_icmp_lt hd hs | exact s_icmp_ge hd hs | exact s_icmp_gt hd hs | exact s_icmp_le hd hs
  | ifnull off => cases e0 hl; exact s_ifnull hd hs
  | ifnonnull off => cases e0 hl; exact s_ifnonnull hd hs
  | goto off => cases e0 hl; exact s_goto hd hs
  | tableswitch d lo hi offs => exact s_table hd hs
  | lookupswitch d ps => exact s_lookup hd hs
  | getfield idx => cases e0 hl; exact s_getfield (hE.1 idx) hd hs
  | putfield idx => cases e0 hl; exact s_putfield (hE.1 idx) hd hs
  | iaload => cases e0 hl; exact s_iaload hd hs
  | baload => cases e0 hl; exact s_baload hd hs
  | aaload => cases e0 hl; exact s_aaload hd hs
  | iastore => cases e0 hl; exact s_iastore hd hs
  | bastore => cases e0 hl; exact s_bastore hd hs
  | arraylength => cases e0 hl; exact s_alen hd hs
  | ldc idx => cases e0 hl; exact s_ldc (hE.2.2.1 idx) hd hs
  | ldc2_w idx => cases e0 hl; exact s_ldc2 (hE.2.2.2.1 idx) hd hs
  | checkcast idx => cases e0 hl; exact s_cast (hE.2.2.2.2 idx) hd hs
  | invokevirtual idx => cases e0 hl; exact s_invokevirtual hX (hE.2.1 idx) hd hs
  | invokestatic idx => cases e0 hl; exact s_invokestatic hX (hE.2.1 idx) hd hs
  | invokespecial idx => cases e0 hl; exact s_invokespecial hX (hE.2.1 idx) hd hs
  | ireturn => cases e0 hl; exact s_ireturn hd hs
  | lreturn => cases e0 hl; exact s_lreturn hd hs
  | areturn => cases e0 hl; exact s_areturn hd hs
  | return_ => cases e0 hl; exact s_vreturn hd hs
  | _ => exact hs.elim
end S4
/-- many steps: up to the places of 'st', and to calls -/
def wpn (l : Launch) (G : Gc) (M : MI) (C : CE) (X : XE) (tb : TB) (st : List Nat) (n mc ms : Nat) (Q : Option AV → Wd → Prop) : Nat → KT
  | 0, pc, L, S, w, cu, su => WP l G M n mc ms Q pc L S w cu su
  | f + 1, pc, L, S, w, cu, su => match alk tb pc with
    | some (ins, _) => stp l G M C X n mc ms Q (fun pc' L' S' w' cu' su' => if st.contains pc' = true then WP l G M n mc ms Q pc' L' S' w' cu' su' else wpn l G M C X tb st n mc ms Q f pc' L' S' w' cu' su') (WP l G M n mc ms Q) pc ins L S w cu su
    | none => False

theorem jmp_mono {pc : Nat} {off : Int} {K K' : Nat → Prop} (h : jmp pc off K) (hm : ∀ p, K p → K' p) : jmp pc off K' := ⟨h.1, hm _ h.2⟩
theorem cll_mono {l : Launch} {G : Gc} {n mc ms : Nat} {c : Cal} {x : Option (Nat × FS)} {as S : List AV} {w : Wd} {cu su : Nat} {K K' : List AV → Wd → Prop} {Kc : List AV → Wd → Nat → Nat → Prop} (h : cll l G n mc ms c x as S w cu su K Kc) (hm : ∀ S w, K S w → K' S w) : cll l G n mc ms c x as S w cu su K' Kc := by
  obtain ⟨h1, h2⟩ := h
  refine ⟨h1, ?_⟩
  split at h2
  · refine ⟨h2.1, ?_⟩
    have h3 := h2.2
    split at h3
    · exact hm _ _ h3
    · exact h3.elim
  · exact h2
set_option maxHeartbeats 4000000 in
theorem stp_mono {l : Launch} {G : Gc} {M : MI} {C : CE} {X : XE} {n mc ms : Nat} {Q : Option AV → Wd → Prop} {K K' Kc : KT} {pc : Nat} {ins : Instr} {L : List (Option AV)} {S : List AV} {w : Wd} {cu su : Nat} (hm : ∀ pc L S w cu su, K pc L S w cu su → K' pc L S w cu su) (h : stp l G M C X n mc ms Q K Kc pc ins L S w cu su) : stp l G M C X n mc ms Q K' Kc pc ins L S w cu su := by
  cases ins <;> simp only [stp] at h ⊢
  case ifCond cd off => cases cd <;> simp only [stp] at h ⊢ <;> split at h <;> first | exact h.elim | exact ⟨h.1, fun z => hm _ _ _ _ _ _ (h.2.1 z), fun z => hm _ _ _ _ _ _ (h.2.2 z)⟩
  case if_icmp cd off => cases cd <;> simp only [stp] at h ⊢ <;> split at h <;> first | exact h.elim | exact ⟨h.1, fun z => hm _ _ _ _ _ _ (h.2.1 z), fun z => hm _ _ _ _ _ _ (h.2.2 z)⟩
  case tableswitch d lo hi offs =>
    split at h
    · split at h
      · rename_i hq
        try rw [if_pos hq]
        exact jmp_mono h (fun p => hm _ _ _ _ _ _)
      · rename_i hq
        try rw [if_neg hq]
        split at h
        · rename_i hq2
          try rw [hq2]
          exact jmp_mono h (fun p => hm _ _ _ _ _ _)
        · exact h.elim
    · exact h.elim
  case lookupswitch d ps =>
    split at h
    · exact ⟨h.1, jmp_mono h.2 (fun p => hm _ _ _ _ _ _)⟩
    · exact h.elim
  case goto off => exact jmp_mono h (fun p => hm _ _ _ _ _ _)
  case ifnull off =>
    split at h
    · exact jmp_mono h (fun p => hm _ _ _ _ _ _)
    · exact hm _ _ _ _ _ _ h
    · exact h.elim
  case ifnonnull off =>
    split at h
    · exact hm _ _ _ _ _ _ h
    · exact jmp_mono h (fun p => hm _ _ _ _ _ _)
    · exact h.elim
  case getfield idx =>
    split at h
    · rename_i hq
      try rw [hq]
      split at h
      · exact ⟨h.1, h.2.1, hm _ _ _ _ _ _ h.2.2⟩
      · exact h.elim
    · exact h.elim
  case putfield idx =>
    split at h
    · rename_i hq
      try rw [hq]
      split at h
      · exact ⟨h.1, h.2.1, h.2.2.1, h.2.2.2.1, h.2.2.2.2.1, hm _ _ _ _ _ _ h.2.2.2.2.2⟩
      · exact h.elim
    · exact h.elim
  case checkcast idx =>
    split at h
    · rename_i hq
      try rw [hq]
      split at h
      · exact ⟨h.1, h.2.1, h.2.2.1, hm _ _ _ _ _ _ h.2.2.2⟩
      · exact h.elim
    · exact h.elim
  case iaload =>
    split at h
    · split at h
      · rename_i hq
        try rw [if_pos hq]
        exact ⟨h.1, h.2.1, hm _ _ _ _ _ _ h.2.2⟩
      · rename_i hq
        try rw [if_neg hq]
        exact ⟨h.1, h.2.1, h.2.2.1, h.2.2.2.1, hm _ _ _ _ _ _ h.2.2.2.2⟩
    · exact h.elim
  case arraylength =>
    split at h
    · split at h
      · rename_i hq
        try rw [if_pos hq]
        exact ⟨h.1, hm _ _ _ _ _ _ h.2⟩
      · rename_i hq
        try rw [if_neg hq]
        exact ⟨h.1, h.2.1, h.2.2.1, hm _ _ _ _ _ _ h.2.2.2⟩
    · exact h.elim
  case invokevirtual idx =>
    split at h
    · rename_i hq
      try rw [hq]
      split at h
      · rename_i hq2
        try simp only [hq2]
        exact ⟨h.1, h.2.1, h.2.2.1, h.2.2.2.1, cll_mono h.2.2.2.2 (fun S w => hm _ _ _ _ _ _)⟩
      · exact h.elim
    · exact h.elim
  case invokespecial idx =>
    split at h
    · rename_i hq
      try rw [hq]
      split at h
      · rename_i hq2
        try simp only [hq2]
        exact ⟨h.1, h.2.1, cll_mono h.2.2 (fun S w => hm _ _ _ _ _ _)⟩
      · exact h.elim
    · exact h.elim
  case invokestatic idx =>
    split at h
    · rename_i hq
      try rw [hq]
      split at h
      · rename_i hq2
        try simp only [hq2]
        exact ⟨h.1, cll_mono h.2 (fun S w => hm _ _ _ _ _ _)⟩
      · exact h.elim
    · exact h.elim
  all_goals first
    | exact h
    | exact hm _ _ _ _ _ _ h
    | (split at h <;> first | exact h.elim | exact hm _ _ _ _ _ _ h | exact ⟨h.1, hm _ _ _ _ _ _ h.2⟩ | exact ⟨h.1, h.2.1, hm _ _ _ _ _ _ h.2.2⟩ | exact ⟨h.1, h.2.1, h.2.2.1, h.2.2.2.1, hm _ _ _ _ _ _ h.2.2.2.2⟩ | exact ⟨h.1, h.2.1, h.2.2.1, h.2.2.2.1, h.2.2.2.2.1, hm _ _ _ _ _ _ h.2.2.2.2.2⟩ | (rename_i hg; rw [hg]; exact hm _ _ _ _ _ _ h) | (rename_i hg; rw [hg]; exact ⟨h.1, hm _ _ _ _ _ _ h.2⟩))
theorem wpn_ok {l : Launch} {G : Gc} {M : MI} {C : CE} {X : XE} {tb : TB} {st : List Nat} {n mc ms : Nat} {Q : Option AV → Wd → Prop} (hE : envOk (mOwn M) C) (hX : XOk l G C X) (ht : tbOk (mB M) tb = true) : ∀ (f pc : Nat) (L : List (Option AV)) (S : List AV) (w : Wd) (cu su : Nat), wpn l G M C X tb st n mc ms Q f pc L S w cu su → WP l G M n mc ms Q pc L S w cu su
  | 0, _, _, _, _, _, _, h => h
  | f + 1, pc, L, S, w, cu, su, h => by
    simp only [wpn] at h
    split at h
    · rename_i ins len hq
      have h1 := List.all_eq_true.mp ht _ (alk_mem hq)
      simp only [Bool.and_eq_true, decide_eq_true_eq] at h1
      refine wp_step (l := l) (X := X) hE hX h1.1 h1.2 (stp_mono (fun pc' L' S' w' cu' su' hk => ?_) h)
      split at hk
      · exact hk
      · exact wpn_ok hE hX ht f pc' L' S' w' cu' su' hk
    · exact h.elim
/-- a method's first locals -/
def inL : List AV → List (Option AV)
  | [] => []
  | v :: as => if isL (some v) = true then some v :: none :: inL as else some v :: inL as
def pad : Nat → List (Option AV) → List (Option AV)
  | 0, _ => []
  | n + 1, [] => none :: pad n []
  | n + 1, v :: l => v :: pad n l
theorem pad_len : ∀ (n : Nat) (l : List (Option AV)), (pad n l).length = n
  | 0, _ => rfl
  | n + 1, [] => congrArg (· + 1) (pad_len n [])
  | n + 1, _ :: l => congrArg (· + 1) (pad_len n l)
theorem lg_pad : ∀ (n : Nat) (l : List (Option AV)) (i : Nat) (v : AV), lg (pad n l) i = some v → lg l i = some v
  | 0, _, _, _, h => by simp [pad, lg] at h
  | n + 1, [], 0, v, h => by simp [pad, lg] at h
  | n + 1, [], i + 1, v, h => lg_pad n [] i v h
  | n + 1, _ :: l, 0, v, h => h
  | n + 1, _ :: l, i + 1, v, h => lg_pad n l i v h
theorem inL_args (ad : Nat → Nat → Nat) : ∀ (as : List AV) (b i : Nat) (v : AV), lg (inL as) i = some v → (b + i, renV ad v) ∈ lv_args b (as.map (renV ad))
  | [], _, _, _, h => by simp [inL, lg] at h
  | a :: as, b, i, v, h => by
    simp only [inL] at h
    simp only [List.map_cons, lv_args, cat_ren]
    split at h
    · rename_i hq
      rw [if_pos (by rw [if_pos hq])]
      match i, h with
      | 0, h => cases h; exact List.mem_cons_self
      | 1, h => simp [lg] at h
      | i + 2, h =>
        have h2 := inL_args ad as (b + 2) i v h
        rw [show b + 2 + i = b + (i + 2) by omega] at h2
        exact List.mem_cons_of_mem _ h2
    · rename_i hq
      rw [if_neg (by rw [if_neg hq]; decide)]
      match i, h with
      | 0, h => cases h; exact List.mem_cons_self
      | i + 1, h =>
        have h2 := inL_args ad as (b + 1) i v h
        rw [show b + 1 + i = b + (i + 1) by omega] at h2
        exact List.mem_cons_of_mem _ h2
theorem inL_len (ad : Nat → Nat → Nat) : ∀ (as : List AV), (lg_sl (as.map (renV ad))).length = (inL as).length
  | [] => rfl
  | a :: as => by
    have h := inL_len ad as
    simp only [lg_sl, List.map_cons, List.flatMap_cons, List.length_append, cat_ren, inL] at h ⊢
    split
    · simp only [if_pos, List.length_cons, List.length_nil, h]; omega
    · simp only [h]; simp; omega
theorem inL_cl {w : Wd} : ∀ {as : List AV}, (∀ a ∈ as, clV w a) → clL w (inL as)
  | [], _, i, v, h => by simp [inL, lg] at h
  | a :: as, hc, i, v, h => by
    simp only [inL] at h
    have hr := inL_cl (as := as) (fun x hx => hc x (List.mem_cons_of_mem _ hx))
    split at h
    · match i, h with
      | 0, h => cases h; exact hc _ List.mem_cons_self
      | 1, h => simp [lg] at h
      | i + 2, h => exact hr i v h
    · match i, h with
      | 0, h => cases h; exact hc _ List.mem_cons_self
      | i + 1, h => exact hr i v h
set_option maxHeartbeats 4000000 in
/-- a method out of its body -/
theorem Sem_of {l : Launch} {G : Gc} {M : MI} {n mc ms : Nat} {Q : Option AV → Wd → Prop} {as : List AV} {w : Wd} (hy : plainName (mY M).cls = true) (ho : (mY M).cls = mOwn M) (hn : (inL as).length ≤ mL M) (h : WP l G M n mc ms Q 0 (pad (mL M) (inL as)) [] w 0 0) : Sem l G M n mc ms as w Q := by
  intro ad
  refine Met.ofW (cc := mB M) (maxL := mL M) (ret := mR M) hy rfl ?_
  intro p e s m args below meth c s₁ B hml hv
  obtain ⟨rfl, hR, hKK, hcl⟩ := hv
  have hx := B.exec
  have hb := B.bytes
  have hr := B.returns
  have hts := atoms_spec (ws := wsY M) B.pre
  have hown : s.vm.findClass (mOwn M) = some m.cls := by rw [← ho]; exact findClass_of_methodNamed B.named
  have hlocks := B.notSynchronized
  have hnm : meth.name = (mY M).name := (name_of_methodNamed B.named B.method).1
  have hl := lv_entry (as.map (renV ad)) (n := mL M) (by rw [inL_len]; exact hn)
  rw [lg_entry_eq]
  generalize (lg_sl (as.map (renV ad)) ++ List.replicate (mL M - (lg_sl (as.map (renV ad))).length) Slot.unset).toArray = ls at hl ⊢
  have hL : LsR ad (mL M) (pad (mL M) (inL as)) ls := ⟨hl.1, pad_len _ _, hl.2.1, fun i v hi => by
    have h2 := inL_args ad as 0 i v (lg_pad _ _ _ _ hi)
    rw [Nat.zero_add] at h2
    exact hl.2.2 _ h2⟩
  refine h p e s m _ below meth c _ ad w ⟨hx, hb, hr, hml, hown, fun w hw => hts w (List.mem_cons_of_mem _ hw), hKK, hlocks, hnm⟩ ?_ ad s.heap [] ls hR ⟨fun _ _ _ => rfl, fun _ => Nat.le_refl _⟩ hL (fun i v hi => inL_cl hcl i v (lg_pad _ _ _ _ hi)) (fun v hv => by cases hv) (fun q hq => by cases hq) (Nat.zero_le _) (Nat.zero_le _)
  intro r w' ad' H' locs' pc' ls' cu' su' hq hR' hE' hcr hlo' hc1 hc2 hret
  refine W.widen hc1 hc2 ?_
  rcases hret with ⟨v, rfl, hd, hnr⟩ | ⟨v, rfl, hd, hnr⟩ | ⟨v, rfl, hd, ty, hnr, hty⟩ | ⟨rfl, hd, hnr⟩
  · cases hm : mR M with
    | none => rw [hm] at hnr; exact hnr.elim
    | some ty =>
      rw [hm] at hnr
      exact W.zret hx hb (hr.trans hm) (nar_narrow hnr).1 (fun t ht hW => ⟨some (.inl v), w', ad', rfl, by rw [ht]; exact hR', hE', hcr, hq⟩) hlo' hd
  · exact W.lret hx hb (hr.trans hnr) (fun t ht hW => ⟨some (.inr (.inl v)), w', ad', rfl, by rw [ht]; exact hR', hE', hcr, hq⟩) hlo' hd
  · refine W.aret hx hb (hr.trans hnr) ?_ ?_ (fun t ht hW => ⟨some (.inr (.inr v)), w', ad', rfl, by rw [ht]; exact hR', hE', hcr, hq⟩) hlo' hd
    · cases ty <;> first | exact Or.inl ⟨_, rfl⟩ | exact Or.inr ⟨_, rfl⟩ | cases hty
    · cases v with
      | none => exact Or.inl rfl
      | some q => exact Or.inr ⟨_, rfl⟩
  · exact W.vret hx hb (hr.trans hnr) (fun t ht hW => ⟨none, w', ad', rfl, by rw [ht]; exact hR', hE', hcr, hq⟩) hlo' hd
end
