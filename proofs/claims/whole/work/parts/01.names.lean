/-- the name of the method that a row of the tables speaks of -/
def lw_nameOf : Option Cond → String
  | some (.privateMethod m) => m.name
  | _ => ""
/-- the name of the class's own method behind lotAt, as the tables have it -/
def lw_n46 : String := lw_nameOf tables_1_3[85]?
-- ===== PART A: goes FIRST, ahead of the names: the tables' words, and 'selects' of the private methods out of them =====
/-- a private method of a class that the tables say can be made, by its rows of tables_1 -/
def lw_okq (q : MethodName × Nat) : Prop := (q.1.cls ≠ "java/lang/invoke/MethodHandle" ∧ q.1.cls ≠ "java/lang/invoke/VarHandle") ∧ Cond.instantiable q.1.cls q.2 ∈ tables_1 ∧ Cond.privateMethod q.1 ∈ tables_1 ∧ Cond.instanceMethod q.1 ∈ tables_1
theorem lw_p0 : lw_okq (⟨"StockYard", "refuse", "(I)I"⟩, 10) := ⟨⟨by decide +kernel, by decide +kernel⟩, List.mem_of_getElem? (i := 28) (by decide +kernel), List.mem_of_getElem? (i := 276) (by decide +kernel), List.mem_of_getElem? (i := 277) (by decide +kernel)⟩
theorem lw_p1 : lw_okq (⟨"java/util/ArrayList", "add", "(Ljava/lang/Object;[Ljava/lang/Object;I)V"⟩, 3) := ⟨⟨by decide +kernel, by decide +kernel⟩, List.mem_of_getElem? (i := 42) (by decide +kernel), List.mem_of_getElem? (i := 328) (by decide +kernel), List.mem_of_getElem? (i := 329) (by decide +kernel)⟩
theorem lw_p2 : lw_okq (⟨"java/util/ArrayList", "grow", "()[Ljava/lang/Object;"⟩, 3) := ⟨⟨by decide +kernel, by decide +kernel⟩, List.mem_of_getElem? (i := 42) (by decide +kernel), List.mem_of_getElem? (i := 332) (by decide +kernel), List.mem_of_getElem? (i := 333) (by decide +kernel)⟩
theorem lw_p3 : lw_okq (⟨"java/util/ArrayList", "grow", "(I)[Ljava/lang/Object;"⟩, 3) := ⟨⟨by decide +kernel, by decide +kernel⟩, List.mem_of_getElem? (i := 42) (by decide +kernel), List.mem_of_getElem? (i := 336) (by decide +kernel), List.mem_of_getElem? (i := 337) (by decide +kernel)⟩
theorem lw_p4 : lw_okq (⟨"StockYard$Yard", "minutesBetween", "(II)I"⟩, 5) := ⟨⟨by decide +kernel, by decide +kernel⟩, List.mem_of_getElem? (i := 36) (by decide +kernel), List.mem_of_getElem? (i := 385) (by decide +kernel), List.mem_of_getElem? (i := 386) (by decide +kernel)⟩
theorem lw_p5 : lw_okq (⟨"StockYard$Yard", "leastAlleyToward", "(II)I"⟩, 5) := ⟨⟨by decide +kernel, by decide +kernel⟩, List.mem_of_getElem? (i := 36) (by decide +kernel), List.mem_of_getElem? (i := 404) (by decide +kernel), List.mem_of_getElem? (i := 405) (by decide +kernel)⟩
theorem lw_p6 : lw_okq (⟨"StockYard", "hasLot", "(I)Z"⟩, 10) := ⟨⟨by decide +kernel, by decide +kernel⟩, List.mem_of_getElem? (i := 28) (by decide +kernel), List.mem_of_getElem? (i := 462) (by decide +kernel), List.mem_of_getElem? (i := 463) (by decide +kernel)⟩
theorem lw_p7 : lw_okq (⟨"StockYard", lw_n46, "(LStockYard$Lot;)I"⟩, 10) := ⟨⟨by decide +kernel, by decide +kernel⟩, List.mem_of_getElem? (i := 28) (by decide +kernel), List.mem_of_getElem? (i := 565) (by decide +kernel), List.mem_of_getElem? (i := 566) (by decide +kernel)⟩
theorem lw_p8 : lw_okq (⟨"StockYard", "lotAt", "(I)LStockYard$Lot;"⟩, 10) := ⟨⟨by decide +kernel, by decide +kernel⟩, List.mem_of_getElem? (i := 28) (by decide +kernel), List.mem_of_getElem? (i := 574) (by decide +kernel), List.mem_of_getElem? (i := 575) (by decide +kernel)⟩
theorem lw_p9 : lw_okq (⟨"StockYard", "isIn", "(LStockYard$Lot;I)Z"⟩, 10) := ⟨⟨by decide +kernel, by decide +kernel⟩, List.mem_of_getElem? (i := 28) (by decide +kernel), List.mem_of_getElem? (i := 578) (by decide +kernel), List.mem_of_getElem? (i := 579) (by decide +kernel)⟩
theorem lw_p10 : lw_okq (⟨"StockYard$Rule", "isMet", "(ILStockYard$Lot;II)Z"⟩, 9) := ⟨⟨by decide +kernel, by decide +kernel⟩, List.mem_of_getElem? (i := 608) (by decide +kernel), List.mem_of_getElem? (i := 606) (by decide +kernel), List.mem_of_getElem? (i := 607) (by decide +kernel)⟩
theorem lw_p11 : lw_okq (⟨"StockYard", "isInDoubt", "(LStockYard$Lot;)Z"⟩, 10) := ⟨⟨by decide +kernel, by decide +kernel⟩, List.mem_of_getElem? (i := 28) (by decide +kernel), List.mem_of_getElem? (i := 615) (by decide +kernel), List.mem_of_getElem? (i := 616) (by decide +kernel)⟩
theorem lw_p12 : lw_okq (⟨"StockYard", "mayBeDriven", "(LStockYard$Lot;)Z"⟩, 10) := ⟨⟨by decide +kernel, by decide +kernel⟩, List.mem_of_getElem? (i := 28) (by decide +kernel), List.mem_of_getElem? (i := 634) (by decide +kernel), List.mem_of_getElem? (i := 635) (by decide +kernel)⟩
theorem lw_p13 : lw_okq (⟨"StockYard$Yard", "putOff", "(LStockYard$Way;I)I"⟩, 5) := ⟨⟨by decide +kernel, by decide +kernel⟩, List.mem_of_getElem? (i := 36) (by decide +kernel), List.mem_of_getElem? (i := 646) (by decide +kernel), List.mem_of_getElem? (i := 647) (by decide +kernel)⟩
theorem lw_p14 : lw_okq (⟨"StockYard$Alley", "meets", "(I)I"⟩, 5) := ⟨⟨by decide +kernel, by decide +kernel⟩, List.mem_of_getElem? (i := 301) (by decide +kernel), List.mem_of_getElem? (i := 659) (by decide +kernel), List.mem_of_getElem? (i := 660) (by decide +kernel)⟩
theorem lw_p15 : lw_okq (⟨"StockYard", "arePens", "(I)Z"⟩, 10) := ⟨⟨by decide +kernel, by decide +kernel⟩, List.mem_of_getElem? (i := 28) (by decide +kernel), List.mem_of_getElem? (i := 691) (by decide +kernel), List.mem_of_getElem? (i := 692) (by decide +kernel)⟩
def lw_privs_1 : List (MethodName × Nat) := [(⟨"StockYard", "refuse", "(I)I"⟩, 10), (⟨"java/util/ArrayList", "add", "(Ljava/lang/Object;[Ljava/lang/Object;I)V"⟩, 3), (⟨"java/util/ArrayList", "grow", "()[Ljava/lang/Object;"⟩, 3), (⟨"java/util/ArrayList", "grow", "(I)[Ljava/lang/Object;"⟩, 3), (⟨"StockYard$Yard", "minutesBetween", "(II)I"⟩, 5), (⟨"StockYard$Yard", "leastAlleyToward", "(II)I"⟩, 5), (⟨"StockYard", "hasLot", "(I)Z"⟩, 10), (⟨"StockYard", lw_n46, "(LStockYard$Lot;)I"⟩, 10), (⟨"StockYard", "lotAt", "(I)LStockYard$Lot;"⟩, 10), (⟨"StockYard", "isIn", "(LStockYard$Lot;I)Z"⟩, 10), (⟨"StockYard$Rule", "isMet", "(ILStockYard$Lot;II)Z"⟩, 9), (⟨"StockYard", "isInDoubt", "(LStockYard$Lot;)Z"⟩, 10), (⟨"StockYard", "mayBeDriven", "(LStockYard$Lot;)Z"⟩, 10), (⟨"StockYard$Yard", "putOff", "(LStockYard$Way;I)I"⟩, 5), (⟨"StockYard$Alley", "meets", "(I)I"⟩, 5), (⟨"StockYard", "arePens", "(I)Z"⟩, 10)]
theorem lw_r1 : ∀ q ∈ lw_privs_1, lw_okq q := List.forall_mem_cons.mpr ⟨lw_p0, List.forall_mem_cons.mpr ⟨lw_p1, List.forall_mem_cons.mpr ⟨lw_p2, List.forall_mem_cons.mpr ⟨lw_p3, List.forall_mem_cons.mpr ⟨lw_p4, List.forall_mem_cons.mpr ⟨lw_p5, List.forall_mem_cons.mpr ⟨lw_p6, List.forall_mem_cons.mpr ⟨lw_p7, List.forall_mem_cons.mpr ⟨lw_p8, List.forall_mem_cons.mpr ⟨lw_p9, List.forall_mem_cons.mpr ⟨lw_p10, List.forall_mem_cons.mpr ⟨lw_p11, List.forall_mem_cons.mpr ⟨lw_p12, List.forall_mem_cons.mpr ⟨lw_p13, List.forall_mem_cons.mpr ⟨lw_p14, List.forall_mem_cons.mpr ⟨lw_p15, fun _ h => absurd h List.not_mem_nil⟩⟩⟩⟩⟩⟩⟩⟩⟩⟩⟩⟩⟩⟩⟩⟩
theorem lw_p16 : lw_okq (⟨"StockYard", "mayAllBeDriven", "(I)Z"⟩, 10) := ⟨⟨by decide +kernel, by decide +kernel⟩, List.mem_of_getElem? (i := 28) (by decide +kernel), List.mem_of_getElem? (i := 704) (by decide +kernel), List.mem_of_getElem? (i := 705) (by decide +kernel)⟩
theorem lw_p17 : lw_okq (⟨"StockYard", "hasLotInOne", "(I)Z"⟩, 10) := ⟨⟨by decide +kernel, by decide +kernel⟩, List.mem_of_getElem? (i := 28) (by decide +kernel), List.mem_of_getElem? (i := 708) (by decide +kernel), List.mem_of_getElem? (i := 709) (by decide +kernel)⟩
theorem lw_p18 : lw_okq (⟨"StockYard", "readyPlanner", "(II)V"⟩, 10) := ⟨⟨by decide +kernel, by decide +kernel⟩, List.mem_of_getElem? (i := 28) (by decide +kernel), List.mem_of_getElem? (i := 712) (by decide +kernel), List.mem_of_getElem? (i := 713) (by decide +kernel)⟩
theorem lw_p19 : lw_okq (⟨"StockYard$Planner", "tell", "(II)V"⟩, 15) := ⟨⟨by decide +kernel, by decide +kernel⟩, List.mem_of_getElem? (i := 139) (by decide +kernel), List.mem_of_getElem? (i := 734) (by decide +kernel), List.mem_of_getElem? (i := 735) (by decide +kernel)⟩
theorem lw_p20 : lw_okq (⟨"StockYard$Planner", "keep", "(I)V"⟩, 15) := ⟨⟨by decide +kernel, by decide +kernel⟩, List.mem_of_getElem? (i := 139) (by decide +kernel), List.mem_of_getElem? (i := 738) (by decide +kernel), List.mem_of_getElem? (i := 739) (by decide +kernel)⟩
theorem lw_p21 : lw_okq (⟨"StockYard$Planner", "tellOne", "(IIII)V"⟩, 15) := ⟨⟨by decide +kernel, by decide +kernel⟩, List.mem_of_getElem? (i := 139) (by decide +kernel), List.mem_of_getElem? (i := 743) (by decide +kernel), List.mem_of_getElem? (i := 744) (by decide +kernel)⟩
theorem lw_p22 : lw_okq (⟨"StockYard$Tape", "readWord", "(Z)I"⟩, 3) := ⟨⟨by decide +kernel, by decide +kernel⟩, List.mem_of_getElem? (i := 91) (by decide +kernel), List.mem_of_getElem? (i := 829) (by decide +kernel), List.mem_of_getElem? (i := 830) (by decide +kernel)⟩
theorem lw_p23 : lw_okq (⟨"StockYard$Tape", "readText", "(Ljava/lang/String;)Z"⟩, 3) := ⟨⟨by decide +kernel, by decide +kernel⟩, List.mem_of_getElem? (i := 91) (by decide +kernel), List.mem_of_getElem? (i := 886) (by decide +kernel), List.mem_of_getElem? (i := 887) (by decide +kernel)⟩
theorem lw_p24 : lw_okq (⟨"StockYard$Tape", "readSign", "(C)Z"⟩, 3) := ⟨⟨by decide +kernel, by decide +kernel⟩, List.mem_of_getElem? (i := 91) (by decide +kernel), List.mem_of_getElem? (i := 898) (by decide +kernel), List.mem_of_getElem? (i := 899) (by decide +kernel)⟩
theorem lw_p25 : lw_okq (⟨"StockYard$Tape", "readNumber", "()I"⟩, 3) := ⟨⟨by decide +kernel, by decide +kernel⟩, List.mem_of_getElem? (i := 91) (by decide +kernel), List.mem_of_getElem? (i := 902) (by decide +kernel), List.mem_of_getElem? (i := 903) (by decide +kernel)⟩
theorem lw_p26 : lw_okq (⟨"StockYard$Tape", "readTests", "(LStockYard$Rule;)Z"⟩, 3) := ⟨⟨by decide +kernel, by decide +kernel⟩, List.mem_of_getElem? (i := 91) (by decide +kernel), List.mem_of_getElem? (i := 908) (by decide +kernel), List.mem_of_getElem? (i := 909) (by decide +kernel)⟩
theorem lw_p27 : lw_okq (⟨"StockYard$Tape", "readTest", "(LStockYard$Rule;)Z"⟩, 3) := ⟨⟨by decide +kernel, by decide +kernel⟩, List.mem_of_getElem? (i := 91) (by decide +kernel), List.mem_of_getElem? (i := 912) (by decide +kernel), List.mem_of_getElem? (i := 913) (by decide +kernel)⟩
theorem lw_p28 : lw_okq (⟨"StockYard", "weightOf", "(LStockYard$Lot;)I"⟩, 10) := ⟨⟨by decide +kernel, by decide +kernel⟩, List.mem_of_getElem? (i := 28) (by decide +kernel), List.mem_of_getElem? (i := 977) (by decide +kernel), List.mem_of_getElem? (i := 978) (by decide +kernel)⟩
theorem lw_p29 : lw_okq (⟨"StockYard$Sale", "moneyFor", "(I)I"⟩, 11) := ⟨⟨by decide +kernel, by decide +kernel⟩, List.mem_of_getElem? (i := 473) (by decide +kernel), List.mem_of_getElem? (i := 990) (by decide +kernel), List.mem_of_getElem? (i := 991) (by decide +kernel)⟩
theorem lw_p30 : lw_okq (⟨"StockYard", "settle", "(II)I"⟩, 10) := ⟨⟨by decide +kernel, by decide +kernel⟩, List.mem_of_getElem? (i := 28) (by decide +kernel), List.mem_of_getElem? (i := 1007) (by decide +kernel), List.mem_of_getElem? (i := 1008) (by decide +kernel)⟩
theorem lw_p31 : lw_okq (⟨"StockYard", "lotsOnWay", "()I"⟩, 10) := ⟨⟨by decide +kernel, by decide +kernel⟩, List.mem_of_getElem? (i := 28) (by decide +kernel), List.mem_of_getElem? (i := 1066) (by decide +kernel), List.mem_of_getElem? (i := 1067) (by decide +kernel)⟩
def lw_privs_2 : List (MethodName × Nat) := [(⟨"StockYard", "mayAllBeDriven", "(I)Z"⟩, 10), (⟨"StockYard", "hasLotInOne", "(I)Z"⟩, 10), (⟨"StockYard", "readyPlanner", "(II)V"⟩, 10), (⟨"StockYard$Planner", "tell", "(II)V"⟩, 15), (⟨"StockYard$Planner", "keep", "(I)V"⟩, 15), (⟨"StockYard$Planner", "tellOne", "(IIII)V"⟩, 15), (⟨"StockYard$Tape", "readWord", "(Z)I"⟩, 3), (⟨"StockYard$Tape", "readText", "(Ljava/lang/String;)Z"⟩, 3), (⟨"StockYard$Tape", "readSign", "(C)Z"⟩, 3), (⟨"StockYard$Tape", "readNumber", "()I"⟩, 3), (⟨"StockYard$Tape", "readTests", "(LStockYard$Rule;)Z"⟩, 3), (⟨"StockYard$Tape", "readTest", "(LStockYard$Rule;)Z"⟩, 3), (⟨"StockYard", "weightOf", "(LStockYard$Lot;)I"⟩, 10), (⟨"StockYard$Sale", "moneyFor", "(I)I"⟩, 11), (⟨"StockYard", "settle", "(II)I"⟩, 10), (⟨"StockYard", "lotsOnWay", "()I"⟩, 10)]
theorem lw_r2 : ∀ q ∈ lw_privs_2, lw_okq q := List.forall_mem_cons.mpr ⟨lw_p16, List.forall_mem_cons.mpr ⟨lw_p17, List.forall_mem_cons.mpr ⟨lw_p18, List.forall_mem_cons.mpr ⟨lw_p19, List.forall_mem_cons.mpr ⟨lw_p20, List.forall_mem_cons.mpr ⟨lw_p21, List.forall_mem_cons.mpr ⟨lw_p22, List.forall_mem_cons.mpr ⟨lw_p23, List.forall_mem_cons.mpr ⟨lw_p24, List.forall_mem_cons.mpr ⟨lw_p25, List.forall_mem_cons.mpr ⟨lw_p26, List.forall_mem_cons.mpr ⟨lw_p27, List.forall_mem_cons.mpr ⟨lw_p28, List.forall_mem_cons.mpr ⟨lw_p29, List.forall_mem_cons.mpr ⟨lw_p30, List.forall_mem_cons.mpr ⟨lw_p31, fun _ h => absurd h List.not_mem_nil⟩⟩⟩⟩⟩⟩⟩⟩⟩⟩⟩⟩⟩⟩⟩⟩
theorem lw_p32 : lw_okq (⟨"StockYard", "dryLots", "()I"⟩, 10) := ⟨⟨by decide +kernel, by decide +kernel⟩, List.mem_of_getElem? (i := 28) (by decide +kernel), List.mem_of_getElem? (i := 1070) (by decide +kernel), List.mem_of_getElem? (i := 1071) (by decide +kernel)⟩
theorem lw_p33 : lw_okq (⟨"StockYard", "soldLots", "()I"⟩, 10) := ⟨⟨by decide +kernel, by decide +kernel⟩, List.mem_of_getElem? (i := 28) (by decide +kernel), List.mem_of_getElem? (i := 1074) (by decide +kernel), List.mem_of_getElem? (i := 1075) (by decide +kernel)⟩
theorem lw_p34 : lw_okq (⟨"StockYard", "headsAtHooks", "()I"⟩, 10) := ⟨⟨by decide +kernel, by decide +kernel⟩, List.mem_of_getElem? (i := 28) (by decide +kernel), List.mem_of_getElem? (i := 1078) (by decide +kernel), List.mem_of_getElem? (i := 1079) (by decide +kernel)⟩
theorem lw_p35 : lw_okq (⟨"StockYardModel", "refused", "(I)I"⟩, 69) := ⟨⟨by decide +kernel, by decide +kernel⟩, List.mem_of_getElem? (i := 1125) (by decide +kernel), List.mem_of_getElem? (i := 1344) (by decide +kernel), List.mem_of_getElem? (i := 1345) (by decide +kernel)⟩
theorem lw_p36 : lw_okq (⟨"StockYardModel", "isPlace", "(I)Z"⟩, 69) := ⟨⟨by decide +kernel, by decide +kernel⟩, List.mem_of_getElem? (i := 1125) (by decide +kernel), List.mem_of_getElem? (i := 1356) (by decide +kernel), List.mem_of_getElem? (i := 1357) (by decide +kernel)⟩
theorem lw_p37 : lw_okq (⟨"StockYardModel", "walk", "(II)I"⟩, 69) := ⟨⟨by decide +kernel, by decide +kernel⟩, List.mem_of_getElem? (i := 1125) (by decide +kernel), List.mem_of_getElem? (i := 1364) (by decide +kernel), List.mem_of_getElem? (i := 1365) (by decide +kernel)⟩
theorem lw_p38 : lw_okq (⟨"StockYardModel", "other", "(II)I"⟩, 69) := ⟨⟨by decide +kernel, by decide +kernel⟩, List.mem_of_getElem? (i := 1125) (by decide +kernel), List.mem_of_getElem? (i := 1369) (by decide +kernel), List.mem_of_getElem? (i := 1370) (by decide +kernel)⟩
theorem lw_p39 : lw_okq (⟨"StockYardModel", "isTaken", "(I)Z"⟩, 69) := ⟨⟨by decide +kernel, by decide +kernel⟩, List.mem_of_getElem? (i := 1125) (by decide +kernel), List.mem_of_getElem? (i := 1384) (by decide +kernel), List.mem_of_getElem? (i := 1385) (by decide +kernel)⟩
theorem lw_p40 : lw_okq (⟨"StockYardModel", "comes", "(IIIIIII)I"⟩, 69) := ⟨⟨by decide +kernel, by decide +kernel⟩, List.mem_of_getElem? (i := 1125) (by decide +kernel), List.mem_of_getElem? (i := 1388) (by decide +kernel), List.mem_of_getElem? (i := 1389) (by decide +kernel)⟩
theorem lw_p41 : lw_okq (⟨"StockYardModel", "isLot", "(I)Z"⟩, 69) := ⟨⟨by decide +kernel, by decide +kernel⟩, List.mem_of_getElem? (i := 1125) (by decide +kernel), List.mem_of_getElem? (i := 1396) (by decide +kernel), List.mem_of_getElem? (i := 1397) (by decide +kernel)⟩
theorem lw_p42 : lw_okq (⟨"StockYardModel", "isInPen", "(I)Z"⟩, 69) := ⟨⟨by decide +kernel, by decide +kernel⟩, List.mem_of_getElem? (i := 1125) (by decide +kernel), List.mem_of_getElem? (i := 1400) (by decide +kernel), List.mem_of_getElem? (i := 1401) (by decide +kernel)⟩
theorem lw_p43 : lw_okq (⟨"StockYardModel", "thirst", "(I)I"⟩, 69) := ⟨⟨by decide +kernel, by decide +kernel⟩, List.mem_of_getElem? (i := 1125) (by decide +kernel), List.mem_of_getElem? (i := 1408) (by decide +kernel), List.mem_of_getElem? (i := 1409) (by decide +kernel)⟩
theorem lw_p44 : lw_okq (⟨"StockYardModel", "isDry", "(I)Z"⟩, 69) := ⟨⟨by decide +kernel, by decide +kernel⟩, List.mem_of_getElem? (i := 1125) (by decide +kernel), List.mem_of_getElem? (i := 1412) (by decide +kernel), List.mem_of_getElem? (i := 1413) (by decide +kernel)⟩
theorem lw_p45 : lw_okq (⟨"StockYardModel", "saidBy", "(III)I"⟩, 69) := ⟨⟨by decide +kernel, by decide +kernel⟩, List.mem_of_getElem? (i := 1125) (by decide +kernel), List.mem_of_getElem? (i := 1416) (by decide +kernel), List.mem_of_getElem? (i := 1417) (by decide +kernel)⟩
theorem lw_p46 : lw_okq (⟨"StockYardModel", "holdsFor", "(III)Z"⟩, 69) := ⟨⟨by decide +kernel, by decide +kernel⟩, List.mem_of_getElem? (i := 1125) (by decide +kernel), List.mem_of_getElem? (i := 1420) (by decide +kernel), List.mem_of_getElem? (i := 1421) (by decide +kernel)⟩
theorem lw_p47 : lw_okq (⟨"StockYardModel", "isSo", "(III)Z"⟩, 69) := ⟨⟨by decide +kernel, by decide +kernel⟩, List.mem_of_getElem? (i := 1125) (by decide +kernel), List.mem_of_getElem? (i := 1424) (by decide +kernel), List.mem_of_getElem? (i := 1425) (by decide +kernel)⟩
def lw_privs_3 : List (MethodName × Nat) := [(⟨"StockYard", "dryLots", "()I"⟩, 10), (⟨"StockYard", "soldLots", "()I"⟩, 10), (⟨"StockYard", "headsAtHooks", "()I"⟩, 10), (⟨"StockYardModel", "refused", "(I)I"⟩, 69), (⟨"StockYardModel", "isPlace", "(I)Z"⟩, 69), (⟨"StockYardModel", "walk", "(II)I"⟩, 69), (⟨"StockYardModel", "other", "(II)I"⟩, 69), (⟨"StockYardModel", "isTaken", "(I)Z"⟩, 69), (⟨"StockYardModel", "comes", "(IIIIIII)I"⟩, 69), (⟨"StockYardModel", "isLot", "(I)Z"⟩, 69), (⟨"StockYardModel", "isInPen", "(I)Z"⟩, 69), (⟨"StockYardModel", "thirst", "(I)I"⟩, 69), (⟨"StockYardModel", "isDry", "(I)Z"⟩, 69), (⟨"StockYardModel", "saidBy", "(III)I"⟩, 69), (⟨"StockYardModel", "holdsFor", "(III)Z"⟩, 69), (⟨"StockYardModel", "isSo", "(III)Z"⟩, 69)]
theorem lw_r3 : ∀ q ∈ lw_privs_3, lw_okq q := List.forall_mem_cons.mpr ⟨lw_p32, List.forall_mem_cons.mpr ⟨lw_p33, List.forall_mem_cons.mpr ⟨lw_p34, List.forall_mem_cons.mpr ⟨lw_p35, List.forall_mem_cons.mpr ⟨lw_p36, List.forall_mem_cons.mpr ⟨lw_p37, List.forall_mem_cons.mpr ⟨lw_p38, List.forall_mem_cons.mpr ⟨lw_p39, List.forall_mem_cons.mpr ⟨lw_p40, List.forall_mem_cons.mpr ⟨lw_p41, List.forall_mem_cons.mpr ⟨lw_p42, List.forall_mem_cons.mpr ⟨lw_p43, List.forall_mem_cons.mpr ⟨lw_p44, List.forall_mem_cons.mpr ⟨lw_p45, List.forall_mem_cons.mpr ⟨lw_p46, List.forall_mem_cons.mpr ⟨lw_p47, fun _ h => absurd h List.not_mem_nil⟩⟩⟩⟩⟩⟩⟩⟩⟩⟩⟩⟩⟩⟩⟩⟩
theorem lw_p48 : lw_okq (⟨"StockYardModel", "valueOf", "(III)I"⟩, 69) := ⟨⟨by decide +kernel, by decide +kernel⟩, List.mem_of_getElem? (i := 1125) (by decide +kernel), List.mem_of_getElem? (i := 1428) (by decide +kernel), List.mem_of_getElem? (i := 1429) (by decide +kernel)⟩
theorem lw_p49 : lw_okq (⟨"StockYardModel", "isInDoubt", "(I)Z"⟩, 69) := ⟨⟨by decide +kernel, by decide +kernel⟩, List.mem_of_getElem? (i := 1125) (by decide +kernel), List.mem_of_getElem? (i := 1432) (by decide +kernel), List.mem_of_getElem? (i := 1433) (by decide +kernel)⟩
theorem lw_p50 : lw_okq (⟨"StockYardModel", "find", "(I)I"⟩, 69) := ⟨⟨by decide +kernel, by decide +kernel⟩, List.mem_of_getElem? (i := 1125) (by decide +kernel), List.mem_of_getElem? (i := 1436) (by decide +kernel), List.mem_of_getElem? (i := 1437) (by decide +kernel)⟩
theorem lw_p51 : lw_okq (⟨"StockYardModel", "goes", "()I"⟩, 69) := ⟨⟨by decide +kernel, by decide +kernel⟩, List.mem_of_getElem? (i := 1125) (by decide +kernel), List.mem_of_getElem? (i := 1447) (by decide +kernel), List.mem_of_getElem? (i := 1448) (by decide +kernel)⟩
theorem lw_p52 : lw_okq (⟨"StockYardModel", "mayBegin", "(I)Z"⟩, 69) := ⟨⟨by decide +kernel, by decide +kernel⟩, List.mem_of_getElem? (i := 1125) (by decide +kernel), List.mem_of_getElem? (i := 1451) (by decide +kernel), List.mem_of_getElem? (i := 1452) (by decide +kernel)⟩
theorem lw_p53 : lw_okq (⟨"StockYardModel", "isFree", "(III)Z"⟩, 69) := ⟨⟨by decide +kernel, by decide +kernel⟩, List.mem_of_getElem? (i := 1125) (by decide +kernel), List.mem_of_getElem? (i := 1455) (by decide +kernel), List.mem_of_getElem? (i := 1456) (by decide +kernel)⟩
theorem lw_p54 : lw_okq (⟨"StockYardModel", "tries", "(IIII)V"⟩, 69) := ⟨⟨by decide +kernel, by decide +kernel⟩, List.mem_of_getElem? (i := 1125) (by decide +kernel), List.mem_of_getElem? (i := 1474) (by decide +kernel), List.mem_of_getElem? (i := 1475) (by decide +kernel)⟩
theorem lw_p55 : lw_okq (⟨"StockYardModel", "readRule", "()V"⟩, 69) := ⟨⟨by decide +kernel, by decide +kernel⟩, List.mem_of_getElem? (i := 1125) (by decide +kernel), List.mem_of_getElem? (i := 1495) (by decide +kernel), List.mem_of_getElem? (i := 1496) (by decide +kernel)⟩
theorem lw_p56 : lw_okq (⟨"StockYardModel", "keyHere", "()I"⟩, 69) := ⟨⟨by decide +kernel, by decide +kernel⟩, List.mem_of_getElem? (i := 1125) (by decide +kernel), List.mem_of_getElem? (i := 1499) (by decide +kernel), List.mem_of_getElem? (i := 1500) (by decide +kernel)⟩
theorem lw_p57 : lw_okq (⟨"StockYardModel", "here", "()I"⟩, 69) := ⟨⟨by decide +kernel, by decide +kernel⟩, List.mem_of_getElem? (i := 1125) (by decide +kernel), List.mem_of_getElem? (i := 1503) (by decide +kernel), List.mem_of_getElem? (i := 1504) (by decide +kernel)⟩
theorem lw_p58 : lw_okq (⟨"StockYardModel", "letters", "(J)V"⟩, 69) := ⟨⟨by decide +kernel, by decide +kernel⟩, List.mem_of_getElem? (i := 1125) (by decide +kernel), List.mem_of_getElem? (i := 1511) (by decide +kernel), List.mem_of_getElem? (i := 1512) (by decide +kernel)⟩
theorem lw_p59 : lw_okq (⟨"StockYardModel", "one", "(I)V"⟩, 69) := ⟨⟨by decide +kernel, by decide +kernel⟩, List.mem_of_getElem? (i := 1125) (by decide +kernel), List.mem_of_getElem? (i := 1516) (by decide +kernel), List.mem_of_getElem? (i := 1517) (by decide +kernel)⟩
theorem lw_p60 : lw_okq (⟨"StockYardModel", "numberHere", "()I"⟩, 69) := ⟨⟨by decide +kernel, by decide +kernel⟩, List.mem_of_getElem? (i := 1125) (by decide +kernel), List.mem_of_getElem? (i := 1520) (by decide +kernel), List.mem_of_getElem? (i := 1521) (by decide +kernel)⟩
theorem lw_p61 : lw_okq (⟨"StockYardModel", "testHere", "()V"⟩, 69) := ⟨⟨by decide +kernel, by decide +kernel⟩, List.mem_of_getElem? (i := 1125) (by decide +kernel), List.mem_of_getElem? (i := 1524) (by decide +kernel), List.mem_of_getElem? (i := 1525) (by decide +kernel)⟩
theorem lw_p62 : lw_okq (⟨"StockYardModel", "fieldHere", "()I"⟩, 69) := ⟨⟨by decide +kernel, by decide +kernel⟩, List.mem_of_getElem? (i := 1125) (by decide +kernel), List.mem_of_getElem? (i := 1528) (by decide +kernel), List.mem_of_getElem? (i := 1529) (by decide +kernel)⟩
theorem lw_p63 : lw_okq (⟨"StockYardModel", "isBarred", "(II)Z"⟩, 69) := ⟨⟨by decide +kernel, by decide +kernel⟩, List.mem_of_getElem? (i := 1125) (by decide +kernel), List.mem_of_getElem? (i := 1551) (by decide +kernel), List.mem_of_getElem? (i := 1552) (by decide +kernel)⟩
def lw_privs_4 : List (MethodName × Nat) := [(⟨"StockYardModel", "valueOf", "(III)I"⟩, 69), (⟨"StockYardModel", "isInDoubt", "(I)Z"⟩, 69), (⟨"StockYardModel", "find", "(I)I"⟩, 69), (⟨"StockYardModel", "goes", "()I"⟩, 69), (⟨"StockYardModel", "mayBegin", "(I)Z"⟩, 69), (⟨"StockYardModel", "isFree", "(III)Z"⟩, 69), (⟨"StockYardModel", "tries", "(IIII)V"⟩, 69), (⟨"StockYardModel", "readRule", "()V"⟩, 69), (⟨"StockYardModel", "keyHere", "()I"⟩, 69), (⟨"StockYardModel", "here", "()I"⟩, 69), (⟨"StockYardModel", "letters", "(J)V"⟩, 69), (⟨"StockYardModel", "one", "(I)V"⟩, 69), (⟨"StockYardModel", "numberHere", "()I"⟩, 69), (⟨"StockYardModel", "testHere", "()V"⟩, 69), (⟨"StockYardModel", "fieldHere", "()I"⟩, 69), (⟨"StockYardModel", "isBarred", "(II)Z"⟩, 69)]
theorem lw_r4 : ∀ q ∈ lw_privs_4, lw_okq q := List.forall_mem_cons.mpr ⟨lw_p48, List.forall_mem_cons.mpr ⟨lw_p49, List.forall_mem_cons.mpr ⟨lw_p50, List.forall_mem_cons.mpr ⟨lw_p51, List.forall_mem_cons.mpr ⟨lw_p52, List.forall_mem_cons.mpr ⟨lw_p53, List.forall_mem_cons.mpr ⟨lw_p54, List.forall_mem_cons.mpr ⟨lw_p55, List.forall_mem_cons.mpr ⟨lw_p56, List.forall_mem_cons.mpr ⟨lw_p57, List.forall_mem_cons.mpr ⟨lw_p58, List.forall_mem_cons.mpr ⟨lw_p59, List.forall_mem_cons.mpr ⟨lw_p60, List.forall_mem_cons.mpr ⟨lw_p61, List.forall_mem_cons.mpr ⟨lw_p62, List.forall_mem_cons.mpr ⟨lw_p63, fun _ h => absurd h List.not_mem_nil⟩⟩⟩⟩⟩⟩⟩⟩⟩⟩⟩⟩⟩⟩⟩⟩
theorem lw_p64 : lw_okq (⟨"StockYardModel", "moneyFor", "(II)I"⟩, 69) := ⟨⟨by decide +kernel, by decide +kernel⟩, List.mem_of_getElem? (i := 1125) (by decide +kernel), List.mem_of_getElem? (i := 1563) (by decide +kernel), List.mem_of_getElem? (i := 1564) (by decide +kernel)⟩
theorem lw_p65 : lw_okq (⟨"StockYardModel", "noScale", "(II)I"⟩, 69) := ⟨⟨by decide +kernel, by decide +kernel⟩, List.mem_of_getElem? (i := 1125) (by decide +kernel), List.mem_of_getElem? (i := 1572) (by decide +kernel), List.mem_of_getElem? (i := 1573) (by decide +kernel)⟩
theorem lw_p66 : lw_okq (⟨"StockYardModel", "forget", "()V"⟩, 69) := ⟨⟨by decide +kernel, by decide +kernel⟩, List.mem_of_getElem? (i := 1125) (by decide +kernel), List.mem_of_getElem? (i := 1604) (by decide +kernel), List.mem_of_getElem? (i := 1605) (by decide +kernel)⟩
def lw_privs_5 : List (MethodName × Nat) := [(⟨"StockYardModel", "moneyFor", "(II)I"⟩, 69), (⟨"StockYardModel", "noScale", "(II)I"⟩, 69), (⟨"StockYardModel", "forget", "()V"⟩, 69)]
theorem lw_r5 : ∀ q ∈ lw_privs_5, lw_okq q := List.forall_mem_cons.mpr ⟨lw_p64, List.forall_mem_cons.mpr ⟨lw_p65, List.forall_mem_cons.mpr ⟨lw_p66, fun _ h => absurd h List.not_mem_nil⟩⟩⟩
def lw_privs : List (MethodName × Nat) := lw_privs_1 ++ (lw_privs_2 ++ (lw_privs_3 ++ (lw_privs_4 ++ (lw_privs_5))))
def lw_tbl : List Cond := k2_sels lw_privs ++ tables_1
theorem lw_privs_ok : ∀ q ∈ lw_privs, lw_okq q := by
  show ∀ q ∈ lw_privs_1 ++ (lw_privs_2 ++ (lw_privs_3 ++ (lw_privs_4 ++ (lw_privs_5)))), lw_okq q
  exact List.forall_mem_append.mpr ⟨lw_r1, List.forall_mem_append.mpr ⟨lw_r2, List.forall_mem_append.mpr ⟨lw_r3, List.forall_mem_append.mpr ⟨lw_r4, lw_r5⟩⟩⟩⟩
def RX0 : String := "StockYard$Alley"
def TX0 : u_T := fun k => match k with
  | 0 => ("StockYard$Alley", "a", "I", true)
  | 1 => ("StockYard$Alley", "b", "I", true)
  | 2 => ("StockYard$Alley", "minutes", "I", true)
  | 3 => ("StockYard$Alley", "taken", "[I", true)
  | _ => ("StockYard$Alley", "size", "I", false)
def tyX0 : Nat → FieldType := fun k => match k with
  | 0 => .int
  | 1 => .int
  | 2 => .int
  | 3 => .array .int
  | _ => .int
theorem nmX0 : ∀ a, a < 5 → ∀ b, b < 5 → a ≠ b → (TX0 a).2.1 ≠ (TX0 b).2.1 := by decide +kernel
theorem tyX0_ok : ∀ k, k < 5 → parseFieldDescriptor (TX0 k).2.2.1 = some (tyX0 k) := by decide +kernel
abbrev cX0_init : ByteArray := prog_2_method_1_code
def yX0_init : MethodName := ⟨RX0, "<init>", "(III)V"⟩
abbrev cX0_touches : ByteArray := prog_2_method_2_code
def yX0_touches : MethodName := ⟨RX0, "touches", "(I)Z"⟩
abbrev cX0_otherEnd : ByteArray := prog_2_method_3_code
def yX0_otherEnd : MethodName := ⟨RX0, "otherEnd", "(I)I"⟩
abbrev cX0_freeFrom : ByteArray := prog_2_method_4_code
def yX0_freeFrom : MethodName := ⟨RX0, "freeFrom", "(I)I"⟩
abbrev cX0_meets : ByteArray := prog_2_method_5_code
def yX0_meets : MethodName := ⟨RX0, "meets", "(I)I"⟩
abbrev cX0_take : ByteArray := prog_2_method_6_code
def yX0_take : MethodName := ⟨RX0, "take", "(I)V"⟩
abbrev cX0_giveBack : ByteArray := prog_2_method_7_code
def yX0_giveBack : MethodName := ⟨RX0, "giveBack", "()V"⟩
abbrev cX0_forgetBefore : ByteArray := prog_2_method_8_code
def yX0_forgetBefore : MethodName := ⟨RX0, "forgetBefore", "(I)V"⟩
def RX1 : String := "StockYard$Lot"
def TX1 : u_T := fun k => match k with
  | 0 => ("StockYard$Lot", "pounds", "I", true)
  | 1 => ("StockYard$Lot", "mark", "I", true)
  | 2 => ("StockYard$Lot", "sale", "LStockYard$Sale;", true)
  | 3 => ("StockYard$Lot", "kind", "I", false)
  | 4 => ("StockYard$Lot", "owner", "I", false)
  | 5 => ("StockYard$Lot", "heads", "I", false)
  | 6 => ("StockYard$Lot", "watered", "I", false)
  | 7 => ("StockYard$Lot", "place", "I", false)
  | 8 => ("StockYard$Lot", "goal", "I", false)
  | 9 => ("StockYard$Lot", "due", "I", false)
  | _ => ("StockYard$Lot", "judged", "Z", false)
def tyX1 : Nat → FieldType := fun k => match k with
  | 0 => .int
  | 1 => .int
  | 2 => .object "StockYard$Sale"
  | 3 => .int
  | 4 => .int
  | 5 => .int
  | 6 => .int
  | 7 => .int
  | 8 => .int
  | 9 => .int
  | _ => .boolean
theorem nmX1 : ∀ a, a < 11 → ∀ b, b < 11 → a ≠ b → (TX1 a).2.1 ≠ (TX1 b).2.1 := by decide +kernel
theorem tyX1_ok : ∀ k, k < 11 → parseFieldDescriptor (TX1 k).2.2.1 = some (tyX1 k) := by decide +kernel
abbrev cX1_init : ByteArray := prog_3_method_1_code
def yX1_init : MethodName := ⟨RX1, "<init>", "(IIIIIII)V"⟩
abbrev cX1_thirst : ByteArray := prog_3_method_2_code
def yX1_thirst : MethodName := ⟨RX1, "thirst", "(I)I"⟩
abbrev cX1_isOnWay : ByteArray := prog_3_method_3_code
def yX1_isOnWay : MethodName := ⟨RX1, "isOnWay", "()Z"⟩
abbrev cX1_leave : ByteArray := prog_3_method_4_code
def yX1_leave : MethodName := ⟨RX1, "leave", "(II)V"⟩
abbrev cX1_arrive : ByteArray := prog_3_method_5_code
def yX1_arrive : MethodName := ⟨RX1, "arrive", "(I)Z"⟩
def RX2 : String := "StockYard$MarkBook"
def TX2 : u_T := fun k => match k with
  | 0 => ("StockYard$MarkBook", "marks", "[I", true)
  | 1 => ("StockYard$MarkBook", "owners", "[I", true)
  | _ => ("StockYard$MarkBook", "size", "I", false)
def tyX2 : Nat → FieldType := fun k => match k with
  | 0 => .array .int
  | 1 => .array .int
  | _ => .int
theorem nmX2 : ∀ a, a < 3 → ∀ b, b < 3 → a ≠ b → (TX2 a).2.1 ≠ (TX2 b).2.1 := by decide +kernel
theorem tyX2_ok : ∀ k, k < 3 → parseFieldDescriptor (TX2 k).2.2.1 = some (tyX2 k) := by decide +kernel
abbrev cX2_init : ByteArray := prog_4_method_1_code
def yX2_init : MethodName := ⟨RX2, "<init>", "()V"⟩
abbrev cX2_add : ByteArray := prog_4_method_2_code
def yX2_add : MethodName := ⟨RX2, "add", "(II)V"⟩
abbrev cX2_ownerOf : ByteArray := prog_4_method_3_code
def yX2_ownerOf : MethodName := ⟨RX2, "ownerOf", "(I)I"⟩
abbrev cX2_countNear : ByteArray := prog_4_method_4_code
def yX2_countNear : MethodName := ⟨RX2, "countNear", "(I)I"⟩
abbrev cX2_doubt : ByteArray := prog_4_method_5_code
def yX2_doubt : MethodName := ⟨RX2, "doubt", "(II)Z"⟩
abbrev cX2_areNear : ByteArray := prog_4_method_6_code
def yX2_areNear : MethodName := ⟨RX2, "areNear", "(II)Z"⟩
def RX3 : String := "StockYard$Planner"
def TX3 : u_T := fun k => match k with
  | 0 => ("StockYard$Planner", "yard", "LStockYard$Yard;", true)
  | 1 => ("StockYard$Planner", "lots", "[I", true)
  | 2 => ("StockYard$Planner", "pens", "[I", true)
  | 3 => ("StockYard$Planner", "ways", "[LStockYard$Way;", true)
  | 4 => ("StockYard$Planner", "toldLots", "[I", true)
  | 5 => ("StockYard$Planner", "toldPens", "[I", true)
  | 6 => ("StockYard$Planner", "bestLots", "[I", true)
  | 7 => ("StockYard$Planner", "bestPens", "[I", true)
  | 8 => ("StockYard$Planner", "lotCount", "I", false)
  | 9 => ("StockYard$Planner", "penCount", "I", false)
  | 10 => ("StockYard$Planner", "usedLots", "I", false)
  | 11 => ("StockYard$Planner", "usedPens", "I", false)
  | 12 => ("StockYard$Planner", "now", "I", false)
  | 13 => ("StockYard$Planner", "soonest", "I", false)
  | _ => ("StockYard$Planner", "plannedSize", "I", false)
def tyX3 : Nat → FieldType := fun k => match k with
  | 0 => .object "StockYard$Yard"
  | 1 => .array .int
  | 2 => .array .int
  | 3 => .array (.object "StockYard$Way")
  | 4 => .array .int
  | 5 => .array .int
  | 6 => .array .int
  | 7 => .array .int
  | 8 => .int
  | 9 => .int
  | 10 => .int
  | 11 => .int
  | 12 => .int
  | 13 => .int
  | _ => .int
theorem nmX3 : ∀ a, a < 15 → ∀ b, b < 15 → a ≠ b → (TX3 a).2.1 ≠ (TX3 b).2.1 := by decide +kernel
theorem tyX3_ok : ∀ k, k < 15 → parseFieldDescriptor (TX3 k).2.2.1 = some (tyX3 k) := by decide +kernel
abbrev cX3_init : ByteArray := prog_5_method_1_code
def yX3_init : MethodName := ⟨RX3, "<init>", "(LStockYard$Yard;)V"⟩
abbrev cX3_clear : ByteArray := prog_5_method_2_code
def yX3_clear : MethodName := ⟨RX3, "clear", "()V"⟩
abbrev cX3_addPen : ByteArray := prog_5_method_3_code
def yX3_addPen : MethodName := ⟨RX3, "addPen", "(I)V"⟩
abbrev cX3_addLot : ByteArray := prog_5_method_4_code
def yX3_addLot : MethodName := ⟨RX3, "addLot", "(II)V"⟩
abbrev cX3_search : ByteArray := prog_5_method_5_code
def yX3_search : MethodName := ⟨RX3, "search", "(I)Z"⟩
abbrev cX3_plannedLot : ByteArray := prog_5_method_6_code
def yX3_plannedLot : MethodName := ⟨RX3, "plannedLot", "(I)I"⟩
abbrev cX3_plannedPen : ByteArray := prog_5_method_7_code
def yX3_plannedPen : MethodName := ⟨RX3, "plannedPen", "(I)I"⟩
abbrev cX3_tell : ByteArray := prog_5_method_8_code
def yX3_tell : MethodName := ⟨RX3, "tell", "(II)V"⟩
abbrev cX3_tellOne : ByteArray := prog_5_method_9_code
def yX3_tellOne : MethodName := ⟨RX3, "tellOne", "(IIII)V"⟩
abbrev cX3_keep : ByteArray := prog_5_method_10_code
def yX3_keep : MethodName := ⟨RX3, "keep", "(I)V"⟩
def RX4 : String := "StockYard$Row"
def TX4 : u_T := fun k => match k with
  | 0 => ("StockYard$Row", "numbers", "[I", true)
  | 1 => ("StockYard$Row", "size", "I", false)
  | _ => ("StockYard$Row", "there", "Z", false)
def tyX4 : Nat → FieldType := fun k => match k with
  | 0 => .array .int
  | 1 => .int
  | _ => .boolean
theorem nmX4 : ∀ a, a < 3 → ∀ b, b < 3 → a ≠ b → (TX4 a).2.1 ≠ (TX4 b).2.1 := by decide +kernel
theorem tyX4_ok : ∀ k, k < 3 → parseFieldDescriptor (TX4 k).2.2.1 = some (tyX4 k) := by decide +kernel
abbrev cX4_init : ByteArray := prog_6_method_1_code
def yX4_init : MethodName := ⟨RX4, "<init>", "()V"⟩
abbrev cX4_begin : ByteArray := prog_6_method_2_code
def yX4_begin : MethodName := ⟨RX4, "begin", "(I)V"⟩
abbrev cX4_addAt : ByteArray := prog_6_method_3_code
def yX4_addAt : MethodName := ⟨RX4, "addAt", "(II)V"⟩
abbrev cX4_at : ByteArray := prog_6_method_4_code
def yX4_at : MethodName := ⟨RX4, "at", "(I)I"⟩
abbrev cX4_spans : ByteArray := prog_6_method_5_code
def yX4_spans : MethodName := ⟨RX4, "spans", "(II)Z"⟩
abbrev cX4_move : ByteArray := prog_6_method_6_code
def yX4_move : MethodName := ⟨RX4, "move", "(III)V"⟩
def RX5 : String := "StockYard$Rule"
def TX5 : u_T := fun k => match k with
  | 0 => ("StockYard$Rule", "from", "I", true)
  | 1 => ("StockYard$Rule", "to", "I", true)
  | 2 => ("StockYard$Rule", "nots", "[Z", true)
  | 3 => ("StockYard$Rule", "fields", "[I", true)
  | 4 => ("StockYard$Rule", "signs", "[I", true)
  | 5 => ("StockYard$Rule", "numbers", "[I", true)
  | 6 => ("StockYard$Rule", "tests", "I", false)
  | 7 => ("StockYard$Rule", "key", "I", false)
  | _ => ("StockYard$Rule", "number", "I", false)
def tyX5 : Nat → FieldType := fun k => match k with
  | 0 => .int
  | 1 => .int
  | 2 => .array .boolean
  | 3 => .array .int
  | 4 => .array .int
  | 5 => .array .int
  | 6 => .int
  | 7 => .int
  | _ => .int
theorem nmX5 : ∀ a, a < 9 → ∀ b, b < 9 → a ≠ b → (TX5 a).2.1 ≠ (TX5 b).2.1 := by decide +kernel
theorem tyX5_ok : ∀ k, k < 9 → parseFieldDescriptor (TX5 k).2.2.1 = some (tyX5 k) := by decide +kernel
abbrev cX5_init : ByteArray := prog_7_method_1_code
def yX5_init : MethodName := ⟨RX5, "<init>", "(II)V"⟩
abbrev cX5_addTest : ByteArray := prog_7_method_2_code
def yX5_addTest : MethodName := ⟨RX5, "addTest", "(ZIII)V"⟩
abbrev cX5_appliesTo : ByteArray := prog_7_method_3_code
def yX5_appliesTo : MethodName := ⟨RX5, "appliesTo", "(LStockYard$Lot;II)Z"⟩
abbrev cX5_isMet : ByteArray := prog_7_method_4_code
def yX5_isMet : MethodName := ⟨RX5, "isMet", "(ILStockYard$Lot;II)Z"⟩
abbrev cX5_valueOf : ByteArray := prog_7_method_5_code
def yX5_valueOf : MethodName := ⟨RX5, "valueOf", "(ILStockYard$Lot;II)I"⟩
def RX6 : String := "StockYard$RuleBook"
def TX6 : u_T := fun k => match k with
  | _ => ("StockYard$RuleBook", "rules", "Ljava/util/ArrayList;", true)
def tyX6 : Nat → FieldType := fun k => match k with
  | _ => .object "java/util/ArrayList"
theorem nmX6 : ∀ a, a < 1 → ∀ b, b < 1 → a ≠ b → (TX6 a).2.1 ≠ (TX6 b).2.1 := by decide +kernel
theorem tyX6_ok : ∀ k, k < 1 → parseFieldDescriptor (TX6 k).2.2.1 = some (tyX6 k) := by decide +kernel
abbrev cX6_init : ByteArray := prog_8_method_1_code
def yX6_init : MethodName := ⟨RX6, "<init>", "()V"⟩
abbrev cX6_saying : ByteArray := prog_8_method_2_code
def yX6_saying : MethodName := ⟨RX6, "saying", "(ILStockYard$Lot;II)I"⟩
abbrev cX6_bars : ByteArray := prog_8_method_3_code
def yX6_bars : MethodName := ⟨RX6, "bars", "(ILStockYard$Lot;I)Z"⟩
abbrev cX6_isDry : ByteArray := prog_8_method_4_code
def yX6_isDry : MethodName := ⟨RX6, "isDry", "(LStockYard$Lot;I)Z"⟩
def RX7 : String := "StockYard$Sale"
def TX7 : u_T := fun k => match k with
  | 0 => ("StockYard$Sale", "prices", "[I", true)
  | 1 => ("StockYard$Sale", "turns", "[I", true)
  | 2 => ("StockYard$Sale", "turn", "I", false)
  | 3 => ("StockYard$Sale", "seen", "I", false)
  | 4 => ("StockYard$Sale", "price", "I", false)
  | 5 => ("StockYard$Sale", "weight", "I", false)
  | 6 => ("StockYard$Sale", "fees", "I", false)
  | 7 => ("StockYard$Sale", "buyer", "I", false)
  | 8 => ("StockYard$Sale", "money", "I", false)
  | 9 => ("StockYard$Sale", "paid", "Z", false)
  | _ => ("StockYard$Sale", "scale", "I", false)
def tyX7 : Nat → FieldType := fun k => match k with
  | 0 => .array .int
  | 1 => .array .int
  | 2 => .int
  | 3 => .int
  | 4 => .int
  | 5 => .int
  | 6 => .int
  | 7 => .int
  | 8 => .int
  | 9 => .boolean
  | _ => .int
theorem nmX7 : ∀ a, a < 11 → ∀ b, b < 11 → a ≠ b → (TX7 a).2.1 ≠ (TX7 b).2.1 := by decide +kernel
theorem tyX7_ok : ∀ k, k < 11 → parseFieldDescriptor (TX7 k).2.2.1 = some (tyX7 k) := by decide +kernel
abbrev cX7_init : ByteArray := prog_9_method_1_code
def yX7_init : MethodName := ⟨RX7, "<init>", "()V"⟩
abbrev cX7_isSold : ByteArray := prog_9_method_2_code
def yX7_isSold : MethodName := ⟨RX7, "isSold", "()Z"⟩
abbrev cX7_wasSeenBy : ByteArray := prog_9_method_3_code
def yX7_wasSeenBy : MethodName := ⟨RX7, "wasSeenBy", "(I)Z"⟩
abbrev cX7_show : ByteArray := prog_9_method_4_code
def yX7_show : MethodName := ⟨RX7, "show", "(I)V"⟩
abbrev cX7_offer : ByteArray := prog_9_method_5_code
def yX7_offer : MethodName := ⟨RX7, "offer", "(II)V"⟩
abbrev cX7_offers : ByteArray := prog_9_method_6_code
def yX7_offers : MethodName := ⟨RX7, "offers", "()I"⟩
abbrev cX7_close : ByteArray := prog_9_method_7_code
def yX7_close : MethodName := ⟨RX7, "close", "()V"⟩
abbrev cX7_pay : ByteArray := prog_9_method_8_code
def yX7_pay : MethodName := ⟨RX7, "pay", "(III)V"⟩
abbrev cX7_correct : ByteArray := prog_9_method_9_code
def yX7_correct : MethodName := ⟨RX7, "correct", "(I)V"⟩
abbrev cX7_moneyFor : ByteArray := prog_9_method_10_code
def yX7_moneyFor : MethodName := ⟨RX7, "moneyFor", "(I)I"⟩
def RX8 : String := "StockYard$Tape"
def TX8 : u_T := fun k => match k with
  | 0 => ("StockYard$Tape", "bytes", "[I", true)
  | 1 => ("StockYard$Tape", "size", "I", false)
  | _ => ("StockYard$Tape", "at", "I", false)
def tyX8 : Nat → FieldType := fun k => match k with
  | 0 => .array .int
  | 1 => .int
  | _ => .int
theorem nmX8 : ∀ a, a < 3 → ∀ b, b < 3 → a ≠ b → (TX8 a).2.1 ≠ (TX8 b).2.1 := by decide +kernel
theorem tyX8_ok : ∀ k, k < 3 → parseFieldDescriptor (TX8 k).2.2.1 = some (tyX8 k) := by decide +kernel
abbrev cX8_init : ByteArray := prog_10_method_1_code
def yX8_init : MethodName := ⟨RX8, "<init>", "()V"⟩
abbrev cX8_add : ByteArray := prog_10_method_2_code
def yX8_add : MethodName := ⟨RX8, "add", "(I)V"⟩
abbrev cX8_readRule : ByteArray := prog_10_method_3_code
def yX8_readRule : MethodName := ⟨RX8, "readRule", "(LStockYard$Rule;)Z"⟩
abbrev cX8_readTests : ByteArray := prog_10_method_4_code
def yX8_readTests : MethodName := ⟨RX8, "readTests", "(LStockYard$Rule;)Z"⟩
abbrev cX8_readTest : ByteArray := prog_10_method_5_code
def yX8_readTest : MethodName := ⟨RX8, "readTest", "(LStockYard$Rule;)Z"⟩
abbrev cX8_readSign : ByteArray := prog_10_method_6_code
def yX8_readSign : MethodName := ⟨RX8, "readSign", "(C)Z"⟩
abbrev cX8_readText : ByteArray := prog_10_method_7_code
def yX8_readText : MethodName := ⟨RX8, "readText", "(Ljava/lang/String;)Z"⟩
abbrev cX8_readWord : ByteArray := prog_10_method_8_code
def yX8_readWord : MethodName := ⟨RX8, "readWord", "(Z)I"⟩
abbrev cX8_readNumber : ByteArray := prog_10_method_9_code
def yX8_readNumber : MethodName := ⟨RX8, "readNumber", "()I"⟩
abbrev cX8_keyName : ByteArray := prog_10_method_10_code
def yX8_keyName : MethodName := ⟨RX8, "keyName", "(I)Ljava/lang/String;"⟩
abbrev cX8_fieldName : ByteArray := prog_10_method_11_code
def yX8_fieldName : MethodName := ⟨RX8, "fieldName", "(I)Ljava/lang/String;"⟩
def RX9 : String := "StockYard$Way"
def TX9 : u_T := fun k => match k with
  | 0 => ("StockYard$Way", "alleys", "[I", true)
  | 1 => ("StockYard$Way", "ahead", "[I", true)
  | 2 => ("StockYard$Way", "length", "I", false)
  | _ => ("StockYard$Way", "minutes", "I", false)
def tyX9 : Nat → FieldType := fun k => match k with
  | 0 => .array .int
  | 1 => .array .int
  | 2 => .int
  | _ => .int
theorem nmX9 : ∀ a, a < 4 → ∀ b, b < 4 → a ≠ b → (TX9 a).2.1 ≠ (TX9 b).2.1 := by decide +kernel
theorem tyX9_ok : ∀ k, k < 4 → parseFieldDescriptor (TX9 k).2.2.1 = some (tyX9 k) := by decide +kernel
abbrev cX9_init : ByteArray := prog_11_method_1_code
def yX9_init : MethodName := ⟨RX9, "<init>", "()V"⟩
abbrev cX9_clear : ByteArray := prog_11_method_2_code
def yX9_clear : MethodName := ⟨RX9, "clear", "()V"⟩
abbrev cX9_add : ByteArray := prog_11_method_3_code
def yX9_add : MethodName := ⟨RX9, "add", "(II)V"⟩
abbrev cX9_alleyAt : ByteArray := prog_11_method_4_code
def yX9_alleyAt : MethodName := ⟨RX9, "alleyAt", "(I)I"⟩
abbrev cX9_aheadOf : ByteArray := prog_11_method_5_code
def yX9_aheadOf : MethodName := ⟨RX9, "aheadOf", "(I)I"⟩
def RX10 : String := "StockYard$Yard"
def TX10 : u_T := fun k => match k with
  | 0 => ("StockYard$Yard", "alleys", "Ljava/util/ArrayList;", true)
  | 1 => ("StockYard$Yard", "kinds", "[I", true)
  | 2 => ("StockYard$Yard", "offs", "[I", true)
  | 3 => ("StockYard$Yard", "minutes", "[[I", true)
  | _ => ("StockYard$Yard", "places", "I", false)
def tyX10 : Nat → FieldType := fun k => match k with
  | 0 => .object "java/util/ArrayList"
  | 1 => .array .int
  | 2 => .array .int
  | 3 => .array (.array .int)
  | _ => .int
theorem nmX10 : ∀ a, a < 5 → ∀ b, b < 5 → a ≠ b → (TX10 a).2.1 ≠ (TX10 b).2.1 := by decide +kernel
theorem tyX10_ok : ∀ k, k < 5 → parseFieldDescriptor (TX10 k).2.2.1 = some (tyX10 k) := by decide +kernel
abbrev cX10_init : ByteArray := prog_12_method_1_code
def yX10_init : MethodName := ⟨RX10, "<init>", "()V"⟩
abbrev cX10_hasPlace : ByteArray := prog_12_method_2_code
def yX10_hasPlace : MethodName := ⟨RX10, "hasPlace", "(I)Z"⟩
abbrev cX10_kindOf : ByteArray := prog_12_method_3_code
def yX10_kindOf : MethodName := ⟨RX10, "kindOf", "(I)I"⟩
abbrev cX10_offOf : ByteArray := prog_12_method_4_code
def yX10_offOf : MethodName := ⟨RX10, "offOf", "(I)I"⟩
abbrev cX10_setOff : ByteArray := prog_12_method_5_code
def yX10_setOff : MethodName := ⟨RX10, "setOff", "(II)V"⟩
abbrev cX10_addPlace : ByteArray := prog_12_method_6_code
def yX10_addPlace : MethodName := ⟨RX10, "addPlace", "(I)I"⟩
abbrev cX10_addAlley : ByteArray := prog_12_method_7_code
def yX10_addAlley : MethodName := ⟨RX10, "addAlley", "(III)I"⟩
abbrev cX10_minutesBetween : ByteArray := prog_12_method_8_code
def yX10_minutesBetween : MethodName := ⟨RX10, "minutesBetween", "(II)I"⟩
abbrev cX10_find : ByteArray := prog_12_method_9_code
def yX10_find : MethodName := ⟨RX10, "find", "(IILStockYard$Way;)Z"⟩
abbrev cX10_leastAlleyToward : ByteArray := prog_12_method_10_code
def yX10_leastAlleyToward : MethodName := ⟨RX10, "leastAlleyToward", "(II)I"⟩
abbrev cX10_firstFree : ByteArray := prog_12_method_11_code
def yX10_firstFree : MethodName := ⟨RX10, "firstFree", "(LStockYard$Way;I)I"⟩
abbrev cX10_putOff : ByteArray := prog_12_method_12_code
def yX10_putOff : MethodName := ⟨RX10, "putOff", "(LStockYard$Way;I)I"⟩
abbrev cX10_take : ByteArray := prog_12_method_13_code
def yX10_take : MethodName := ⟨RX10, "take", "(LStockYard$Way;I)V"⟩
abbrev cX10_giveBack : ByteArray := prog_12_method_14_code
def yX10_giveBack : MethodName := ⟨RX10, "giveBack", "(LStockYard$Way;)V"⟩
abbrev cX10_forgetBefore : ByteArray := prog_12_method_15_code
def yX10_forgetBefore : MethodName := ⟨RX10, "forgetBefore", "(I)V"⟩
def RX11 : String := "StockYard"
def TX11 : u_T := fun k => match k with
  | 0 => ("StockYard", "yard", "LStockYard$Yard;", true)
  | 1 => ("StockYard", "lots", "Ljava/util/ArrayList;", true)
  | 2 => ("StockYard", "tape", "LStockYard$Tape;", true)
  | 3 => ("StockYard", "book", "LStockYard$RuleBook;", true)
  | 4 => ("StockYard", "marks", "LStockYard$MarkBook;", true)
  | 5 => ("StockYard", "planner", "LStockYard$Planner;", true)
  | 6 => ("StockYard", "headRow", "LStockYard$Row;", true)
  | 7 => ("StockYard", "route", "LStockYard$Way;", true)
  | 8 => ("StockYard", "refused", "[I", true)
  | _ => ("StockYard", "now", "I", false)
def tyX11 : Nat → FieldType := fun k => match k with
  | 0 => .object "StockYard$Yard"
  | 1 => .object "java/util/ArrayList"
  | 2 => .object "StockYard$Tape"
  | 3 => .object "StockYard$RuleBook"
  | 4 => .object "StockYard$MarkBook"
  | 5 => .object "StockYard$Planner"
  | 6 => .object "StockYard$Row"
  | 7 => .object "StockYard$Way"
  | 8 => .array .int
  | _ => .int
theorem nmX11 : ∀ a, a < 10 → ∀ b, b < 10 → a ≠ b → (TX11 a).2.1 ≠ (TX11 b).2.1 := by decide +kernel
theorem tyX11_ok : ∀ k, k < 10 → parseFieldDescriptor (TX11 k).2.2.1 = some (tyX11 k) := by decide +kernel
abbrev cX11_init : ByteArray := prog_1_method_1_code
def yX11_init : MethodName := ⟨RX11, "<init>", "()V"⟩
abbrev cX11_place : ByteArray := prog_1_method_2_code
def yX11_place : MethodName := ⟨RX11, "place", "(I)I"⟩
abbrev cX11_alley : ByteArray := prog_1_method_3_code
def yX11_alley : MethodName := ⟨RX11, "alley", "(III)I"⟩
abbrev cX11_way : ByteArray := prog_1_method_4_code
def yX11_way : MethodName := ⟨RX11, "way", "(II)I"⟩
abbrev cX11_by : ByteArray := prog_1_method_5_code
def yX11_by : MethodName := ⟨RX11, "by", "(III)I"⟩
abbrev cX11_lot : ByteArray := prog_1_method_6_code
def yX11_lot : MethodName := ⟨RX11, "lot", "(IIIII)I"⟩
abbrev cX11_sort : ByteArray := prog_1_method_7_code
def yX11_sort : MethodName := ⟨RX11, "sort", "(IIII)I"⟩
abbrev cX11_look : ByteArray := prog_1_method_8_code
def yX11_look : MethodName := ⟨RX11, "look", "(II)I"⟩
abbrev cX11_drive : ByteArray := prog_1_method_9_code
def yX11_drive : MethodName := ⟨RX11, "drive", "(II)I"⟩
abbrev cX11_water : ByteArray := prog_1_method_10_code
def yX11_water : MethodName := ⟨RX11, "water", "(I)I"⟩
abbrev cX11_hold : ByteArray := prog_1_method_11_code
def yX11_hold : MethodName := ⟨RX11, "hold", "(II)I"⟩
abbrev cX11_plan : ByteArray := prog_1_method_12_code
def yX11_plan : MethodName := ⟨RX11, "plan", "(II)I"⟩
abbrev cX11_planned : ByteArray := prog_1_method_13_code
def yX11_planned : MethodName := ⟨RX11, "planned", "(II)I"⟩
abbrev cX11_feed : ByteArray := prog_1_method_14_code
def yX11_feed : MethodName := ⟨RX11, "feed", "(II)I"⟩
abbrev cX11_wipe : ByteArray := prog_1_method_15_code
def yX11_wipe : MethodName := ⟨RX11, "wipe", "()I"⟩
abbrev cX11_rule : ByteArray := prog_1_method_16_code
def yX11_rule : MethodName := ⟨RX11, "rule", "(II)I"⟩
abbrev cX11_holds : ByteArray := prog_1_method_17_code
def yX11_holds : MethodName := ⟨RX11, "holds", "(III)I"⟩
abbrev cX11_said : ByteArray := prog_1_method_18_code
def yX11_said : MethodName := ⟨RX11, "said", "(II)I"⟩
abbrev cX11_see : ByteArray := prog_1_method_19_code
def yX11_see : MethodName := ⟨RX11, "see", "(II)I"⟩
abbrev cX11_bid : ByteArray := prog_1_method_20_code
def yX11_bid : MethodName := ⟨RX11, "bid", "(III)I"⟩
abbrev cX11_sell : ByteArray := prog_1_method_21_code
def yX11_sell : MethodName := ⟨RX11, "sell", "(I)I"⟩
abbrev cX11_weigh : ByteArray := prog_1_method_22_code
def yX11_weigh : MethodName := ⟨RX11, "weigh", "(I)I"⟩
abbrev cX11_off : ByteArray := prog_1_method_23_code
def yX11_off : MethodName := ⟨RX11, "off", "(II)I"⟩
abbrev cX11_test : ByteArray := prog_1_method_24_code
def yX11_test : MethodName := ⟨RX11, "test", "(I)I"⟩
abbrev cX11_account : ByteArray := prog_1_method_25_code
def yX11_account : MethodName := ⟨RX11, "account", "(I)J"⟩
abbrev cX11_write : ByteArray := prog_1_method_26_code
def yX11_write : MethodName := ⟨RX11, "write", "(II)I"⟩
abbrev cX11_whose : ByteArray := prog_1_method_27_code
def yX11_whose : MethodName := ⟨RX11, "whose", "(I)I"⟩
abbrev cX11_near : ByteArray := prog_1_method_28_code
def yX11_near : MethodName := ⟨RX11, "near", "(I)I"⟩
abbrev cX11_judge : ByteArray := prog_1_method_29_code
def yX11_judge : MethodName := ⟨RX11, "judge", "(II)I"⟩
abbrev cX11_run : ByteArray := prog_1_method_30_code
def yX11_run : MethodName := ⟨RX11, "run", "(I)I"⟩
abbrev cX11_count : ByteArray := prog_1_method_31_code
def yX11_count : MethodName := ⟨RX11, "count", "(I)I"⟩
abbrev cX11_lay : ByteArray := prog_1_method_32_code
def yX11_lay : MethodName := ⟨RX11, "lay", "()I"⟩
abbrev cX11_tear : ByteArray := prog_1_method_33_code
def yX11_tear : MethodName := ⟨RX11, "tear", "()I"⟩
abbrev cX11_row : ByteArray := prog_1_method_34_code
def yX11_row : MethodName := ⟨RX11, "row", "(I)I"⟩
abbrev cX11_copy : ByteArray := prog_1_method_35_code
def yX11_copy : MethodName := ⟨RX11, "copy", "(III)I"⟩
abbrev cX11_status : ByteArray := prog_1_method_36_code
def yX11_status : MethodName := ⟨RX11, "status", "(I)I"⟩
abbrev cX11_refuse : ByteArray := prog_1_method_37_code
def yX11_refuse : MethodName := ⟨RX11, "refuse", "(I)I"⟩
abbrev cX11_within : ByteArray := prog_1_method_38_code
def yX11_within : MethodName := ⟨RX11, "within", "(III)Z"⟩
abbrev cX11_inSet : ByteArray := prog_1_method_39_code
def yX11_inSet : MethodName := ⟨RX11, "inSet", "(II)Z"⟩
abbrev cX11_isOwner : ByteArray := prog_1_method_40_code
def yX11_isOwner : MethodName := ⟨RX11, "isOwner", "(I)Z"⟩
abbrev cX11_isBuyer : ByteArray := prog_1_method_41_code
def yX11_isBuyer : MethodName := ⟨RX11, "isBuyer", "(I)Z"⟩
abbrev cX11_isMark : ByteArray := prog_1_method_42_code
def yX11_isMark : MethodName := ⟨RX11, "isMark", "(I)Z"⟩
abbrev cX11_tellsOwner : ByteArray := prog_1_method_43_code
def yX11_tellsOwner : MethodName := ⟨RX11, "tellsOwner", "(I)Z"⟩
abbrev cX11_tellsHeads : ByteArray := prog_1_method_44_code
def yX11_tellsHeads : MethodName := ⟨RX11, "tellsHeads", "(I)Z"⟩
abbrev cX11_lotAt : ByteArray := prog_1_method_45_code
def yX11_lotAt : MethodName := ⟨RX11, "lotAt", "(I)LStockYard$Lot;"⟩
abbrev cX11_admit : ByteArray := prog_1_method_46_code
def yX11_admit : MethodName := ⟨RX11, lw_n46, "(LStockYard$Lot;)I"⟩
abbrev cX11_isIn : ByteArray := prog_1_method_47_code
def yX11_isIn : MethodName := ⟨RX11, "isIn", "(LStockYard$Lot;I)Z"⟩
abbrev cX11_hasLot : ByteArray := prog_1_method_48_code
def yX11_hasLot : MethodName := ⟨RX11, "hasLot", "(I)Z"⟩
abbrev cX11_mayBeDriven : ByteArray := prog_1_method_49_code
def yX11_mayBeDriven : MethodName := ⟨RX11, "mayBeDriven", "(LStockYard$Lot;)Z"⟩
abbrev cX11_isInDoubt : ByteArray := prog_1_method_50_code
def yX11_isInDoubt : MethodName := ⟨RX11, "isInDoubt", "(LStockYard$Lot;)Z"⟩
abbrev cX11_weightOf : ByteArray := prog_1_method_51_code
def yX11_weightOf : MethodName := ⟨RX11, "weightOf", "(LStockYard$Lot;)I"⟩
abbrev cX11_settle : ByteArray := prog_1_method_52_code
def yX11_settle : MethodName := ⟨RX11, "settle", "(II)I"⟩
abbrev cX11_lotsOnWay : ByteArray := prog_1_method_53_code
def yX11_lotsOnWay : MethodName := ⟨RX11, "lotsOnWay", "()I"⟩
abbrev cX11_dryLots : ByteArray := prog_1_method_54_code
def yX11_dryLots : MethodName := ⟨RX11, "dryLots", "()I"⟩
abbrev cX11_soldLots : ByteArray := prog_1_method_55_code
def yX11_soldLots : MethodName := ⟨RX11, "soldLots", "()I"⟩
abbrev cX11_headsAtHooks : ByteArray := prog_1_method_56_code
def yX11_headsAtHooks : MethodName := ⟨RX11, "headsAtHooks", "()I"⟩
abbrev cX11_arePens : ByteArray := prog_1_method_57_code
def yX11_arePens : MethodName := ⟨RX11, "arePens", "(I)Z"⟩
abbrev cX11_mayAllBeDriven : ByteArray := prog_1_method_58_code
def yX11_mayAllBeDriven : MethodName := ⟨RX11, "mayAllBeDriven", "(I)Z"⟩
abbrev cX11_hasLotInOne : ByteArray := prog_1_method_59_code
def yX11_hasLotInOne : MethodName := ⟨RX11, "hasLotInOne", "(I)Z"⟩
abbrev cX11_readyPlanner : ByteArray := prog_1_method_60_code
def yX11_readyPlanner : MethodName := ⟨RX11, "readyPlanner", "(II)V"⟩
def RX12 : String := "StockYardModel"
def TX12 : u_T := fun k => match k with
  | 0 => ("StockYardModel", "thrown", "I", false)
  | 1 => ("StockYardModel", "refusals", "[I", true)
  | 2 => ("StockYardModel", "minute", "I", false)
  | 3 => ("StockYardModel", "places", "I", false)
  | 4 => ("StockYardModel", "placeKind", "[I", true)
  | 5 => ("StockYardModel", "offs", "[I", true)
  | 6 => ("StockYardModel", "alleys", "I", false)
  | 7 => ("StockYardModel", "endA", "[I", true)
  | 8 => ("StockYardModel", "endB", "[I", true)
  | 9 => ("StockYardModel", "takes", "[I", true)
  | 10 => ("StockYardModel", "far", "[I", true)
  | 11 => ("StockYardModel", "way", "[I", true)
  | 12 => ("StockYardModel", "waySize", "I", false)
  | 13 => ("StockYardModel", "taken", "I", false)
  | 14 => ("StockYardModel", "takenAlley", "[I", true)
  | 15 => ("StockYardModel", "takenFrom", "[I", true)
  | 16 => ("StockYardModel", "takenTo", "[I", true)
  | 17 => ("StockYardModel", "lots", "I", false)
  | 18 => ("StockYardModel", "kind", "[I", true)
  | 19 => ("StockYardModel", "owner", "[I", true)
  | 20 => ("StockYardModel", "heads", "[I", true)
  | 21 => ("StockYardModel", "pounds", "[I", true)
  | 22 => ("StockYardModel", "mark", "[I", true)
  | 23 => ("StockYardModel", "at", "[I", true)
  | 24 => ("StockYardModel", "goesTo", "[I", true)
  | 25 => ("StockYardModel", "comes", "[I", true)
  | 26 => ("StockYardModel", "watered", "[I", true)
  | 27 => ("StockYardModel", "judged", "[Z", true)
  | 28 => ("StockYardModel", "soldTo", "[I", true)
  | 29 => ("StockYardModel", "soldFor", "[I", true)
  | 30 => ("StockYardModel", "weighed", "[Z", true)
  | 31 => ("StockYardModel", "money", "[I", true)
  | 32 => ("StockYardModel", "feeThen", "[I", true)
  | 33 => ("StockYardModel", "weightThen", "[I", true)
  | 34 => ("StockYardModel", "byScale", "[I", true)
  | 35 => ("StockYardModel", "seen", "[Z", true)
  | 36 => ("StockYardModel", "bids", "[I", true)
  | 37 => ("StockYardModel", "bidAt", "[I", true)
  | 38 => ("StockYardModel", "bidding", "I", false)
  | 39 => ("StockYardModel", "hasMoney", "[Z", true)
  | 40 => ("StockYardModel", "many", "I", false)
  | 41 => ("StockYardModel", "planLot", "[I", true)
  | 42 => ("StockYardModel", "planPen", "[I", true)
  | 43 => ("StockYardModel", "bestLot", "[I", true)
  | 44 => ("StockYardModel", "bestPen", "[I", true)
  | 45 => ("StockYardModel", "bestSize", "I", false)
  | 46 => ("StockYardModel", "bestLast", "I", false)
  | 47 => ("StockYardModel", "planSize", "I", false)
  | 48 => ("StockYardModel", "rules", "I", false)
  | 49 => ("StockYardModel", "key", "[I", true)
  | 50 => ("StockYardModel", "says", "[I", true)
  | 51 => ("StockYardModel", "from", "[I", true)
  | 52 => ("StockYardModel", "to", "[I", true)
  | 53 => ("StockYardModel", "tests", "[I", true)
  | 54 => ("StockYardModel", "not", "[Z", true)
  | 55 => ("StockYardModel", "field", "[I", true)
  | 56 => ("StockYardModel", "sign", "[I", true)
  | 57 => ("StockYardModel", "against", "[I", true)
  | 58 => ("StockYardModel", "taped", "I", false)
  | 59 => ("StockYardModel", "tape", "[I", true)
  | 60 => ("StockYardModel", "now", "I", false)
  | 61 => ("StockYardModel", "place", "I", false)
  | 62 => ("StockYardModel", "isWrong", "Z", false)
  | 63 => ("StockYardModel", "marks", "I", false)
  | 64 => ("StockYardModel", "written", "[I", true)
  | 65 => ("StockYardModel", "writtenFor", "[I", true)
  | 66 => ("StockYardModel", "isRow", "Z", false)
  | 67 => ("StockYardModel", "numbers", "I", false)
  | _ => ("StockYardModel", "row", "[I", true)
def tyX12 : Nat → FieldType := fun k => match k with
  | 0 => .int
  | 1 => .array .int
  | 2 => .int
  | 3 => .int
  | 4 => .array .int
  | 5 => .array .int
  | 6 => .int
  | 7 => .array .int
  | 8 => .array .int
  | 9 => .array .int
  | 10 => .array .int
  | 11 => .array .int
  | 12 => .int
  | 13 => .int
  | 14 => .array .int
  | 15 => .array .int
  | 16 => .array .int
  | 17 => .int
  | 18 => .array .int
  | 19 => .array .int
  | 20 => .array .int
  | 21 => .array .int
  | 22 => .array .int
  | 23 => .array .int
  | 24 => .array .int
  | 25 => .array .int
  | 26 => .array .int
  | 27 => .array .boolean
  | 28 => .array .int
  | 29 => .array .int
  | 30 => .array .boolean
  | 31 => .array .int
  | 32 => .array .int
  | 33 => .array .int
  | 34 => .array .int
  | 35 => .array .boolean
  | 36 => .array .int
  | 37 => .array .int
  | 38 => .int
  | 39 => .array .boolean
  | 40 => .int
  | 41 => .array .int
  | 42 => .array .int
  | 43 => .array .int
  | 44 => .array .int
  | 45 => .int
  | 46 => .int
  | 47 => .int
  | 48 => .int
  | 49 => .array .int
  | 50 => .array .int
  | 51 => .array .int
  | 52 => .array .int
  | 53 => .array .int
  | 54 => .array .boolean
  | 55 => .array .int
  | 56 => .array .int
  | 57 => .array .int
  | 58 => .int
  | 59 => .array .int
  | 60 => .int
  | 61 => .int
  | 62 => .boolean
  | 63 => .int
  | 64 => .array .int
  | 65 => .array .int
  | 66 => .boolean
  | 67 => .int
  | _ => .array .int
theorem nmX12 : ∀ a, a < 69 → ∀ b, b < 69 → a ≠ b → (TX12 a).2.1 ≠ (TX12 b).2.1 := by decide +kernel
theorem tyX12_ok : ∀ k, k < 69 → parseFieldDescriptor (TX12 k).2.2.1 = some (tyX12 k) := by decide +kernel
abbrev cX12_init : ByteArray := prog_14_method_1_code
def yX12_init : MethodName := ⟨RX12, "<init>", "()V"⟩
abbrev cX12_in : ByteArray := prog_14_method_3_code
def yX12_in : MethodName := ⟨RX12, "in", "(III)Z"⟩
abbrev cX12_refused : ByteArray := prog_14_method_4_code
def yX12_refused : MethodName := ⟨RX12, "refused", "(I)I"⟩
abbrev cX12_status : ByteArray := prog_14_method_5_code
def yX12_status : MethodName := ⟨RX12, "status", "(I)I"⟩
abbrev cX12_isPlace : ByteArray := prog_14_method_6_code
def yX12_isPlace : MethodName := ⟨RX12, "isPlace", "(I)Z"⟩
abbrev cX12_place : ByteArray := prog_14_method_7_code
def yX12_place : MethodName := ⟨RX12, "place", "(I)I"⟩
abbrev cX12_alley : ByteArray := prog_14_method_8_code
def yX12_alley : MethodName := ⟨RX12, "alley", "(III)I"⟩
abbrev cX12_other : ByteArray := prog_14_method_9_code
def yX12_other : MethodName := ⟨RX12, "other", "(II)I"⟩
abbrev cX12_walk : ByteArray := prog_14_method_10_code
def yX12_walk : MethodName := ⟨RX12, "walk", "(II)I"⟩
abbrev cX12_way : ByteArray := prog_14_method_11_code
def yX12_way : MethodName := ⟨RX12, "way", "(II)I"⟩
abbrev cX12_by : ByteArray := prog_14_method_12_code
def yX12_by : MethodName := ⟨RX12, "by", "(III)I"⟩
abbrev cX12_isFree : ByteArray := prog_14_method_13_code
def yX12_isFree : MethodName := ⟨RX12, "isFree", "(III)Z"⟩
abbrev cX12_mayBegin : ByteArray := prog_14_method_14_code
def yX12_mayBegin : MethodName := ⟨RX12, "mayBegin", "(I)Z"⟩
abbrev cX12_goes : ByteArray := prog_14_method_15_code
def yX12_goes : MethodName := ⟨RX12, "goes", "()I"⟩
abbrev cX12_isLot : ByteArray := prog_14_method_16_code
def yX12_isLot : MethodName := ⟨RX12, "isLot", "(I)Z"⟩
abbrev cX12_isMark : ByteArray := prog_14_method_17_code
def yX12_isMark : MethodName := ⟨RX12, "isMark", "(I)Z"⟩
abbrev cX12_isTaken : ByteArray := prog_14_method_18_code
def yX12_isTaken : MethodName := ⟨RX12, "isTaken", "(I)Z"⟩
abbrev cX12_comes : ByteArray := prog_14_method_19_code
def yX12_comes : MethodName := ⟨RX12, "comes", "(IIIIIII)I"⟩
abbrev cX12_lot : ByteArray := prog_14_method_20_code
def yX12_lot : MethodName := ⟨RX12, "lot", "(IIIII)I"⟩
abbrev cX12_isInPen : ByteArray := prog_14_method_21_code
def yX12_isInPen : MethodName := ⟨RX12, "isInPen", "(I)Z"⟩
abbrev cX12_sort : ByteArray := prog_14_method_22_code
def yX12_sort : MethodName := ⟨RX12, "sort", "(IIII)I"⟩
abbrev cX12_look : ByteArray := prog_14_method_23_code
def yX12_look : MethodName := ⟨RX12, "look", "(II)I"⟩
abbrev cX12_drive : ByteArray := prog_14_method_24_code
def yX12_drive : MethodName := ⟨RX12, "drive", "(II)I"⟩
abbrev cX12_water : ByteArray := prog_14_method_25_code
def yX12_water : MethodName := ⟨RX12, "water", "(I)I"⟩
abbrev cX12_hold : ByteArray := prog_14_method_26_code
def yX12_hold : MethodName := ⟨RX12, "hold", "(II)I"⟩
abbrev cX12_tries : ByteArray := prog_14_method_27_code
def yX12_tries : MethodName := ⟨RX12, "tries", "(IIII)V"⟩
abbrev cX12_bits : ByteArray := prog_14_method_28_code
def yX12_bits : MethodName := ⟨RX12, "bits", "(I)I"⟩
abbrev cX12_plan : ByteArray := prog_14_method_29_code
def yX12_plan : MethodName := ⟨RX12, "plan", "(II)I"⟩
abbrev cX12_planned : ByteArray := prog_14_method_30_code
def yX12_planned : MethodName := ⟨RX12, "planned", "(II)I"⟩
abbrev cX12_feed : ByteArray := prog_14_method_31_code
def yX12_feed : MethodName := ⟨RX12, "feed", "(II)I"⟩
abbrev cX12_wipe : ByteArray := prog_14_method_32_code
def yX12_wipe : MethodName := ⟨RX12, "wipe", "()I"⟩
abbrev cX12_here : ByteArray := prog_14_method_33_code
def yX12_here : MethodName := ⟨RX12, "here", "()I"⟩
abbrev cX12_one : ByteArray := prog_14_method_34_code
def yX12_one : MethodName := ⟨RX12, "one", "(I)V"⟩
abbrev cX12_letters : ByteArray := prog_14_method_35_code
def yX12_letters : MethodName := ⟨RX12, "letters", "(J)V"⟩
abbrev cX12_named : ByteArray := prog_14_method_36_code
def yX12_named : MethodName := ⟨RX12, "named", "(IIIIII)J"⟩
abbrev cX12_keyHere : ByteArray := prog_14_method_37_code
def yX12_keyHere : MethodName := ⟨RX12, "keyHere", "()I"⟩
abbrev cX12_fieldHere : ByteArray := prog_14_method_38_code
def yX12_fieldHere : MethodName := ⟨RX12, "fieldHere", "()I"⟩
abbrev cX12_numberHere : ByteArray := prog_14_method_39_code
def yX12_numberHere : MethodName := ⟨RX12, "numberHere", "()I"⟩
abbrev cX12_testHere : ByteArray := prog_14_method_40_code
def yX12_testHere : MethodName := ⟨RX12, "testHere", "()V"⟩
abbrev cX12_readRule : ByteArray := prog_14_method_41_code
def yX12_readRule : MethodName := ⟨RX12, "readRule", "()V"⟩
abbrev cX12_rule : ByteArray := prog_14_method_42_code
def yX12_rule : MethodName := ⟨RX12, "rule", "(II)I"⟩
abbrev cX12_valueOf : ByteArray := prog_14_method_43_code
def yX12_valueOf : MethodName := ⟨RX12, "valueOf", "(III)I"⟩
abbrev cX12_isSo : ByteArray := prog_14_method_44_code
def yX12_isSo : MethodName := ⟨RX12, "isSo", "(III)Z"⟩
abbrev cX12_holdsFor : ByteArray := prog_14_method_45_code
def yX12_holdsFor : MethodName := ⟨RX12, "holdsFor", "(III)Z"⟩
abbrev cX12_holds : ByteArray := prog_14_method_46_code
def yX12_holds : MethodName := ⟨RX12, "holds", "(III)I"⟩
abbrev cX12_saidBy : ByteArray := prog_14_method_47_code
def yX12_saidBy : MethodName := ⟨RX12, "saidBy", "(III)I"⟩
abbrev cX12_said : ByteArray := prog_14_method_48_code
def yX12_said : MethodName := ⟨RX12, "said", "(II)I"⟩
abbrev cX12_isBarred : ByteArray := prog_14_method_49_code
def yX12_isBarred : MethodName := ⟨RX12, "isBarred", "(II)Z"⟩
abbrev cX12_thirst : ByteArray := prog_14_method_50_code
def yX12_thirst : MethodName := ⟨RX12, "thirst", "(I)I"⟩
abbrev cX12_isDry : ByteArray := prog_14_method_51_code
def yX12_isDry : MethodName := ⟨RX12, "isDry", "(I)Z"⟩
abbrev cX12_isBuyer : ByteArray := prog_14_method_52_code
def yX12_isBuyer : MethodName := ⟨RX12, "isBuyer", "(I)Z"⟩
abbrev cX12_see : ByteArray := prog_14_method_53_code
def yX12_see : MethodName := ⟨RX12, "see", "(II)I"⟩
abbrev cX12_bid : ByteArray := prog_14_method_54_code
def yX12_bid : MethodName := ⟨RX12, "bid", "(III)I"⟩
abbrev cX12_sell : ByteArray := prog_14_method_55_code
def yX12_sell : MethodName := ⟨RX12, "sell", "(I)I"⟩
abbrev cX12_moneyFor : ByteArray := prog_14_method_56_code
def yX12_moneyFor : MethodName := ⟨RX12, "moneyFor", "(II)I"⟩
abbrev cX12_weigh : ByteArray := prog_14_method_57_code
def yX12_weigh : MethodName := ⟨RX12, "weigh", "(I)I"⟩
abbrev cX12_noScale : ByteArray := prog_14_method_58_code
def yX12_noScale : MethodName := ⟨RX12, "noScale", "(II)I"⟩
abbrev cX12_off : ByteArray := prog_14_method_59_code
def yX12_off : MethodName := ⟨RX12, "off", "(II)I"⟩
abbrev cX12_test : ByteArray := prog_14_method_60_code
def yX12_test : MethodName := ⟨RX12, "test", "(I)I"⟩
abbrev cX12_account : ByteArray := prog_14_method_61_code
def yX12_account : MethodName := ⟨RX12, "account", "(I)J"⟩
abbrev cX12_isNear : ByteArray := prog_14_method_62_code
def yX12_isNear : MethodName := ⟨RX12, "isNear", "(II)Z"⟩
abbrev cX12_find : ByteArray := prog_14_method_63_code
def yX12_find : MethodName := ⟨RX12, "find", "(I)I"⟩
abbrev cX12_isInDoubt : ByteArray := prog_14_method_64_code
def yX12_isInDoubt : MethodName := ⟨RX12, "isInDoubt", "(I)Z"⟩
abbrev cX12_write : ByteArray := prog_14_method_65_code
def yX12_write : MethodName := ⟨RX12, "write", "(II)I"⟩
abbrev cX12_whose : ByteArray := prog_14_method_66_code
def yX12_whose : MethodName := ⟨RX12, "whose", "(I)I"⟩
abbrev cX12_near : ByteArray := prog_14_method_67_code
def yX12_near : MethodName := ⟨RX12, "near", "(I)I"⟩
abbrev cX12_judge : ByteArray := prog_14_method_68_code
def yX12_judge : MethodName := ⟨RX12, "judge", "(II)I"⟩
abbrev cX12_forget : ByteArray := prog_14_method_69_code
def yX12_forget : MethodName := ⟨RX12, "forget", "()V"⟩
abbrev cX12_run : ByteArray := prog_14_method_70_code
def yX12_run : MethodName := ⟨RX12, "run", "(I)I"⟩
abbrev cX12_count : ByteArray := prog_14_method_71_code
def yX12_count : MethodName := ⟨RX12, "count", "(I)I"⟩
abbrev cX12_lay : ByteArray := prog_14_method_72_code
def yX12_lay : MethodName := ⟨RX12, "lay", "()I"⟩
abbrev cX12_tear : ByteArray := prog_14_method_73_code
def yX12_tear : MethodName := ⟨RX12, "tear", "()I"⟩
abbrev cX12_row : ByteArray := prog_14_method_74_code
def yX12_row : MethodName := ⟨RX12, "row", "(I)I"⟩
abbrev cX12_copy : ByteArray := prog_14_method_75_code
def yX12_copy : MethodName := ⟨RX12, "copy", "(III)I"⟩
def RJx145de : String := "java/io/Serializable"
def TJx145de : u_T := fun k => match k with
  | _ => ("", "", "", false)
def tyJx145de : Nat → FieldType := fun k => match k with
  | _ => .int
theorem nmJx145de : ∀ a, a < 0 → ∀ b, b < 0 → a ≠ b → (TJx145de a).2.1 ≠ (TJx145de b).2.1 := by decide +kernel
theorem tyJx145de_ok : ∀ k, k < 0 → parseFieldDescriptor (TJx145de k).2.2.1 = some (tyJx145de k) := by decide +kernel
def RJx8e188 : String := "java/lang/Cloneable"
def TJx8e188 : u_T := fun k => match k with
  | _ => ("", "", "", false)
def tyJx8e188 : Nat → FieldType := fun k => match k with
  | _ => .int
theorem nmJx8e188 : ∀ a, a < 0 → ∀ b, b < 0 → a ≠ b → (TJx8e188 a).2.1 ≠ (TJx8e188 b).2.1 := by decide +kernel
theorem tyJx8e188_ok : ∀ k, k < 0 → parseFieldDescriptor (TJx8e188 k).2.2.1 = some (tyJx8e188 k) := by decide +kernel
def RJ6 : String := "java/lang/Integer"
def TJ6 : u_T := fun k => match k with
  | _ => ("", "", "", false)
def tyJ6 : Nat → FieldType := fun k => match k with
  | _ => .int
theorem nmJ6 : ∀ a, a < 0 → ∀ b, b < 0 → a ≠ b → (TJ6 a).2.1 ≠ (TJ6 b).2.1 := by decide +kernel
theorem tyJ6_ok : ∀ k, k < 0 → parseFieldDescriptor (TJ6 k).2.2.1 = some (tyJ6 k) := by decide +kernel
abbrev cJ6_bitCount_0f7a4 : ByteArray := prog_17_method_49_code
def yJ6_bitCount_0f7a4 : MethodName := ⟨RJ6, "bitCount", "(I)I"⟩
def RJxab1ab : String := "java/lang/Iterable"
def TJxab1ab : u_T := fun k => match k with
  | _ => ("", "", "", false)
def tyJxab1ab : Nat → FieldType := fun k => match k with
  | _ => .int
theorem nmJxab1ab : ∀ a, a < 0 → ∀ b, b < 0 → a ≠ b → (TJxab1ab a).2.1 ≠ (TJxab1ab b).2.1 := by decide +kernel
theorem tyJxab1ab_ok : ∀ k, k < 0 → parseFieldDescriptor (TJxab1ab k).2.2.1 = some (tyJxab1ab k) := by decide +kernel
def RJ9 : String := "java/lang/Math"
def TJ9 : u_T := fun k => match k with
  | _ => ("", "", "", false)
def tyJ9 : Nat → FieldType := fun k => match k with
  | _ => .int
theorem nmJ9 : ∀ a, a < 0 → ∀ b, b < 0 → a ≠ b → (TJ9 a).2.1 ≠ (TJ9 b).2.1 := by decide +kernel
theorem tyJ9_ok : ∀ k, k < 0 → parseFieldDescriptor (TJ9 k).2.2.1 = some (tyJ9 k) := by decide +kernel
abbrev cJ9_max_7cf53 : ByteArray := prog_19_method_65_code
def yJ9_max_7cf53 : MethodName := ⟨RJ9, "max", "(II)I"⟩
abbrev cJ9_min_7cf53 : ByteArray := prog_19_method_69_code
def yJ9_min_7cf53 : MethodName := ⟨RJ9, "min", "(II)I"⟩
def RJ0 : String := "java/lang/String"
def TJ0 : u_T := fun k => match k with
  | _ => ("", "", "", false)
def tyJ0 : Nat → FieldType := fun k => match k with
  | _ => .int
theorem nmJ0 : ∀ a, a < 0 → ∀ b, b < 0 → a ≠ b → (TJ0 a).2.1 ≠ (TJ0 b).2.1 := by decide +kernel
theorem tyJ0_ok : ∀ k, k < 0 → parseFieldDescriptor (TJ0 k).2.2.1 = some (tyJ0 k) := by decide +kernel
abbrev cJ0_length_8abf5 : ByteArray := prog_20_method_54_code
def yJ0_length_8abf5 : MethodName := ⟨RJ0, "length", "()I"⟩
abbrev cJ0_charAt_5068e : ByteArray := prog_20_method_56_code
def yJ0_charAt_5068e : MethodName := ⟨RJ0, "charAt", "(I)C"⟩
abbrev cJ0_coder_7d493 : ByteArray := prog_20_method_152_code
def yJ0_coder_7d493 : MethodName := ⟨RJ0, "coder", "()B"⟩
abbrev cJ0_isLatin1_aae02 : ByteArray := prog_20_method_154_code
def yJ0_isLatin1_aae02 : MethodName := ⟨RJ0, "isLatin1", "()Z"⟩
abbrev cJ0_checkIndex_df160 : ByteArray := prog_20_method_155_code
def yJ0_checkIndex_df160 : MethodName := ⟨RJ0, "checkIndex", "(II)V"⟩
def RJ1 : String := "java/lang/StringLatin1"
def TJ1 : u_T := fun k => match k with
  | _ => ("", "", "", false)
def tyJ1 : Nat → FieldType := fun k => match k with
  | _ => .int
theorem nmJ1 : ∀ a, a < 0 → ∀ b, b < 0 → a ≠ b → (TJ1 a).2.1 ≠ (TJ1 b).2.1 := by decide +kernel
theorem tyJ1_ok : ∀ k, k < 0 → parseFieldDescriptor (TJ1 k).2.2.1 = some (tyJ1 k) := by decide +kernel
abbrev cJ1_charAt_3b067 : ByteArray := prog_21_method_2_code
def yJ1_charAt_3b067 : MethodName := ⟨RJ1, "charAt", "([BI)C"⟩
def RJ2 : String := "java/lang/StringUTF16"
def TJ2 : u_T := fun k => match k with
  | _ => ("", "", "", false)
def tyJ2 : Nat → FieldType := fun k => match k with
  | _ => .int
theorem nmJ2 : ∀ a, a < 0 → ∀ b, b < 0 → a ≠ b → (TJ2 a).2.1 ≠ (TJ2 b).2.1 := by decide +kernel
theorem tyJ2_ok : ∀ k, k < 0 → parseFieldDescriptor (TJ2 k).2.2.1 = some (tyJ2 k) := by decide +kernel
abbrev cJ2_getChar_3b067 : ByteArray := prog_22_method_5_code
def yJ2_getChar_3b067 : MethodName := ⟨RJ2, "getChar", "([BI)C"⟩
abbrev cJ2_length_9d52b : ByteArray := prog_22_method_6_code
def yJ2_length_9d52b : MethodName := ⟨RJ2, "length", "([B)I"⟩
abbrev cJ2_charAt_3b067 : ByteArray := prog_22_method_83_code
def yJ2_charAt_3b067 : MethodName := ⟨RJ2, "charAt", "([BI)C"⟩
abbrev cJ2_checkIndex_2214a : ByteArray := prog_22_method_91_code
def yJ2_checkIndex_2214a : MethodName := ⟨RJ2, "checkIndex", "(I[B)V"⟩
def RJ10 : String := "java/lang/System"
def TJ10 : u_T := fun k => match k with
  | _ => ("", "", "", false)
def tyJ10 : Nat → FieldType := fun k => match k with
  | _ => .int
theorem nmJ10 : ∀ a, a < 0 → ∀ b, b < 0 → a ≠ b → (TJ10 a).2.1 ≠ (TJ10 b).2.1 := by decide +kernel
theorem tyJ10_ok : ∀ k, k < 0 → parseFieldDescriptor (TJ10 k).2.2.1 = some (tyJ10 k) := by decide +kernel
def RJxa1e45 : String := "java/util/AbstractCollection"
def TJxa1e45 : u_T := fun k => match k with
  | _ => ("", "", "", false)
def tyJxa1e45 : Nat → FieldType := fun k => match k with
  | _ => .int
theorem nmJxa1e45 : ∀ a, a < 0 → ∀ b, b < 0 → a ≠ b → (TJxa1e45 a).2.1 ≠ (TJxa1e45 b).2.1 := by decide +kernel
theorem tyJxa1e45_ok : ∀ k, k < 0 → parseFieldDescriptor (TJxa1e45 k).2.2.1 = some (tyJxa1e45 k) := by decide +kernel
abbrev cJxa1e45_init_da8c8 : ByteArray := prog_24_method_1_code
def yJxa1e45_init_da8c8 : MethodName := ⟨RJxa1e45, "<init>", "()V"⟩
def RJxc12de : String := "java/util/AbstractList"
def TJxc12de : u_T := fun k => match k with
  | _ => ("", "", "", false)
def tyJxc12de : Nat → FieldType := fun k => match k with
  | _ => .int
theorem nmJxc12de : ∀ a, a < 0 → ∀ b, b < 0 → a ≠ b → (TJxc12de a).2.1 ≠ (TJxc12de b).2.1 := by decide +kernel
theorem tyJxc12de_ok : ∀ k, k < 0 → parseFieldDescriptor (TJxc12de k).2.2.1 = some (tyJxc12de k) := by decide +kernel
abbrev cJxc12de_init_da8c8 : ByteArray := prog_25_method_1_code
def yJxc12de_init_da8c8 : MethodName := ⟨RJxc12de, "<init>", "()V"⟩
def RJx4a65c : String := "java/util/ArrayList"
def TJx4a65c : u_T := fun k => match k with
  | 0 => ("java/util/AbstractList", "modCount", "I", false)
  | 1 => ("java/util/ArrayList", "elementData", "[Ljava/lang/Object;", false)
  | _ => ("java/util/ArrayList", "size", "I", false)
def tyJx4a65c : Nat → FieldType := fun k => match k with
  | 0 => .int
  | 1 => .array (.object "java/lang/Object")
  | _ => .int
theorem nmJx4a65c : ∀ a, a < 3 → ∀ b, b < 3 → a ≠ b → (TJx4a65c a).2.1 ≠ (TJx4a65c b).2.1 := by decide +kernel
theorem tyJx4a65c_ok : ∀ k, k < 3 → parseFieldDescriptor (TJx4a65c k).2.2.1 = some (tyJx4a65c k) := by decide +kernel
abbrev cJx4a65c_init_da8c8 : ByteArray := prog_26_method_2_code
def yJx4a65c_init_da8c8 : MethodName := ⟨RJx4a65c, "<init>", "()V"⟩
abbrev cJx4a65c_grow_92f84 : ByteArray := prog_26_method_6_code
def yJx4a65c_grow_92f84 : MethodName := ⟨RJx4a65c, "grow", "(I)[Ljava/lang/Object;"⟩
abbrev cJx4a65c_grow_d5877 : ByteArray := prog_26_method_7_code
def yJx4a65c_grow_d5877 : MethodName := ⟨RJx4a65c, "grow", "()[Ljava/lang/Object;"⟩
abbrev cJx4a65c_size_8abf5 : ByteArray := prog_26_method_8_code
def yJx4a65c_size_8abf5 : MethodName := ⟨RJx4a65c, "size", "()I"⟩
abbrev cJx4a65c_elementData_915e3 : ByteArray := prog_26_method_18_code
def yJx4a65c_elementData_915e3 : MethodName := ⟨RJx4a65c, "elementData", "(I)Ljava/lang/Object;"⟩
abbrev cJx4a65c_get_915e3 : ByteArray := prog_26_method_20_code
def yJx4a65c_get_915e3 : MethodName := ⟨RJx4a65c, "get", "(I)Ljava/lang/Object;"⟩
abbrev cJx4a65c_add_72be8 : ByteArray := prog_26_method_24_code
def yJx4a65c_add_72be8 : MethodName := ⟨RJx4a65c, "add", "(Ljava/lang/Object;[Ljava/lang/Object;I)V"⟩
abbrev cJx4a65c_add_9ea2d : ByteArray := prog_26_method_25_code
def yJx4a65c_add_9ea2d : MethodName := ⟨RJx4a65c, "add", "(Ljava/lang/Object;)Z"⟩
def RJ7 : String := "java/util/Arrays"
def TJ7 : u_T := fun k => match k with
  | _ => ("", "", "", false)
def tyJ7 : Nat → FieldType := fun k => match k with
  | _ => .int
theorem nmJ7 : ∀ a, a < 0 → ∀ b, b < 0 → a ≠ b → (TJ7 a).2.1 ≠ (TJ7 b).2.1 := by decide +kernel
theorem tyJ7_ok : ∀ k, k < 0 → parseFieldDescriptor (TJ7 k).2.2.1 = some (tyJ7 k) := by decide +kernel
abbrev cJ7_copyOf_1904c : ByteArray := prog_27_method_119_code
def yJ7_copyOf_1904c : MethodName := ⟨RJ7, "copyOf", "([Ljava/lang/Object;I)[Ljava/lang/Object;"⟩
abbrev cJ7_copyOf_6403c : ByteArray := prog_27_method_120_code
def yJ7_copyOf_6403c : MethodName := ⟨RJ7, "copyOf", "([Ljava/lang/Object;ILjava/lang/Class;)[Ljava/lang/Object;"⟩
def RJx5ef63 : String := "java/util/Collection"
def TJx5ef63 : u_T := fun k => match k with
  | _ => ("", "", "", false)
def tyJx5ef63 : Nat → FieldType := fun k => match k with
  | _ => .int
theorem nmJx5ef63 : ∀ a, a < 0 → ∀ b, b < 0 → a ≠ b → (TJx5ef63 a).2.1 ≠ (TJx5ef63 b).2.1 := by decide +kernel
theorem tyJx5ef63_ok : ∀ k, k < 0 → parseFieldDescriptor (TJx5ef63 k).2.2.1 = some (tyJx5ef63 k) := by decide +kernel
def RJxbd725 : String := "java/util/List"
def TJxbd725 : u_T := fun k => match k with
  | _ => ("", "", "", false)
def tyJxbd725 : Nat → FieldType := fun k => match k with
  | _ => .int
theorem nmJxbd725 : ∀ a, a < 0 → ∀ b, b < 0 → a ≠ b → (TJxbd725 a).2.1 ≠ (TJxbd725 b).2.1 := by decide +kernel
theorem tyJxbd725_ok : ∀ k, k < 0 → parseFieldDescriptor (TJxbd725 k).2.2.1 = some (tyJxbd725 k) := by decide +kernel
def RJ15 : String := "java/util/Objects"
def TJ15 : u_T := fun k => match k with
  | _ => ("", "", "", false)
def tyJ15 : Nat → FieldType := fun k => match k with
  | _ => .int
theorem nmJ15 : ∀ a, a < 0 → ∀ b, b < 0 → a ≠ b → (TJ15 a).2.1 ≠ (TJ15 b).2.1 := by decide +kernel
theorem tyJ15_ok : ∀ k, k < 0 → parseFieldDescriptor (TJ15 k).2.2.1 = some (tyJ15 k) := by decide +kernel
abbrev cJ15_checkIndex_7cf53 : ByteArray := prog_30_method_17_code
def yJ15_checkIndex_7cf53 : MethodName := ⟨RJ15, "checkIndex", "(II)I"⟩
def RJxf0a74 : String := "java/util/RandomAccess"
def TJxf0a74 : u_T := fun k => match k with
  | _ => ("", "", "", false)
def tyJxf0a74 : Nat → FieldType := fun k => match k with
  | _ => .int
theorem nmJxf0a74 : ∀ a, a < 0 → ∀ b, b < 0 → a ≠ b → (TJxf0a74 a).2.1 ≠ (TJxf0a74 b).2.1 := by decide +kernel
theorem tyJxf0a74_ok : ∀ k, k < 0 → parseFieldDescriptor (TJxf0a74 k).2.2.1 = some (tyJxf0a74 k) := by decide +kernel
def RJxa66e6 : String := "java/util/SequencedCollection"
def TJxa66e6 : u_T := fun k => match k with
  | _ => ("", "", "", false)
def tyJxa66e6 : Nat → FieldType := fun k => match k with
  | _ => .int
theorem nmJxa66e6 : ∀ a, a < 0 → ∀ b, b < 0 → a ≠ b → (TJxa66e6 a).2.1 ≠ (TJxa66e6 b).2.1 := by decide +kernel
theorem tyJxa66e6_ok : ∀ k, k < 0 → parseFieldDescriptor (TJxa66e6 k).2.2.1 = some (tyJxa66e6 k) := by decide +kernel
def RJ8 : String := "jdk/internal/util/ArraysSupport"
def TJ8 : u_T := fun k => match k with
  | _ => ("", "", "", false)
def tyJ8 : Nat → FieldType := fun k => match k with
  | _ => .int
theorem nmJ8 : ∀ a, a < 0 → ∀ b, b < 0 → a ≠ b → (TJ8 a).2.1 ≠ (TJ8 b).2.1 := by decide +kernel
theorem tyJ8_ok : ∀ k, k < 0 → parseFieldDescriptor (TJ8 k).2.2.1 = some (tyJ8 k) := by decide +kernel
abbrev cJ8_newLength_cabcc : ByteArray := prog_33_method_27_code
def yJ8_newLength_cabcc : MethodName := ⟨RJ8, "newLength", "(III)I"⟩
abbrev cJ8_hugeLength_7cf53 : ByteArray := prog_33_method_28_code
def yJ8_hugeLength_7cf53 : MethodName := ⟨RJ8, "hugeLength", "(II)I"⟩
def RJ3 : String := "jdk/internal/util/Preconditions"
def TJ3 : u_T := fun k => match k with
  | _ => ("", "", "", false)
def tyJ3 : Nat → FieldType := fun k => match k with
  | _ => .int
theorem nmJ3 : ∀ a, a < 0 → ∀ b, b < 0 → a ≠ b → (TJ3 a).2.1 ≠ (TJ3 b).2.1 := by decide +kernel
theorem tyJ3_ok : ∀ k, k < 0 → parseFieldDescriptor (TJ3 k).2.2.1 = some (tyJ3 k) := by decide +kernel
abbrev cJ3_checkIndex_8e157 : ByteArray := prog_34_method_11_code
def yJ3_checkIndex_8e157 : MethodName := ⟨RJ3, "checkIndex", "(IILjava/util/function/BiFunction;)I"⟩
def RL : String := "StockYardLaw"
abbrev cL_law : ByteArray := code
def yL_law : MethodName := ⟨RL, "law", "([I)Z"⟩
