/-! words of the tables: makings, Object.<init>, native methods -/
theorem wi_0 : Cond.instantiable (clsN 0).1 (clsN 0).2.2 ∈ goodT := (gQ1 (i := 28) (by decide +kernel) rfl)
theorem wz_0 : Cond.initialized (clsN 0).1 ∈ goodT := (gQ1 (i := 1) (by decide +kernel) rfl)
theorem wi_1 : Cond.instantiable (clsN 1).1 (clsN 1).2.2 ∈ goodT := (gQ1 (i := 36) (by decide +kernel) rfl)
theorem wz_1 : Cond.initialized (clsN 1).1 ∈ goodT := (gQ1 (i := 2) (by decide +kernel) rfl)
theorem wi_2 : Cond.instantiable (clsN 2).1 (clsN 2).2.2 ∈ goodT := (gQ1 (i := 42) (by decide +kernel) rfl)
theorem wz_2 : Cond.initialized (clsN 2).1 ∈ goodT := (gQ1 (i := 5) (by decide +kernel) rfl)
theorem wi_3 : Cond.instantiable (clsN 3).1 (clsN 3).2.2 ∈ goodT := (gQ1 (i := 91) (by decide +kernel) rfl)
theorem wz_3 : Cond.initialized (clsN 3).1 ∈ goodT := (gQ1 (i := 6) (by decide +kernel) rfl)
theorem wi_4 : Cond.instantiable (clsN 4).1 (clsN 4).2.2 ∈ goodT := (gQ1 (i := 109) (by decide +kernel) rfl)
theorem wz_4 : Cond.initialized (clsN 4).1 ∈ goodT := (gQ1 (i := 7) (by decide +kernel) rfl)
theorem wi_5 : Cond.instantiable (clsN 5).1 (clsN 5).2.2 ∈ goodT := (gQ1 (i := 122) (by decide +kernel) rfl)
theorem wz_5 : Cond.initialized (clsN 5).1 ∈ goodT := (gQ1 (i := 8) (by decide +kernel) rfl)
theorem wi_6 : Cond.instantiable (clsN 6).1 (clsN 6).2.2 ∈ goodT := (gQ1 (i := 139) (by decide +kernel) rfl)
theorem wz_6 : Cond.initialized (clsN 6).1 ∈ goodT := (gQ1 (i := 9) (by decide +kernel) rfl)
theorem wi_7 : Cond.instantiable (clsN 7).1 (clsN 7).2.2 ∈ goodT := (gQ1 (i := 218) (by decide +kernel) rfl)
theorem wz_7 : Cond.initialized (clsN 7).1 ∈ goodT := (gQ1 (i := 11) (by decide +kernel) rfl)
theorem wi_8 : Cond.instantiable (clsN 8).1 (clsN 8).2.2 ∈ goodT := (gQ1 (i := 146) (by decide +kernel) rfl)
theorem wz_8 : Cond.initialized (clsN 8).1 ∈ goodT := (gQ1 (i := 10) (by decide +kernel) rfl)
theorem wi_9 : Cond.instantiable (clsN 9).1 (clsN 9).2.2 ∈ goodT := (gQ2 (i := 61) (by decide +kernel) rfl)
theorem wz_9 : Cond.initialized (clsN 9).1 ∈ goodT := (gQ1 (i := 13) (by decide +kernel) rfl)
theorem wi_10 : Cond.instantiable (clsN 10).1 (clsN 10).2.2 ∈ goodT := (gQ2 (i := 227) (by decide +kernel) rfl)
theorem wz_10 : Cond.initialized (clsN 10).1 ∈ goodT := (gQ1 (i := 20) (by decide +kernel) rfl)
theorem wi_11 : Cond.instantiable (clsN 11).1 (clsN 11).2.2 ∈ goodT := (gQ2 (i := 233) (by decide +kernel) rfl)
theorem wz_11 : Cond.initialized (clsN 11).1 ∈ goodT := (gQ1 (i := 21) (by decide +kernel) rfl)
theorem wi_12 : Cond.instantiable (clsN 12).1 (clsN 12).2.2 ∈ goodT := (gQ3 (i := 128) (by decide +kernel) rfl)
theorem wz_12 : Cond.initialized (clsN 12).1 ∈ goodT := (gQ1 (i := 22) (by decide +kernel) rfl)
theorem wi_13 : Cond.instantiable (clsN 13).1 (clsN 13).2.2 ∈ goodT := (gQ5 (i := 165) (by decide +kernel) rfl)
theorem wz_13 : Cond.initialized (clsN 13).1 ∈ goodT := (gQ1 (i := 12) (by decide +kernel) rfl)
theorem wi_in {ci : Nat} (h : ci < 14) : Cond.instantiable (clsN ci).1 (clsN ci).2.2 ∈ goodT := by
  match ci, h with
  | 0, _ => exact wi_0
  | 1, _ => exact wi_1
  | 2, _ => exact wi_2
  | 3, _ => exact wi_3
  | 4, _ => exact wi_4
  | 5, _ => exact wi_5
  | 6, _ => exact wi_6
  | 7, _ => exact wi_7
  | 8, _ => exact wi_8
  | 9, _ => exact wi_9
  | 10, _ => exact wi_10
  | 11, _ => exact wi_11
  | 12, _ => exact wi_12
  | 13, _ => exact wi_13
theorem wz_in {ci : Nat} (h : ci < 14) : Cond.initialized (clsN ci).1 ∈ goodT := by
  match ci, h with
  | 0, _ => exact wz_0
  | 1, _ => exact wz_1
  | 2, _ => exact wz_2
  | 3, _ => exact wz_3
  | 4, _ => exact wz_4
  | 5, _ => exact wz_5
  | 6, _ => exact wz_6
  | 7, _ => exact wz_7
  | 8, _ => exact wz_8
  | 9, _ => exact wz_9
  | 10, _ => exact wz_10
  | 11, _ => exact wz_11
  | 12, _ => exact wz_12
  | 13, _ => exact wz_13
theorem wa_int : Cond.arrayClass .int ∈ goodT := (gQ1 (i := 87) (by decide +kernel) rfl)
theorem wa_boolean : Cond.arrayClass .boolean ∈ goodT := (gQ4 (i := 103) (by decide +kernel) rfl)
theorem wa_byte : Cond.arrayClass .byte ∈ goodT := (gQ4 (i := 200) (by decide +kernel) rfl)
theorem wo_int : Cond.arrayOver (.array .int) ∈ lw_tbl := (hQ1 (i := 68) (by decide +kernel))
theorem wq_inst : Cond.instanceMethod Lib.objectInit ∈ goodT := (gQ1 (i := 33) (by decide +kernel) rfl)
theorem wq_code : Cond.code Lib.objectInit ⟨#[0xb1]⟩ 1 none ∈ goodT := (gQ1 (i := 34) (by decide +kernel) rfl)
theorem wq_S : Cond.methodLink "StockYard" 3 Lib.objectInit ∈ goodT := (gQ1 (i := 32) (by decide +kernel) rfl)
theorem wq_Y : Cond.methodLink "StockYard$Yard" 3 Lib.objectInit ∈ goodT := (gQ1 (i := 40) (by decide +kernel) rfl)
theorem wq_Jc : Cond.methodLink "java/util/AbstractCollection" 1 Lib.objectInit ∈ goodT := (gQ1 (i := 52) (by decide +kernel) rfl)
theorem wq_T : Cond.methodLink "StockYard$Tape" 3 Lib.objectInit ∈ goodT := (gQ1 (i := 95) (by decide +kernel) rfl)
theorem wq_B : Cond.methodLink "StockYard$RuleBook" 3 Lib.objectInit ∈ goodT := (gQ1 (i := 113) (by decide +kernel) rfl)
theorem wq_K : Cond.methodLink "StockYard$MarkBook" 3 Lib.objectInit ∈ goodT := (gQ1 (i := 126) (by decide +kernel) rfl)
theorem wq_P : Cond.methodLink "StockYard$Planner" 3 Lib.objectInit ∈ goodT := (gQ1 (i := 143) (by decide +kernel) rfl)
theorem wq_W : Cond.methodLink "StockYard$Way" 3 Lib.objectInit ∈ goodT := (gQ1 (i := 150) (by decide +kernel) rfl)
theorem wq_R : Cond.methodLink "StockYard$Row" 3 Lib.objectInit ∈ goodT := (gQ1 (i := 222) (by decide +kernel) rfl)
theorem wq_A : Cond.methodLink "StockYard$Alley" 3 Lib.objectInit ∈ goodT := (gQ2 (i := 65) (by decide +kernel) rfl)
theorem wg_Jr : Cond.methodLink "java/util/Arrays" 86 ⟨"java/lang/Object", "getClass", "()Ljava/lang/Class;"⟩ ∈ goodT := (gQ2 (i := 112) (by decide +kernel) rfl)
theorem wn_Jr : Cond.methodLink "java/util/Arrays" 150 arraycopyName ∈ goodT := (gQ2 (i := 139) (by decide +kernel) rfl)
theorem wq_O : Cond.methodLink "StockYard$Lot" 3 Lib.objectInit ∈ goodT := (gQ2 (i := 231) (by decide +kernel) rfl)
theorem wq_E : Cond.methodLink "StockYard$Sale" 3 Lib.objectInit ∈ goodT := (gQ2 (i := 237) (by decide +kernel) rfl)
theorem wq_U : Cond.methodLink "StockYard$Rule" 3 Lib.objectInit ∈ goodT := (gQ4 (i := 70) (by decide +kernel) rfl)
theorem wn_R : Cond.methodLink "StockYard$Row" 33 arraycopyName ∈ goodT := (gQ5 (i := 159) (by decide +kernel) rfl)
theorem wq_M : Cond.methodLink "StockYardModel" 1 Lib.objectInit ∈ goodT := (gQ5 (i := 169) (by decide +kernel) rfl)
theorem wn_nat : Cond.native arraycopyName ∈ goodT := (gQ2 (i := 141) (by decide +kernel) rfl)
theorem wn_sta : Cond.static arraycopyName ∈ goodT := (gQ2 (i := 140) (by decide +kernel) rfl)
theorem wn_ini : Cond.initialized "java/lang/System" ∈ goodT := (gQ1 (i := 17) (by decide +kernel) rfl)
theorem wg_nat : Cond.native ⟨"java/lang/Object", "getClass", "()Ljava/lang/Class;"⟩ ∈ goodT := (gQ2 (i := 129) (by decide +kernel) rfl)
theorem wg_ins : Cond.instanceMethod ⟨"java/lang/Object", "getClass", "()Ljava/lang/Class;"⟩ ∈ goodT := (gQ2 (i := 113) (by decide +kernel) rfl)
theorem wc_Y_25 : Cond.classLink "StockYard$Yard" 25 "[[I" ∈ goodT := (gQ1 (i := 67) (by decide +kernel) rfl)
theorem wc_Jr_110 : Cond.classLink "java/util/Arrays" 110 "[Ljava/lang/Object;" ∈ goodT := (gQ2 (i := 133) (by decide +kernel) rfl)
theorem wc_Jr_2 : Cond.classLink "java/util/Arrays" 2 "java/lang/Object" ∈ goodT := (gQ2 (i := 135) (by decide +kernel) rfl)
theorem wc_L_7 : Cond.classLink "java/util/ArrayList" 7 "java/lang/Object" ∈ goodT := (gQ2 (i := 143) (by decide +kernel) rfl)
theorem wf_L_39 : Cond.fieldLink "java/util/ArrayList" 39 "java/util/ArrayList" "DEFAULTCAPACITY_EMPTY_ELEMENTDATA" "[Ljava/lang/Object;" ∈ goodT := (gQ1 (i := 53) (by decide +kernel) rfl)
theorem wf_Js_38 : Cond.fieldLink "java/lang/String" 38 "java/lang/String" "COMPACT_STRINGS" "Z" ∈ goodT := (gQ4 (i := 135) (by decide +kernel) rfl)
theorem wf_Js_1053 : Cond.fieldLink "java/lang/String" 1053 "jdk/internal/util/Preconditions" "SIOOBE_FORMATTER" "Ljava/util/function/BiFunction;" ∈ goodT := (gQ4 (i := 143) (by decide +kernel) rfl)
theorem wf_Js_15 : Cond.fieldLink "java/lang/String" 15 "java/lang/String" "coder" "B" ∈ goodT := (gQ7 (i := 211) (by decide +kernel) rfl)
theorem wf_Js_9 : Cond.fieldLink "java/lang/String" 9 "java/lang/String" "value" "[B" ∈ goodT := (gQ7 (i := 212) (by decide +kernel) rfl)
theorem wm_max_Jx : Cond.methodLink "jdk/internal/util/ArraysSupport" 194 Lib.Math.max.name ∈ goodT := (gQ2 (i := 102) (by decide +kernel) rfl)
theorem wm_min_Jr : Cond.methodLink "java/util/Arrays" 304 Lib.Math.min.name ∈ goodT := (gQ2 (i := 136) (by decide +kernel) rfl)
theorem wm_max_L : Cond.methodLink "java/util/ArrayList" 79 Lib.Math.max.name ∈ goodT := (gQ2 (i := 142) (by decide +kernel) rfl)
theorem wm_min_Y : Cond.methodLink "StockYard$Yard" 52 Lib.Math.min.name ∈ goodT := (gQ2 (i := 149) (by decide +kernel) rfl)
theorem wm_max_P : Cond.methodLink "StockYard$Planner" 96 Lib.Math.max.name ∈ goodT := (gQ4 (i := 27) (by decide +kernel) rfl)
theorem wm_max_T : Cond.methodLink "StockYard$Tape" 77 Lib.Math.max.name ∈ goodT := (gQ4 (i := 185) (by decide +kernel) rfl)
theorem wm_max_S : Cond.methodLink "StockYard" 386 Lib.Math.max.name ∈ goodT := (gQ5 (i := 20) (by decide +kernel) rfl)
theorem wm_max_E : Cond.methodLink "StockYard$Sale" 59 Lib.Math.max.name ∈ goodT := (gQ5 (i := 54) (by decide +kernel) rfl)
theorem wm_min_R : Cond.methodLink "StockYard$Row" 23 Lib.Math.min.name ∈ goodT := (gQ5 (i := 129) (by decide +kernel) rfl)
theorem wm_smax : Cond.static Lib.Math.max.name ∈ goodT := (gQ2 (i := 103) (by decide +kernel) rfl)
theorem wm_cmax : Cond.code Lib.Math.max.name Lib.Math.max.code 2 (some .int) ∈ goodT := (gQ2 (i := 104) (by decide +kernel) rfl)
theorem wm_smin : Cond.static Lib.Math.min.name ∈ goodT := (gQ2 (i := 137) (by decide +kernel) rfl)
theorem wm_cmin : Cond.code Lib.Math.min.name Lib.Math.min.code 2 (some .int) ∈ goodT := (gQ2 (i := 138) (by decide +kernel) rfl)
theorem wm_ini : Cond.initialized "java/lang/Math" ∈ goodT := (gQ1 (i := 15) (by decide +kernel) rfl)
theorem wk_8 : Cond.castable (clsN 8).1 "java/lang/Object" ∈ nestW := List.mem_filter.mpr ⟨(hQ7 (i := 187) (by decide +kernel)), rfl⟩
theorem wk_0 : Cond.castable (clsN 0).1 "java/lang/Object" ∈ nestW := List.mem_filter.mpr ⟨(hQ7 (i := 188) (by decide +kernel)), rfl⟩
theorem wk_1 : Cond.castable (clsN 1).1 "java/lang/Object" ∈ nestW := List.mem_filter.mpr ⟨(hQ7 (i := 189) (by decide +kernel)), rfl⟩
theorem wk_2 : Cond.castable (clsN 2).1 "java/lang/Object" ∈ nestW := List.mem_filter.mpr ⟨(hQ7 (i := 190) (by decide +kernel)), rfl⟩
theorem wk_3 : Cond.castable (clsN 3).1 "java/lang/Object" ∈ nestW := List.mem_filter.mpr ⟨(hQ7 (i := 191) (by decide +kernel)), rfl⟩
theorem wk_4 : Cond.castable (clsN 4).1 "java/lang/Object" ∈ nestW := List.mem_filter.mpr ⟨(hQ7 (i := 192) (by decide +kernel)), rfl⟩
theorem wk_5 : Cond.castable (clsN 5).1 "java/lang/Object" ∈ nestW := List.mem_filter.mpr ⟨(hQ7 (i := 193) (by decide +kernel)), rfl⟩
theorem wk_6 : Cond.castable (clsN 6).1 "java/lang/Object" ∈ nestW := List.mem_filter.mpr ⟨(hQ7 (i := 194) (by decide +kernel)), rfl⟩
theorem wk_7 : Cond.castable (clsN 7).1 "java/lang/Object" ∈ nestW := List.mem_filter.mpr ⟨(hQ7 (i := 195) (by decide +kernel)), rfl⟩
theorem wk_13 : Cond.castable (clsN 13).1 "java/lang/Object" ∈ nestW := List.mem_filter.mpr ⟨(hQ7 (i := 196) (by decide +kernel)), rfl⟩
theorem wk_9 : Cond.castable (clsN 9).1 "java/lang/Object" ∈ nestW := List.mem_filter.mpr ⟨(hQ7 (i := 197) (by decide +kernel)), rfl⟩
theorem wk_10 : Cond.castable (clsN 10).1 "java/lang/Object" ∈ nestW := List.mem_filter.mpr ⟨(hQ7 (i := 198) (by decide +kernel)), rfl⟩
theorem wk_11 : Cond.castable (clsN 11).1 "java/lang/Object" ∈ nestW := List.mem_filter.mpr ⟨(hQ7 (i := 199) (by decide +kernel)), rfl⟩
theorem wk_12 : Cond.castable (clsN 12).1 "java/lang/Object" ∈ nestW := List.mem_filter.mpr ⟨(hQ7 (i := 200) (by decide +kernel)), rfl⟩
theorem wg_sel : Cond.selects "[Ljava/lang/Object;" ⟨"java/lang/Object", "getClass", "()Ljava/lang/Class;"⟩ ⟨"java/lang/Object", "getClass", "()Ljava/lang/Class;"⟩ ∈ goodT := (gQ7 (i := 203) (by decide +kernel) rfl)
