/-! look-ups -/
theorem qfM_7 : ceF cenM 7 = some (13, 1) := rfl
theorem qfM_200 : ceF cenM 200 = some (13, 2) := rfl
theorem qfM_173 : ceF cenM 173 = some (13, 3) := rfl
theorem qfM_13 : ceF cenM 13 = some (13, 4) := rfl
theorem qfM_16 : ceF cenM 16 = some (13, 5) := rfl
theorem qfM_180 : ceF cenM 180 = some (13, 6) := rfl
theorem qfM_19 : ceF cenM 19 = some (13, 7) := rfl
theorem qfM_22 : ceF cenM 22 = some (13, 8) := rfl
theorem qfM_25 : ceF cenM 25 = some (13, 9) := rfl
theorem qfM_28 : ceF cenM 28 = some (13, 10) := rfl
theorem qfM_31 : ceF cenM 31 = some (13, 11) := rfl
theorem qfM_184 : ceF cenM 184 = some (13, 12) := rfl
theorem qfM_194 : ceF cenM 194 = some (13, 13) := rfl
theorem qfM_34 : ceF cenM 34 = some (13, 14) := rfl
theorem qfM_37 : ceF cenM 37 = some (13, 15) := rfl
theorem qfM_40 : ceF cenM 40 = some (13, 16) := rfl
theorem qfM_206 : ceF cenM 206 = some (13, 17) := rfl
theorem qfM_43 : ceF cenM 43 = some (13, 18) := rfl
theorem qfM_46 : ceF cenM 46 = some (13, 19) := rfl
theorem qfM_49 : ceF cenM 49 = some (13, 20) := rfl
theorem qfM_52 : ceF cenM 52 = some (13, 21) := rfl
theorem qfM_55 : ceF cenM 55 = some (13, 22) := rfl
theorem qfM_58 : ceF cenM 58 = some (13, 23) := rfl
theorem qfM_61 : ceF cenM 61 = some (13, 24) := rfl
theorem qfM_64 : ceF cenM 64 = some (13, 25) := rfl
theorem qfM_67 : ceF cenM 67 = some (13, 26) := rfl
theorem qfM_70 : ceF cenM 70 = some (13, 27) := rfl
theorem qfM_74 : ceF cenM 74 = some (13, 28) := rfl
theorem qfM_77 : ceF cenM 77 = some (13, 29) := rfl
theorem qfM_80 : ceF cenM 80 = some (13, 30) := rfl
theorem qfM_83 : ceF cenM 83 = some (13, 31) := rfl
theorem qfM_86 : ceF cenM 86 = some (13, 32) := rfl
theorem qfM_89 : ceF cenM 89 = some (13, 33) := rfl
theorem qfM_92 : ceF cenM 92 = some (13, 34) := rfl
theorem qfM_95 : ceF cenM 95 = some (13, 35) := rfl
theorem qfM_98 : ceF cenM 98 = some (13, 36) := rfl
theorem qfM_101 : ceF cenM 101 = some (13, 37) := rfl
theorem qfM_321 : ceF cenM 321 = some (13, 38) := rfl
theorem qfM_104 : ceF cenM 104 = some (13, 39) := rfl
theorem qfM_240 : ceF cenM 240 = some (13, 40) := rfl
theorem qfM_107 : ceF cenM 107 = some (13, 41) := rfl
theorem qfM_110 : ceF cenM 110 = some (13, 42) := rfl
theorem qfM_113 : ceF cenM 113 = some (13, 43) := rfl
theorem qfM_116 : ceF cenM 116 = some (13, 44) := rfl
theorem qfM_237 : ceF cenM 237 = some (13, 46) := rfl
theorem qfM_119 : ceF cenM 119 = some (13, 47) := rfl
theorem qfM_288 : ceF cenM 288 = some (13, 48) := rfl
theorem qfM_123 : ceF cenM 123 = some (13, 49) := rfl
theorem qfM_126 : ceF cenM 126 = some (13, 50) := rfl
theorem qfM_129 : ceF cenM 129 = some (13, 51) := rfl
theorem qfM_132 : ceF cenM 132 = some (13, 52) := rfl
theorem qfM_135 : ceF cenM 135 = some (13, 53) := rfl
theorem qfM_138 : ceF cenM 138 = some (13, 54) := rfl
theorem qfM_141 : ceF cenM 141 = some (13, 55) := rfl
theorem qfM_144 : ceF cenM 144 = some (13, 56) := rfl
theorem qfM_147 : ceF cenM 147 = some (13, 57) := rfl
theorem qfM_250 : ceF cenM 250 = some (13, 58) := rfl
theorem qfM_150 : ceF cenM 150 = some (13, 59) := rfl
theorem qfM_279 : ceF cenM 279 = some (13, 60) := rfl
theorem qfM_253 : ceF cenM 253 = some (13, 61) := rfl
theorem qfM_256 : ceF cenM 256 = some (13, 62) := rfl
theorem qfM_332 : ceF cenM 332 = some (13, 63) := rfl
theorem qfM_153 : ceF cenM 153 = some (13, 64) := rfl
theorem qfM_156 : ceF cenM 156 = some (13, 65) := rfl
theorem qfM_344 : ceF cenM 344 = some (13, 66) := rfl
theorem qfM_347 : ceF cenM 347 = some (13, 67) := rfl
theorem qfM_159 : ceF cenM 159 = some (13, 68) := rfl
theorem qmM_165 : ceM cenM 165 = some (mM_in, 3, 1) := rfl
theorem qmM_169 : ceM cenM 169 = some (mM_refused, 1, 0) := rfl
theorem qmM_176 : ceM cenM 176 = some (mM_isPlace, 1, 0) := rfl
theorem qmM_191 : ceM cenM 191 = some (mM_walk, 2, 0) := rfl
theorem qmM_187 : ceM cenM 187 = some (mM_other, 2, 0) := rfl
theorem qmM_209 : ceM cenM 209 = some (mM_isMark, 1, 1) := rfl
theorem qmM_212 : ceM cenM 212 = some (mM_isTaken, 1, 0) := rfl
theorem qmM_215 : ceM cenM 215 = some (mM_comes, 7, 0) := rfl
theorem qmM_218 : ceM cenM 218 = some (mM_isLot, 1, 0) := rfl
theorem qmM_221 : ceM cenM 221 = some (mM_isInPen, 1, 0) := rfl
theorem qmM_224 : ceM cenM 224 = some (mM_thirst, 1, 0) := rfl
theorem qmM_227 : ceM cenM 227 = some (mM_isDry, 1, 0) := rfl
theorem qmM_311 : ceM cenM 311 = some (mM_saidBy, 3, 0) := rfl
theorem qmM_308 : ceM cenM 308 = some (mM_holdsFor, 3, 0) := rfl
theorem qmM_305 : ceM cenM 305 = some (mM_isSo, 3, 0) := rfl
theorem qmM_301 : ceM cenM 301 = some (mM_valueOf, 3, 0) := rfl
theorem qmM_230 : ceM cenM 230 = some (mM_isInDoubt, 1, 0) := rfl
theorem qmM_335 : ceM cenM 335 = some (mM_find, 1, 0) := rfl
theorem qmM_338 : ceM cenM 338 = some (mM_isNear, 2, 1) := rfl
theorem qmM_233 : ceM cenM 233 = some (mM_goes, 0, 0) := rfl
theorem qmM_203 : ceM cenM 203 = some (mM_mayBegin, 1, 0) := rfl
theorem qmM_197 : ceM cenM 197 = some (mM_isFree, 3, 0) := rfl
theorem qmM_247 : ceM cenM 247 = some (mM_bits, 1, 1) := rfl
theorem qmM_243 : ceM cenM 243 = some (mM_tries, 4, 0) := rfl
theorem qmM_298 : ceM cenM 298 = some (mM_readRule, 0, 0) := rfl
theorem qmM_291 : ceM cenM 291 = some (mM_keyHere, 0, 0) := rfl
theorem qmM_260 : ceM cenM 260 = some (mM_here, 0, 0) := rfl
theorem qmM_271 : ceM cenM 271 = some (mM_named, 6, 1) := rfl
theorem qmM_275 : ceM cenM 275 = some (mM_letters, 1, 0) := rfl
theorem qmM_265 : ceM cenM 265 = some (mM_one, 1, 0) := rfl
theorem qmM_285 : ceM cenM 285 = some (mM_numberHere, 0, 0) := rfl
theorem qmM_294 : ceM cenM 294 = some (mM_testHere, 0, 0) := rfl
theorem qmM_282 : ceM cenM 282 = some (mM_fieldHere, 0, 0) := rfl
theorem qmM_314 : ceM cenM 314 = some (mM_isBuyer, 1, 1) := rfl
theorem qmM_317 : ceM cenM 317 = some (mM_isBarred, 2, 0) := rfl
theorem qmM_326 : ceM cenM 326 = some (mM_moneyFor, 2, 0) := rfl
theorem qmM_329 : ceM cenM 329 = some (mM_noScale, 2, 0) := rfl
theorem qmM_341 : ceM cenM 341 = some (mM_forget, 0, 0) := rfl
theorem qkM_183 : ceK cenM 183 = some (.inl 1000000) := rfl
theorem qkM_297 : ceK cenM 297 = some (.inl 100000) := rfl
theorem qkM_269 : ceK cenM 269 = some (.inr (.inl 32)) := rfl
theorem qkM_263 : ceK cenM 263 = some (.inr (.inl 31)) := rfl
theorem qkM_324 : ceK cenM 324 = some (.inr (.inl 100)) := rfl
theorem qfS_93 : ceF cenS 93 = some (1, 0) := rfl
theorem qfS_83 : ceF cenS 83 = some (1, 4) := rfl
theorem qfS_253 : ceF cenS 253 = some (3, 1) := rfl
theorem qfS_271 : ceF cenS 271 = some (3, 2) := rfl
theorem qfS_260 : ceF cenS 260 = some (4, 0) := rfl
theorem qfS_334 : ceF cenS 334 = some (5, 2) := rfl
theorem qfS_111 : ceF cenS 111 = some (8, 2) := rfl
theorem qfS_108 : ceF cenS 108 = some (8, 3) := rfl
theorem qfS_241 : ceF cenS 241 = some (6, 13) := rfl
theorem qfS_244 : ceF cenS 244 = some (6, 14) := rfl
theorem qfS_370 : ceF cenS 370 = some (7, 1) := rfl
theorem qfS_367 : ceF cenS 367 = some (7, 2) := rfl
theorem qfS_12 : ceF cenS 12 = some (0, 0) := rfl
theorem qfS_19 : ceF cenS 19 = some (0, 1) := rfl
theorem qfS_26 : ceF cenS 26 = some (0, 2) := rfl
theorem qfS_33 : ceF cenS 33 = some (0, 3) := rfl
theorem qfS_40 : ceF cenS 40 = some (0, 4) := rfl
theorem qfS_49 : ceF cenS 49 = some (0, 5) := rfl
theorem qfS_56 : ceF cenS 56 = some (0, 6) := rfl
theorem qfS_63 : ceF cenS 63 = some (0, 7) := rfl
theorem qfS_67 : ceF cenS 67 = some (0, 8) := rfl
theorem qfS_71 : ceF cenS 71 = some (0, 9) := rfl
theorem qfS_190 : ceF cenS 190 = some (11, 7) := rfl
theorem qfS_199 : ceF cenS 199 = some (11, 8) := rfl
theorem qfS_195 : ceF cenS 195 = some (11, 9) := rfl
theorem qfS_391 : ceF cenS 391 = some (11, 10) := rfl
theorem qfS_155 : ceF cenS 155 = some (10, 0) := rfl
theorem qfS_164 : ceF cenS 164 = some (10, 1) := rfl
theorem qfS_186 : ceF cenS 186 = some (10, 2) := rfl
theorem qfS_145 : ceF cenS 145 = some (10, 3) := rfl
theorem qfS_161 : ceF cenS 161 = some (10, 4) := rfl
theorem qfS_152 : ceF cenS 152 = some (10, 5) := rfl
theorem qfS_158 : ceF cenS 158 = some (10, 6) := rfl
theorem qfS_167 : ceF cenS 167 = some (10, 7) := rfl
theorem qfS_170 : ceF cenS 170 = some (10, 8) := rfl
theorem qfS_173 : ceF cenS 173 = some (10, 9) := rfl
theorem qfS_340 : ceF cenS 340 = some (10, 10) := rfl
theorem qmS_11 : ceM cenS 11 = some (mY_init, 0, 5) := rfl
theorem qmS_18 : ceM cenS 18 = some (mL_init, 0, 2) := rfl
theorem qmS_25 : ceM cenS 25 = some (mT_init, 0, 5) := rfl
theorem qmS_32 : ceM cenS 32 = some (mB_init, 0, 5) := rfl
theorem qmS_39 : ceM cenS 39 = some (mK_init, 0, 5) := rfl
theorem qmS_46 : ceM cenS 46 = some (mP_init, 1, 2) := rfl
theorem qmS_55 : ceM cenS 55 = some (mR_init, 0, 5) := rfl
theorem qmS_62 : ceM cenS 62 = some (mW_init, 0, 5) := rfl
theorem qmS_75 : ceM cenS 75 = some (mS_within, 3, 1) := rfl
theorem qmS_79 : ceM cenS 79 = some (mS_refuse, 1, 0) := rfl
theorem qmS_86 : ceM cenS 86 = some (mY_addPlace, 1, 0) := rfl
theorem qmS_89 : ceM cenS 89 = some (mY_hasPlace, 1, 0) := rfl
theorem qmS_96 : ceM cenS 96 = some (mL_size, 0, 0) := rfl
theorem qmS_100 : ceM cenS 100 = some (mY_addAlley, 3, 0) := rfl
theorem qmS_104 : ceM cenS 104 = some (mY_find, 3, 0) := rfl
theorem qmS_114 : ceM cenS 114 = some (mW_alleyAt, 1, 0) := rfl
theorem qmS_117 : ceM cenS 117 = some (mS_tellsOwner, 1, 1) := rfl
theorem qmS_328 : ceM cenS 328 = some (mS_isOwner, 1, 1) := rfl
theorem qmS_120 : ceM cenS 120 = some (mY_kindOf, 1, 0) := rfl
theorem qmS_123 : ceM cenS 123 = some (mS_tellsHeads, 1, 1) := rfl
theorem qmS_126 : ceM cenS 126 = some (mS_isMark, 1, 1) := rfl
theorem qmS_129 : ceM cenS 129 = some (mS_hasLot, 1, 0) := rfl
theorem qmS_277 : ceM cenS 277 = some (mL_get, 1, 0) := rfl
theorem qmS_134 : ceM cenS 134 = some (mO_init, 7, 2) := rfl
theorem qmS_137 : ceM cenS 137 = some (mS_admit, 1, 0) := rfl
theorem qmS_274 : ceM cenS 274 = some (mL_add1z, 1, 0) := rfl
theorem qmS_141 : ceM cenS 141 = some (mS_lotAt, 1, 0) := rfl
theorem qmS_148 : ceM cenS 148 = some (mS_isIn, 2, 0) := rfl
theorem qmS_176 : ceM cenS 176 = some (mO_thirst, 1, 0) := rfl
theorem qmS_179 : ceM cenS 179 = some (mB_isDry, 2, 0) := rfl
theorem qmS_182 : ceM cenS 182 = some (mS_isInDoubt, 1, 0) := rfl
theorem qmS_383 : ceM cenS 383 = some (mK_doubt, 2, 0) := rfl
theorem qmS_202 : ceM cenS 202 = some (mS_mayBeDriven, 1, 0) := rfl
theorem qmS_380 : ceM cenS 380 = some (mO_isOnWay, 0, 0) := rfl
theorem qmS_205 : ceM cenS 205 = some (mY_firstFree, 2, 0) := rfl
theorem qmS_209 : ceM cenS 209 = some (mY_take, 2, 0) := rfl
theorem qmS_213 : ceM cenS 213 = some (mO_leave, 2, 0) := rfl
theorem qmS_217 : ceM cenS 217 = some (mE_isSold, 0, 0) := rfl
theorem qmS_221 : ceM cenS 221 = some (mS_arePens, 1, 0) := rfl
theorem qmS_397 : ceM cenS 397 = some (mS_inSet, 2, 1) := rfl
theorem qmS_224 : ceM cenS 224 = some (mJi_bitCount, 1, 1) := rfl
theorem qmS_229 : ceM cenS 229 = some (mS_mayAllBeDriven, 1, 0) := rfl
theorem qmS_232 : ceM cenS 232 = some (mS_hasLotInOne, 1, 0) := rfl
theorem qmS_235 : ceM cenS 235 = some (mS_readyPlanner, 2, 0) := rfl
theorem qmS_400 : ceM cenS 400 = some (mP_clear, 0, 0) := rfl
theorem qmS_403 : ceM cenS 403 = some (mP_addPen, 1, 0) := rfl
theorem qmS_406 : ceM cenS 406 = some (mP_addLot, 2, 0) := rfl
theorem qmS_238 : ceM cenS 238 = some (mP_search, 1, 0) := rfl
theorem qmS_247 : ceM cenS 247 = some (mP_plannedLot, 1, 0) := rfl
theorem qmS_250 : ceM cenS 250 = some (mP_plannedPen, 1, 0) := rfl
theorem qmS_255 : ceM cenS 255 = some (mT_add, 1, 0) := rfl
theorem qmS_265 : ceM cenS 265 = some (mU_init, 2, 2) := rfl
theorem qmS_267 : ceM cenS 267 = some (mT_readRule, 1, 0) := rfl
theorem qmS_281 : ceM cenS 281 = some (mU_appliesTo, 3, 0) := rfl
theorem qmS_285 : ceM cenS 285 = some (mB_saying, 4, 0) := rfl
theorem qmS_289 : ceM cenS 289 = some (mS_isBuyer, 1, 1) := rfl
theorem qmS_292 : ceM cenS 292 = some (mE_wasSeenBy, 1, 0) := rfl
theorem qmS_295 : ceM cenS 295 = some (mE_show, 1, 0) := rfl
theorem qmS_298 : ceM cenS 298 = some (mB_bars, 3, 0) := rfl
theorem qmS_302 : ceM cenS 302 = some (mE_offer, 2, 0) := rfl
theorem qmS_305 : ceM cenS 305 = some (mE_offers, 0, 0) := rfl
theorem qmS_308 : ceM cenS 308 = some (mE_close, 0, 0) := rfl
theorem qmS_311 : ceM cenS 311 = some (mS_weightOf, 1, 0) := rfl
theorem qmS_386 : ceM cenS 386 = some (mJm_max, 2, 1) := rfl
theorem qmS_318 : ceM cenS 318 = some (mY_offOf, 1, 0) := rfl
theorem qmS_314 : ceM cenS 314 = some (mE_pay, 3, 0) := rfl
theorem qmS_321 : ceM cenS 321 = some (mY_setOff, 2, 0) := rfl
theorem qmS_324 : ceM cenS 324 = some (mS_settle, 2, 0) := rfl
theorem qmS_394 : ceM cenS 394 = some (mE_correct, 1, 0) := rfl
theorem qmS_331 : ceM cenS 331 = some (mK_ownerOf, 1, 0) := rfl
theorem qmS_335 : ceM cenS 335 = some (mK_add, 2, 0) := rfl
theorem qmS_337 : ceM cenS 337 = some (mK_countNear, 1, 0) := rfl
theorem qmS_343 : ceM cenS 343 = some (mY_forgetBefore, 1, 0) := rfl
theorem qmS_346 : ceM cenS 346 = some (mO_arrive, 1, 0) := rfl
theorem qmS_349 : ceM cenS 349 = some (mS_lotsOnWay, 0, 0) := rfl
theorem qmS_352 : ceM cenS 352 = some (mS_dryLots, 0, 0) := rfl
theorem qmS_355 : ceM cenS 355 = some (mS_soldLots, 0, 0) := rfl
theorem qmS_358 : ceM cenS 358 = some (mS_headsAtHooks, 0, 0) := rfl
theorem qmS_361 : ceM cenS 361 = some (mR_begin, 1, 0) := rfl
theorem qmS_364 : ceM cenS 364 = some (mR_addAt, 2, 0) := rfl
theorem qmS_371 : ceM cenS 371 = some (mR_at, 1, 0) := rfl
theorem qmS_373 : ceM cenS 373 = some (mR_spans, 2, 0) := rfl
theorem qmS_377 : ceM cenS 377 = some (mR_move, 3, 0) := rfl
theorem qkS_259 : ceK cenS 259 = some (.inl 100000) := rfl
theorem qtS_9 : ceT cenS 9 = some 1 := rfl
theorem qtS_16 : ceT cenS 16 = some 2 := rfl
theorem qtS_23 : ceT cenS 23 = some 3 := rfl
theorem qtS_30 : ceT cenS 30 = some 4 := rfl
theorem qtS_37 : ceT cenS 37 = some 5 := rfl
theorem qtS_44 : ceT cenS 44 = some 6 := rfl
theorem qtS_53 : ceT cenS 53 = some 7 := rfl
theorem qtS_60 : ceT cenS 60 = some 8 := rfl
theorem qtS_132 : ceT cenS 132 = some 10 := rfl
theorem qtS_263 : ceT cenS 263 = some 12 := rfl
theorem qfY_12 : ceF cenY 12 = some (1, 0) := rfl
theorem qfY_18 : ceF cenY 18 = some (1, 1) := rfl
theorem qfY_22 : ceF cenY 22 = some (1, 2) := rfl
theorem qfY_27 : ceF cenY 27 = some (1, 3) := rfl
theorem qfY_30 : ceF cenY 30 = some (1, 4) := rfl
theorem qfY_89 : ceF cenY 89 = some (8, 2) := rfl
theorem qfY_73 : ceF cenY 73 = some (9, 2) := rfl
theorem qmY_11 : ceM cenY 11 = some (mL_init, 0, 2) := rfl
theorem qmY_41 : ceM cenY 41 = some (mA_init, 3, 2) := rfl
theorem qmY_44 : ceM cenY 44 = some (mL_add1z, 1, 0) := rfl
theorem qmY_48 : ceM cenY 48 = some (mY_minutesBetween, 2, 0) := rfl
theorem qmY_34 : ceM cenY 34 = some (mY_hasPlace, 1, 0) := rfl
theorem qmY_52 : ceM cenY 52 = some (mJm_min, 2, 1) := rfl
theorem qmY_57 : ceM cenY 57 = some (mL_size, 0, 0) := rfl
theorem qmY_61 : ceM cenY 61 = some (mW_clear, 0, 0) := rfl
theorem qmY_66 : ceM cenY 66 = some (mY_leastAlleyToward, 2, 0) := rfl
theorem qmY_69 : ceM cenY 69 = some (mL_get, 1, 0) := rfl
theorem qmY_82 : ceM cenY 82 = some (mA_touches, 1, 0) := rfl
theorem qmY_78 : ceM cenY 78 = some (mA_otherEnd, 1, 0) := rfl
theorem qmY_75 : ceM cenY 75 = some (mW_add, 2, 0) := rfl
theorem qmY_85 : ceM cenY 85 = some (mY_putOff, 2, 0) := rfl
theorem qmY_92 : ceM cenY 92 = some (mW_alleyAt, 1, 0) := rfl
theorem qmY_95 : ceM cenY 95 = some (mW_aheadOf, 1, 0) := rfl
theorem qmY_98 : ceM cenY 98 = some (mA_freeFrom, 1, 0) := rfl
theorem qmY_101 : ceM cenY 101 = some (mA_take, 1, 0) := rfl
theorem qmY_105 : ceM cenY 105 = some (mA_giveBack, 0, 0) := rfl
theorem qmY_108 : ceM cenY 108 = some (mA_forgetBefore, 1, 0) := rfl
theorem qkY_38 : ceK cenY 38 = some (.inl 1000000) := rfl
theorem qtY_9 : ceT cenY 9 = some 2 := rfl
theorem qtY_39 : ceT cenY 39 = some 9 := rfl
theorem qfT_9 : ceF cenT 9 = some (3, 0) := rfl
theorem qfT_15 : ceF cenT 15 = some (3, 1) := rfl
theorem qfT_19 : ceF cenT 19 = some (3, 2) := rfl
theorem qfT_26 : ceF cenT 26 = some (12, 7) := rfl
theorem qfT_39 : ceF cenT 39 = some (12, 8) := rfl
theorem qmT_22 : ceM cenT 22 = some (mT_readWord, 1, 0) := rfl
theorem qmT_70 : ceM cenT 70 = some (mT_keyName, 1, 1) := rfl
theorem qmT_74 : ceM cenT 74 = some (mT_fieldName, 1, 1) := rfl
theorem qmT_66 : ceM cenT 66 = some (mJs_charAt, 1, 0) := rfl
theorem qmT_44 : ceM cenT 44 = some (mT_readText, 1, 0) := rfl
theorem qmT_61 : ceM cenT 61 = some (mJs_length, 0, 0) := rfl
theorem qmT_31 : ceM cenT 31 = some (mT_readSign, 1, 0) := rfl
theorem qmT_35 : ceM cenT 35 = some (mT_readNumber, 0, 0) := rfl
theorem qmT_77 : ceM cenT 77 = some (mJm_max, 2, 1) := rfl
theorem qmT_48 : ceM cenT 48 = some (mT_readTests, 1, 0) := rfl
theorem qmT_52 : ceM cenT 52 = some (mT_readTest, 1, 0) := rfl
theorem qmT_57 : ceM cenT 57 = some (mU_addTest, 4, 0) := rfl
theorem qfB_12 : ceF cenB 12 = some (4, 0) := rfl
theorem qfB_28 : ceF cenB 28 = some (12, 7) := rfl
theorem qfB_36 : ceF cenB 36 = some (12, 8) := rfl
theorem qmB_11 : ceM cenB 11 = some (mL_init, 0, 2) := rfl
theorem qmB_39 : ceM cenB 39 = some (mO_thirst, 1, 0) := rfl
theorem qmB_45 : ceM cenB 45 = some (mB_saying, 4, 0) := rfl
theorem qmB_18 : ceM cenB 18 = some (mL_size, 0, 0) := rfl
theorem qmB_22 : ceM cenB 22 = some (mL_get, 1, 0) := rfl
theorem qmB_32 : ceM cenB 32 = some (mU_appliesTo, 3, 0) := rfl
theorem qtB_9 : ceT cenB 9 = some 2 := rfl
theorem qtB_26 : ceT cenB 26 = some 12 := rfl
theorem qfK_9 : ceF cenK 9 = some (5, 0) := rfl
theorem qfK_15 : ceF cenK 15 = some (5, 1) := rfl
theorem qfK_18 : ceF cenK 18 = some (5, 2) := rfl
theorem qmK_26 : ceM cenK 26 = some (mK_ownerOf, 1, 0) := rfl
theorem qmK_22 : ceM cenK 22 = some (mK_areNear, 2, 1) := rfl
theorem qfP_86 : ceF cenP 86 = some (8, 2) := rfl
theorem qfP_89 : ceF cenP 89 = some (8, 3) := rfl
theorem qfP_58 : ceF cenP 58 = some (6, 0) := rfl
theorem qfP_9 : ceF cenP 9 = some (6, 1) := rfl
theorem qfP_15 : ceF cenP 15 = some (6, 2) := rfl
theorem qfP_20 : ceF cenP 20 = some (6, 3) := rfl
theorem qfP_24 : ceF cenP 24 = some (6, 4) := rfl
theorem qfP_27 : ceF cenP 27 = some (6, 5) := rfl
theorem qfP_30 : ceF cenP 30 = some (6, 6) := rfl
theorem qfP_33 : ceF cenP 33 = some (6, 7) := rfl
theorem qfP_36 : ceF cenP 36 = some (6, 8) := rfl
theorem qfP_40 : ceF cenP 40 = some (6, 9) := rfl
theorem qfP_43 : ceF cenP 43 = some (6, 10) := rfl
theorem qfP_46 : ceF cenP 46 = some (6, 11) := rfl
theorem qfP_49 : ceF cenP 49 = some (6, 12) := rfl
theorem qfP_52 : ceF cenP 52 = some (6, 13) := rfl
theorem qfP_55 : ceF cenP 55 = some (6, 14) := rfl
theorem qmP_62 : ceM cenP 62 = some (mW_init, 0, 5) := rfl
theorem qmP_63 : ceM cenP 63 = some (mY_find, 3, 0) := rfl
theorem qmP_70 : ceM cenP 70 = some (mP_tell, 2, 0) := rfl
theorem qmP_74 : ceM cenP 74 = some (mP_keep, 1, 0) := rfl
theorem qmP_78 : ceM cenP 78 = some (mS_inSet, 2, 4) := rfl
theorem qmP_82 : ceM cenP 82 = some (mP_tellOne, 4, 0) := rfl
theorem qmP_92 : ceM cenP 92 = some (mY_firstFree, 2, 0) := rfl
theorem qmP_96 : ceM cenP 96 = some (mJm_max, 2, 1) := rfl
theorem qmP_102 : ceM cenP 102 = some (mY_take, 2, 0) := rfl
theorem qmP_106 : ceM cenP 106 = some (mY_giveBack, 1, 0) := rfl
theorem qkP_69 : ceK cenP 69 = some (.inl 2000000000) := rfl
theorem qtP_18 : ceT cenP 18 = some 8 := rfl
theorem qfR_9 : ceF cenR 9 = some (7, 0) := rfl
theorem qfR_15 : ceF cenR 15 = some (7, 1) := rfl
theorem qfR_19 : ceF cenR 19 = some (7, 2) := rfl
theorem qmR_23 : ceM cenR 23 = some (mJm_min, 2, 1) := rfl
theorem qmR_29 : ceM cenR 29 = some (mR_spans, 2, 0) := rfl
theorem qfW_9 : ceF cenW 9 = some (8, 0) := rfl
theorem qfW_15 : ceF cenW 15 = some (8, 1) := rfl
theorem qfW_18 : ceF cenW 18 = some (8, 2) := rfl
theorem qfW_22 : ceF cenW 22 = some (8, 3) := rfl
theorem qfA_19 : ceF cenA 19 = some (9, 0) := rfl
theorem qfA_22 : ceF cenA 22 = some (9, 1) := rfl
theorem qfA_25 : ceF cenA 25 = some (9, 2) := rfl
theorem qfA_9 : ceF cenA 9 = some (9, 3) := rfl
theorem qfA_15 : ceF cenA 15 = some (9, 4) := rfl
theorem qmA_28 : ceM cenA 28 = some (mA_meets, 1, 0) := rfl
theorem qfO_38 : ceF cenO 38 = some (10, 0) := rfl
theorem qfO_41 : ceF cenO 41 = some (10, 1) := rfl
theorem qfO_12 : ceF cenO 12 = some (10, 2) := rfl
theorem qfO_29 : ceF cenO 29 = some (10, 3) := rfl
theorem qfO_32 : ceF cenO 32 = some (10, 4) := rfl
theorem qfO_35 : ceF cenO 35 = some (10, 5) := rfl
theorem qfO_44 : ceF cenO 44 = some (10, 6) := rfl
theorem qfO_47 : ceF cenO 47 = some (10, 7) := rfl
theorem qfO_18 : ceF cenO 18 = some (10, 8) := rfl
theorem qfO_22 : ceF cenO 22 = some (10, 9) := rfl
theorem qfO_25 : ceF cenO 25 = some (10, 10) := rfl
theorem qmO_11 : ceM cenO 11 = some (mE_init, 0, 5) := rfl
theorem qmO_50 : ceM cenO 50 = some (mO_isOnWay, 0, 0) := rfl
theorem qtO_9 : ceT cenO 9 = some 11 := rfl
theorem qfE_9 : ceF cenE 9 = some (11, 0) := rfl
theorem qfE_15 : ceF cenE 15 = some (11, 1) := rfl
theorem qfE_18 : ceF cenE 18 = some (11, 2) := rfl
theorem qfE_22 : ceF cenE 22 = some (11, 3) := rfl
theorem qfE_25 : ceF cenE 25 = some (11, 4) := rfl
theorem qfE_28 : ceF cenE 28 = some (11, 5) := rfl
theorem qfE_31 : ceF cenE 31 = some (11, 6) := rfl
theorem qfE_34 : ceF cenE 34 = some (11, 7) := rfl
theorem qfE_37 : ceF cenE 37 = some (11, 8) := rfl
theorem qfE_40 : ceF cenE 40 = some (11, 9) := rfl
theorem qfE_44 : ceF cenE 44 = some (11, 10) := rfl
theorem qmE_47 : ceM cenE 47 = some (mS_isBuyer, 1, 4) := rfl
theorem qmE_51 : ceM cenE 51 = some (mS_inSet, 2, 4) := rfl
theorem qmE_55 : ceM cenE 55 = some (mE_moneyFor, 1, 0) := rfl
theorem qmE_59 : ceM cenE 59 = some (mJm_max, 2, 1) := rfl
theorem qkE_65 : ceK cenE 65 = some (.inr (.inl 100)) := rfl
theorem qfU_49 : ceF cenU 49 = some (10, 3) := rfl
theorem qfU_54 : ceF cenU 54 = some (10, 4) := rfl
theorem qfU_57 : ceF cenU 57 = some (10, 5) := rfl
theorem qfU_35 : ceF cenU 35 = some (12, 0) := rfl
theorem qfU_38 : ceF cenU 38 = some (12, 1) := rfl
theorem qfU_9 : ceF cenU 9 = some (12, 2) := rfl
theorem qfU_15 : ceF cenU 15 = some (12, 3) := rfl
theorem qfU_19 : ceF cenU 19 = some (12, 4) := rfl
theorem qfU_22 : ceF cenU 22 = some (12, 5) := rfl
theorem qfU_25 : ceF cenU 25 = some (12, 6) := rfl
theorem qfU_29 : ceF cenU 29 = some (12, 7) := rfl
theorem qfU_32 : ceF cenU 32 = some (12, 8) := rfl
theorem qmU_41 : ceM cenU 41 = some (mU_isMet, 4, 0) := rfl
theorem qmU_45 : ceM cenU 45 = some (mU_valueOf, 4, 1) := rfl
theorem qmU_60 : ceM cenU 60 = some (mO_thirst, 1, 0) := rfl
theorem qmZ_9 : ceM cenZ 9 = some (mS_init, 0, 2) := rfl
theorem qmZ_13 : ceM cenZ 13 = some (mS_place, 1, 0) := rfl
theorem qmZ_18 : ceM cenZ 18 = some (mS_alley, 3, 0) := rfl
theorem qmZ_23 : ceM cenZ 23 = some (mS_way, 2, 0) := rfl
theorem qmZ_28 : ceM cenZ 28 = some (mS_by, 3, 0) := rfl
theorem qmZ_32 : ceM cenZ 32 = some (mS_lot, 5, 0) := rfl
theorem qmZ_37 : ceM cenZ 37 = some (mS_sort, 4, 0) := rfl
theorem qmZ_42 : ceM cenZ 42 = some (mS_look, 2, 0) := rfl
theorem qmZ_46 : ceM cenZ 46 = some (mS_drive, 2, 0) := rfl
theorem qmZ_50 : ceM cenZ 50 = some (mS_water, 1, 0) := rfl
theorem qmZ_54 : ceM cenZ 54 = some (mS_hold, 2, 0) := rfl
theorem qmZ_58 : ceM cenZ 58 = some (mS_plan, 2, 0) := rfl
theorem qmZ_62 : ceM cenZ 62 = some (mS_planned, 2, 0) := rfl
theorem qmZ_66 : ceM cenZ 66 = some (mS_feed, 2, 0) := rfl
theorem qmZ_70 : ceM cenZ 70 = some (mS_wipe, 0, 0) := rfl
theorem qmZ_75 : ceM cenZ 75 = some (mS_rule, 2, 0) := rfl
theorem qmZ_79 : ceM cenZ 79 = some (mS_holds, 3, 0) := rfl
theorem qmZ_83 : ceM cenZ 83 = some (mS_said, 2, 0) := rfl
theorem qmZ_87 : ceM cenZ 87 = some (mS_see, 2, 0) := rfl
theorem qmZ_91 : ceM cenZ 91 = some (mS_bid, 3, 0) := rfl
theorem qmZ_95 : ceM cenZ 95 = some (mS_sell, 1, 0) := rfl
theorem qmZ_99 : ceM cenZ 99 = some (mS_weigh, 1, 0) := rfl
theorem qmZ_103 : ceM cenZ 103 = some (mS_off, 2, 0) := rfl
theorem qmZ_107 : ceM cenZ 107 = some (mS_test, 1, 0) := rfl
theorem qmZ_111 : ceM cenZ 111 = some (mS_account, 1, 0) := rfl
theorem qmZ_116 : ceM cenZ 116 = some (mS_write, 2, 0) := rfl
theorem qmZ_120 : ceM cenZ 120 = some (mS_whose, 1, 0) := rfl
theorem qmZ_124 : ceM cenZ 124 = some (mS_near, 1, 0) := rfl
theorem qmZ_128 : ceM cenZ 128 = some (mS_judge, 2, 0) := rfl
theorem qmZ_132 : ceM cenZ 132 = some (mS_run, 1, 0) := rfl
theorem qmZ_136 : ceM cenZ 136 = some (mS_count, 1, 0) := rfl
theorem qmZ_140 : ceM cenZ 140 = some (mS_lay, 0, 0) := rfl
theorem qmZ_144 : ceM cenZ 144 = some (mS_tear, 0, 0) := rfl
theorem qmZ_148 : ceM cenZ 148 = some (mS_row, 1, 0) := rfl
theorem qmZ_152 : ceM cenZ 152 = some (mS_copy, 3, 0) := rfl
theorem qmZ_156 : ceM cenZ 156 = some (mS_status, 1, 0) := rfl
theorem qmZ_12 : ceM cenZ 12 = some (mM_init, 0, 2) := rfl
theorem qmZ_159 : ceM cenZ 159 = some (mM_status, 1, 0) := rfl
theorem qmZ_17 : ceM cenZ 17 = some (mM_place, 1, 0) := rfl
theorem qmZ_22 : ceM cenZ 22 = some (mM_alley, 3, 0) := rfl
theorem qmZ_27 : ceM cenZ 27 = some (mM_way, 2, 0) := rfl
theorem qmZ_31 : ceM cenZ 31 = some (mM_by, 3, 0) := rfl
theorem qmZ_36 : ceM cenZ 36 = some (mM_lot, 5, 0) := rfl
theorem qmZ_41 : ceM cenZ 41 = some (mM_sort, 4, 0) := rfl
theorem qmZ_45 : ceM cenZ 45 = some (mM_look, 2, 0) := rfl
theorem qmZ_49 : ceM cenZ 49 = some (mM_drive, 2, 0) := rfl
theorem qmZ_53 : ceM cenZ 53 = some (mM_water, 1, 0) := rfl
theorem qmZ_57 : ceM cenZ 57 = some (mM_hold, 2, 0) := rfl
theorem qmZ_61 : ceM cenZ 61 = some (mM_plan, 2, 0) := rfl
theorem qmZ_65 : ceM cenZ 65 = some (mM_planned, 2, 0) := rfl
theorem qmZ_69 : ceM cenZ 69 = some (mM_feed, 2, 0) := rfl
theorem qmZ_74 : ceM cenZ 74 = some (mM_wipe, 0, 0) := rfl
theorem qmZ_78 : ceM cenZ 78 = some (mM_rule, 2, 0) := rfl
theorem qmZ_82 : ceM cenZ 82 = some (mM_holds, 3, 0) := rfl
theorem qmZ_86 : ceM cenZ 86 = some (mM_said, 2, 0) := rfl
theorem qmZ_90 : ceM cenZ 90 = some (mM_see, 2, 0) := rfl
theorem qmZ_94 : ceM cenZ 94 = some (mM_bid, 3, 0) := rfl
theorem qmZ_98 : ceM cenZ 98 = some (mM_sell, 1, 0) := rfl
theorem qmZ_102 : ceM cenZ 102 = some (mM_weigh, 1, 0) := rfl
theorem qmZ_106 : ceM cenZ 106 = some (mM_off, 2, 0) := rfl
theorem qmZ_110 : ceM cenZ 110 = some (mM_test, 1, 0) := rfl
theorem qmZ_115 : ceM cenZ 115 = some (mM_account, 1, 0) := rfl
theorem qmZ_119 : ceM cenZ 119 = some (mM_write, 2, 0) := rfl
theorem qmZ_123 : ceM cenZ 123 = some (mM_whose, 1, 0) := rfl
theorem qmZ_127 : ceM cenZ 127 = some (mM_near, 1, 0) := rfl
theorem qmZ_131 : ceM cenZ 131 = some (mM_judge, 2, 0) := rfl
theorem qmZ_135 : ceM cenZ 135 = some (mM_run, 1, 0) := rfl
theorem qmZ_139 : ceM cenZ 139 = some (mM_count, 1, 0) := rfl
theorem qmZ_143 : ceM cenZ 143 = some (mM_lay, 0, 0) := rfl
theorem qmZ_147 : ceM cenZ 147 = some (mM_tear, 0, 0) := rfl
theorem qmZ_151 : ceM cenZ 151 = some (mM_row, 1, 0) := rfl
theorem qmZ_155 : ceM cenZ 155 = some (mM_copy, 3, 0) := rfl
theorem qtZ_7 : ceT cenZ 7 = some 0 := rfl
theorem qtZ_10 : ceT cenZ 10 = some 13 := rfl
theorem qfL_9 : ceF cenL 9 = some (2, 1) := rfl
theorem qfL_48 : ceF cenL 48 = some (2, 2) := rfl
theorem qfL_63 : ceF cenL 63 = some (2, 0) := rfl
theorem qmL_1 : ceM cenL 1 = some (mJa_init, 0, 2) := rfl
theorem qmL_131 : ceM cenL 131 = some (mL_add3v, 3, 0) := rfl
theorem qmL_129 : ceM cenL 129 = some (mL_grow0, 0, 0) := rfl
theorem qmL_69 : ceM cenL 69 = some (mL_grow1, 1, 0) := rfl
theorem qmL_73 : ceM cenL 73 = some (mJx_newLength, 3, 1) := rfl
theorem qmL_66 : ceM cenL 66 = some (mJr_copyOf2, 2, 1) := rfl
theorem qmL_79 : ceM cenL 79 = some (mJm_max, 2, 1) := rfl
theorem qmL_118 : ceM cenL 118 = some (mJo_checkIndex, 2, 1) := rfl
theorem qmL_123 : ceM cenL 123 = some (mL_elementData, 1, 0) := rfl
theorem qmJs_492 : ceM cenJs 492 = some (mJs_isLatin1, 0, 0) := rfl
theorem qmJs_495 : ceM cenJs 495 = some (mJl_charAt, 2, 1) := rfl
theorem qmJs_1059 : ceM cenJs 1059 = some (mJp_checkIndex, 3, 1) := rfl
theorem qmJs_498 : ceM cenJs 498 = some (mJu_charAt, 2, 1) := rfl
theorem qmJs_335 : ceM cenJs 335 = some (mJs_coder, 0, 0) := rfl
theorem qfJa_7 : ceF cenJa 7 = some (2, 0) := rfl
theorem qmJa_1 : ceM cenJa 1 = some (mJc_init, 0, 2) := rfl
theorem qmJr_300 : ceM cenJr 300 = some (mJr_copyOf3, 3, 1) := rfl
theorem qmJr_304 : ceM cenJr 304 = some (mJm_min, 2, 1) := rfl
theorem qmJo_105 : ceM cenJo 105 = some (mJp_checkIndex, 3, 1) := rfl
theorem qkJi_265 : ceK cenJi 265 = some (.inl 1431655765) := rfl
theorem qkJi_266 : ceK cenJi 266 = some (.inl 858993459) := rfl
theorem qkJi_267 : ceK cenJi 267 = some (.inl 252645135) := rfl
theorem qmJx_194 : ceM cenJx 194 = some (mJm_max, 2, 1) := rfl
theorem qmJx_201 : ceM cenJx 201 = some (mJx_hugeLength, 2, 1) := rfl
theorem qkJx_200 : ceK cenJx 200 = some (.inl 2147483639) := rfl
theorem qmJl_9 : ceM cenJl 9 = some (mJs_checkIndex, 2, 1) := rfl
theorem rp_0_0 : rp 0 0 = true := rfl
theorem rp_0_1 : rp 0 1 = true := rfl
theorem rp_0_2 : rp 0 2 = true := rfl
theorem rp_0_3 : rp 0 3 = true := rfl
theorem rp_0_4 : rp 0 4 = true := rfl
theorem rp_0_5 : rp 0 5 = true := rfl
theorem rp_0_6 : rp 0 6 = true := rfl
theorem rp_0_7 : rp 0 7 = true := rfl
theorem rp_0_8 : rp 0 8 = true := rfl
theorem rp_0_9 : rp 0 9 = false := rfl
theorem fi_0_9 : ((clsN 0).2.1 9).2.2.2 = false := rfl
theorem nr_0_9 (x : Int32) : nar (some (cTy 0 9)) x = True := rfl
theorem rp_1_0 : rp 1 0 = true := rfl
theorem rp_1_1 : rp 1 1 = true := rfl
theorem rp_1_2 : rp 1 2 = true := rfl
theorem rp_1_3 : rp 1 3 = true := rfl
theorem rp_1_4 : rp 1 4 = false := rfl
theorem fi_1_4 : ((clsN 1).2.1 4).2.2.2 = false := rfl
theorem nr_1_4 (x : Int32) : nar (some (cTy 1 4)) x = True := rfl
theorem rp_2_0 : rp 2 0 = false := rfl
theorem fi_2_0 : ((clsN 2).2.1 0).2.2.2 = false := rfl
theorem nr_2_0 (x : Int32) : nar (some (cTy 2 0)) x = True := rfl
theorem rp_2_1 : rp 2 1 = true := rfl
theorem rp_2_2 : rp 2 2 = false := rfl
theorem fi_2_2 : ((clsN 2).2.1 2).2.2.2 = false := rfl
theorem nr_2_2 (x : Int32) : nar (some (cTy 2 2)) x = True := rfl
theorem rp_3_0 : rp 3 0 = true := rfl
theorem rp_3_1 : rp 3 1 = false := rfl
theorem fi_3_1 : ((clsN 3).2.1 1).2.2.2 = false := rfl
theorem nr_3_1 (x : Int32) : nar (some (cTy 3 1)) x = True := rfl
theorem rp_3_2 : rp 3 2 = false := rfl
theorem fi_3_2 : ((clsN 3).2.1 2).2.2.2 = false := rfl
theorem nr_3_2 (x : Int32) : nar (some (cTy 3 2)) x = True := rfl
theorem rp_4_0 : rp 4 0 = true := rfl
theorem rp_5_0 : rp 5 0 = true := rfl
theorem rp_5_1 : rp 5 1 = true := rfl
theorem rp_5_2 : rp 5 2 = false := rfl
theorem fi_5_2 : ((clsN 5).2.1 2).2.2.2 = false := rfl
theorem nr_5_2 (x : Int32) : nar (some (cTy 5 2)) x = True := rfl
theorem rp_6_0 : rp 6 0 = true := rfl
theorem rp_6_1 : rp 6 1 = true := rfl
theorem rp_6_2 : rp 6 2 = true := rfl
theorem rp_6_3 : rp 6 3 = true := rfl
theorem rp_6_4 : rp 6 4 = true := rfl
theorem rp_6_5 : rp 6 5 = true := rfl
theorem rp_6_6 : rp 6 6 = true := rfl
theorem rp_6_7 : rp 6 7 = true := rfl
theorem rp_6_8 : rp 6 8 = false := rfl
theorem fi_6_8 : ((clsN 6).2.1 8).2.2.2 = false := rfl
theorem nr_6_8 (x : Int32) : nar (some (cTy 6 8)) x = True := rfl
theorem rp_6_9 : rp 6 9 = false := rfl
theorem fi_6_9 : ((clsN 6).2.1 9).2.2.2 = false := rfl
theorem nr_6_9 (x : Int32) : nar (some (cTy 6 9)) x = True := rfl
theorem rp_6_10 : rp 6 10 = false := rfl
theorem fi_6_10 : ((clsN 6).2.1 10).2.2.2 = false := rfl
theorem nr_6_10 (x : Int32) : nar (some (cTy 6 10)) x = True := rfl
theorem rp_6_11 : rp 6 11 = false := rfl
theorem fi_6_11 : ((clsN 6).2.1 11).2.2.2 = false := rfl
theorem nr_6_11 (x : Int32) : nar (some (cTy 6 11)) x = True := rfl
theorem rp_6_12 : rp 6 12 = false := rfl
theorem fi_6_12 : ((clsN 6).2.1 12).2.2.2 = false := rfl
theorem nr_6_12 (x : Int32) : nar (some (cTy 6 12)) x = True := rfl
theorem rp_6_13 : rp 6 13 = false := rfl
theorem fi_6_13 : ((clsN 6).2.1 13).2.2.2 = false := rfl
theorem nr_6_13 (x : Int32) : nar (some (cTy 6 13)) x = True := rfl
theorem rp_6_14 : rp 6 14 = false := rfl
theorem fi_6_14 : ((clsN 6).2.1 14).2.2.2 = false := rfl
theorem nr_6_14 (x : Int32) : nar (some (cTy 6 14)) x = True := rfl
theorem rp_7_0 : rp 7 0 = true := rfl
theorem rp_7_1 : rp 7 1 = false := rfl
theorem fi_7_1 : ((clsN 7).2.1 1).2.2.2 = false := rfl
theorem nr_7_1 (x : Int32) : nar (some (cTy 7 1)) x = True := rfl
theorem rp_7_2 : rp 7 2 = false := rfl
theorem fi_7_2 : ((clsN 7).2.1 2).2.2.2 = false := rfl
theorem nr_7_2 (x : Int32) : nar (some (cTy 7 2)) x = (x = 0 ∨ x = 1) := rfl
theorem rp_8_0 : rp 8 0 = true := rfl
theorem rp_8_1 : rp 8 1 = true := rfl
theorem rp_8_2 : rp 8 2 = false := rfl
theorem fi_8_2 : ((clsN 8).2.1 2).2.2.2 = false := rfl
theorem nr_8_2 (x : Int32) : nar (some (cTy 8 2)) x = True := rfl
theorem rp_8_3 : rp 8 3 = false := rfl
theorem fi_8_3 : ((clsN 8).2.1 3).2.2.2 = false := rfl
theorem nr_8_3 (x : Int32) : nar (some (cTy 8 3)) x = True := rfl
theorem rp_9_0 : rp 9 0 = false := rfl
theorem fi_9_0 : ((clsN 9).2.1 0).2.2.2 = true := rfl
theorem nr_9_0 (x : Int32) : nar (some (cTy 9 0)) x = True := rfl
theorem rp_9_1 : rp 9 1 = false := rfl
theorem fi_9_1 : ((clsN 9).2.1 1).2.2.2 = true := rfl
theorem nr_9_1 (x : Int32) : nar (some (cTy 9 1)) x = True := rfl
theorem rp_9_2 : rp 9 2 = false := rfl
theorem fi_9_2 : ((clsN 9).2.1 2).2.2.2 = true := rfl
theorem nr_9_2 (x : Int32) : nar (some (cTy 9 2)) x = True := rfl
theorem rp_9_3 : rp 9 3 = true := rfl
theorem rp_9_4 : rp 9 4 = false := rfl
theorem fi_9_4 : ((clsN 9).2.1 4).2.2.2 = false := rfl
theorem nr_9_4 (x : Int32) : nar (some (cTy 9 4)) x = True := rfl
theorem rp_10_0 : rp 10 0 = false := rfl
theorem fi_10_0 : ((clsN 10).2.1 0).2.2.2 = true := rfl
theorem nr_10_0 (x : Int32) : nar (some (cTy 10 0)) x = True := rfl
theorem rp_10_1 : rp 10 1 = false := rfl
theorem fi_10_1 : ((clsN 10).2.1 1).2.2.2 = true := rfl
theorem nr_10_1 (x : Int32) : nar (some (cTy 10 1)) x = True := rfl
theorem rp_10_2 : rp 10 2 = true := rfl
theorem rp_10_3 : rp 10 3 = false := rfl
theorem fi_10_3 : ((clsN 10).2.1 3).2.2.2 = false := rfl
theorem nr_10_3 (x : Int32) : nar (some (cTy 10 3)) x = True := rfl
theorem rp_10_4 : rp 10 4 = false := rfl
theorem fi_10_4 : ((clsN 10).2.1 4).2.2.2 = false := rfl
theorem nr_10_4 (x : Int32) : nar (some (cTy 10 4)) x = True := rfl
theorem rp_10_5 : rp 10 5 = false := rfl
theorem fi_10_5 : ((clsN 10).2.1 5).2.2.2 = false := rfl
theorem nr_10_5 (x : Int32) : nar (some (cTy 10 5)) x = True := rfl
theorem rp_10_6 : rp 10 6 = false := rfl
theorem fi_10_6 : ((clsN 10).2.1 6).2.2.2 = false := rfl
theorem nr_10_6 (x : Int32) : nar (some (cTy 10 6)) x = True := rfl
theorem rp_10_7 : rp 10 7 = false := rfl
theorem fi_10_7 : ((clsN 10).2.1 7).2.2.2 = false := rfl
theorem nr_10_7 (x : Int32) : nar (some (cTy 10 7)) x = True := rfl
theorem rp_10_8 : rp 10 8 = false := rfl
theorem fi_10_8 : ((clsN 10).2.1 8).2.2.2 = false := rfl
theorem nr_10_8 (x : Int32) : nar (some (cTy 10 8)) x = True := rfl
theorem rp_10_9 : rp 10 9 = false := rfl
theorem fi_10_9 : ((clsN 10).2.1 9).2.2.2 = false := rfl
theorem nr_10_9 (x : Int32) : nar (some (cTy 10 9)) x = True := rfl
theorem rp_10_10 : rp 10 10 = false := rfl
theorem fi_10_10 : ((clsN 10).2.1 10).2.2.2 = false := rfl
theorem nr_10_10 (x : Int32) : nar (some (cTy 10 10)) x = (x = 0 ∨ x = 1) := rfl
theorem rp_11_0 : rp 11 0 = true := rfl
theorem rp_11_1 : rp 11 1 = true := rfl
theorem rp_11_2 : rp 11 2 = false := rfl
theorem fi_11_2 : ((clsN 11).2.1 2).2.2.2 = false := rfl
theorem nr_11_2 (x : Int32) : nar (some (cTy 11 2)) x = True := rfl
theorem rp_11_3 : rp 11 3 = false := rfl
theorem fi_11_3 : ((clsN 11).2.1 3).2.2.2 = false := rfl
theorem nr_11_3 (x : Int32) : nar (some (cTy 11 3)) x = True := rfl
theorem rp_11_4 : rp 11 4 = false := rfl
theorem fi_11_4 : ((clsN 11).2.1 4).2.2.2 = false := rfl
theorem nr_11_4 (x : Int32) : nar (some (cTy 11 4)) x = True := rfl
theorem rp_11_5 : rp 11 5 = false := rfl
theorem fi_11_5 : ((clsN 11).2.1 5).2.2.2 = false := rfl
theorem nr_11_5 (x : Int32) : nar (some (cTy 11 5)) x = True := rfl
theorem rp_11_6 : rp 11 6 = false := rfl
theorem fi_11_6 : ((clsN 11).2.1 6).2.2.2 = false := rfl
theorem nr_11_6 (x : Int32) : nar (some (cTy 11 6)) x = True := rfl
theorem rp_11_7 : rp 11 7 = false := rfl
theorem fi_11_7 : ((clsN 11).2.1 7).2.2.2 = false := rfl
theorem nr_11_7 (x : Int32) : nar (some (cTy 11 7)) x = True := rfl
theorem rp_11_8 : rp 11 8 = false := rfl
theorem fi_11_8 : ((clsN 11).2.1 8).2.2.2 = false := rfl
theorem nr_11_8 (x : Int32) : nar (some (cTy 11 8)) x = True := rfl
theorem rp_11_9 : rp 11 9 = false := rfl
theorem fi_11_9 : ((clsN 11).2.1 9).2.2.2 = false := rfl
theorem nr_11_9 (x : Int32) : nar (some (cTy 11 9)) x = (x = 0 ∨ x = 1) := rfl
theorem rp_11_10 : rp 11 10 = false := rfl
theorem fi_11_10 : ((clsN 11).2.1 10).2.2.2 = false := rfl
theorem nr_11_10 (x : Int32) : nar (some (cTy 11 10)) x = True := rfl
theorem rp_12_0 : rp 12 0 = false := rfl
theorem fi_12_0 : ((clsN 12).2.1 0).2.2.2 = true := rfl
theorem nr_12_0 (x : Int32) : nar (some (cTy 12 0)) x = True := rfl
theorem rp_12_1 : rp 12 1 = false := rfl
theorem fi_12_1 : ((clsN 12).2.1 1).2.2.2 = true := rfl
theorem nr_12_1 (x : Int32) : nar (some (cTy 12 1)) x = True := rfl
theorem rp_12_2 : rp 12 2 = true := rfl
theorem rp_12_3 : rp 12 3 = true := rfl
theorem rp_12_4 : rp 12 4 = true := rfl
theorem rp_12_5 : rp 12 5 = true := rfl
theorem rp_12_6 : rp 12 6 = false := rfl
theorem fi_12_6 : ((clsN 12).2.1 6).2.2.2 = false := rfl
theorem nr_12_6 (x : Int32) : nar (some (cTy 12 6)) x = True := rfl
theorem rp_12_7 : rp 12 7 = false := rfl
theorem fi_12_7 : ((clsN 12).2.1 7).2.2.2 = false := rfl
theorem nr_12_7 (x : Int32) : nar (some (cTy 12 7)) x = True := rfl
theorem rp_12_8 : rp 12 8 = false := rfl
theorem fi_12_8 : ((clsN 12).2.1 8).2.2.2 = false := rfl
theorem nr_12_8 (x : Int32) : nar (some (cTy 12 8)) x = True := rfl
theorem rp_13_0 : rp 13 0 = false := rfl
theorem fi_13_0 : ((clsN 13).2.1 0).2.2.2 = false := rfl
theorem nr_13_0 (x : Int32) : nar (some (cTy 13 0)) x = True := rfl
theorem rp_13_1 : rp 13 1 = true := rfl
theorem rp_13_2 : rp 13 2 = false := rfl
theorem fi_13_2 : ((clsN 13).2.1 2).2.2.2 = false := rfl
theorem nr_13_2 (x : Int32) : nar (some (cTy 13 2)) x = True := rfl
theorem rp_13_3 : rp 13 3 = false := rfl
theorem fi_13_3 : ((clsN 13).2.1 3).2.2.2 = false := rfl
theorem nr_13_3 (x : Int32) : nar (some (cTy 13 3)) x = True := rfl
theorem rp_13_4 : rp 13 4 = true := rfl
theorem rp_13_5 : rp 13 5 = true := rfl
theorem rp_13_6 : rp 13 6 = false := rfl
theorem fi_13_6 : ((clsN 13).2.1 6).2.2.2 = false := rfl
theorem nr_13_6 (x : Int32) : nar (some (cTy 13 6)) x = True := rfl
theorem rp_13_7 : rp 13 7 = true := rfl
theorem rp_13_8 : rp 13 8 = true := rfl
theorem rp_13_9 : rp 13 9 = true := rfl
theorem rp_13_10 : rp 13 10 = true := rfl
theorem rp_13_11 : rp 13 11 = true := rfl
theorem rp_13_12 : rp 13 12 = false := rfl
theorem fi_13_12 : ((clsN 13).2.1 12).2.2.2 = false := rfl
theorem nr_13_12 (x : Int32) : nar (some (cTy 13 12)) x = True := rfl
theorem rp_13_13 : rp 13 13 = false := rfl
theorem fi_13_13 : ((clsN 13).2.1 13).2.2.2 = false := rfl
theorem nr_13_13 (x : Int32) : nar (some (cTy 13 13)) x = True := rfl
theorem rp_13_14 : rp 13 14 = true := rfl
theorem rp_13_15 : rp 13 15 = true := rfl
theorem rp_13_16 : rp 13 16 = true := rfl
theorem rp_13_17 : rp 13 17 = false := rfl
theorem fi_13_17 : ((clsN 13).2.1 17).2.2.2 = false := rfl
theorem nr_13_17 (x : Int32) : nar (some (cTy 13 17)) x = True := rfl
theorem rp_13_18 : rp 13 18 = true := rfl
theorem rp_13_19 : rp 13 19 = true := rfl
theorem rp_13_20 : rp 13 20 = true := rfl
theorem rp_13_21 : rp 13 21 = true := rfl
theorem rp_13_22 : rp 13 22 = true := rfl
theorem rp_13_23 : rp 13 23 = true := rfl
theorem rp_13_24 : rp 13 24 = true := rfl
theorem rp_13_25 : rp 13 25 = true := rfl
theorem rp_13_26 : rp 13 26 = true := rfl
theorem rp_13_27 : rp 13 27 = true := rfl
theorem rp_13_28 : rp 13 28 = true := rfl
theorem rp_13_29 : rp 13 29 = true := rfl
theorem rp_13_30 : rp 13 30 = true := rfl
theorem rp_13_31 : rp 13 31 = true := rfl
theorem rp_13_32 : rp 13 32 = true := rfl
theorem rp_13_33 : rp 13 33 = true := rfl
theorem rp_13_34 : rp 13 34 = true := rfl
theorem rp_13_35 : rp 13 35 = true := rfl
theorem rp_13_36 : rp 13 36 = true := rfl
theorem rp_13_37 : rp 13 37 = true := rfl
theorem rp_13_38 : rp 13 38 = false := rfl
theorem fi_13_38 : ((clsN 13).2.1 38).2.2.2 = false := rfl
theorem nr_13_38 (x : Int32) : nar (some (cTy 13 38)) x = True := rfl
theorem rp_13_39 : rp 13 39 = true := rfl
theorem rp_13_40 : rp 13 40 = false := rfl
theorem fi_13_40 : ((clsN 13).2.1 40).2.2.2 = false := rfl
theorem nr_13_40 (x : Int32) : nar (some (cTy 13 40)) x = True := rfl
theorem rp_13_41 : rp 13 41 = true := rfl
theorem rp_13_42 : rp 13 42 = true := rfl
theorem rp_13_43 : rp 13 43 = true := rfl
theorem rp_13_44 : rp 13 44 = true := rfl
theorem rp_13_45 : rp 13 45 = false := rfl
theorem fi_13_45 : ((clsN 13).2.1 45).2.2.2 = false := rfl
theorem nr_13_45 (x : Int32) : nar (some (cTy 13 45)) x = True := rfl
theorem rp_13_46 : rp 13 46 = false := rfl
theorem fi_13_46 : ((clsN 13).2.1 46).2.2.2 = false := rfl
theorem nr_13_46 (x : Int32) : nar (some (cTy 13 46)) x = True := rfl
theorem rp_13_47 : rp 13 47 = false := rfl
theorem fi_13_47 : ((clsN 13).2.1 47).2.2.2 = false := rfl
theorem nr_13_47 (x : Int32) : nar (some (cTy 13 47)) x = True := rfl
theorem rp_13_48 : rp 13 48 = false := rfl
theorem fi_13_48 : ((clsN 13).2.1 48).2.2.2 = false := rfl
theorem nr_13_48 (x : Int32) : nar (some (cTy 13 48)) x = True := rfl
theorem rp_13_49 : rp 13 49 = true := rfl
theorem rp_13_50 : rp 13 50 = true := rfl
theorem rp_13_51 : rp 13 51 = true := rfl
theorem rp_13_52 : rp 13 52 = true := rfl
theorem rp_13_53 : rp 13 53 = true := rfl
theorem rp_13_54 : rp 13 54 = true := rfl
theorem rp_13_55 : rp 13 55 = true := rfl
theorem rp_13_56 : rp 13 56 = true := rfl
theorem rp_13_57 : rp 13 57 = true := rfl
theorem rp_13_58 : rp 13 58 = false := rfl
theorem fi_13_58 : ((clsN 13).2.1 58).2.2.2 = false := rfl
theorem nr_13_58 (x : Int32) : nar (some (cTy 13 58)) x = True := rfl
theorem rp_13_59 : rp 13 59 = true := rfl
theorem rp_13_60 : rp 13 60 = false := rfl
theorem fi_13_60 : ((clsN 13).2.1 60).2.2.2 = false := rfl
theorem nr_13_60 (x : Int32) : nar (some (cTy 13 60)) x = True := rfl
theorem rp_13_61 : rp 13 61 = false := rfl
theorem fi_13_61 : ((clsN 13).2.1 61).2.2.2 = false := rfl
theorem nr_13_61 (x : Int32) : nar (some (cTy 13 61)) x = True := rfl
theorem rp_13_62 : rp 13 62 = false := rfl
theorem fi_13_62 : ((clsN 13).2.1 62).2.2.2 = false := rfl
theorem nr_13_62 (x : Int32) : nar (some (cTy 13 62)) x = (x = 0 ∨ x = 1) := rfl
theorem rp_13_63 : rp 13 63 = false := rfl
theorem fi_13_63 : ((clsN 13).2.1 63).2.2.2 = false := rfl
theorem nr_13_63 (x : Int32) : nar (some (cTy 13 63)) x = True := rfl
theorem rp_13_64 : rp 13 64 = true := rfl
theorem rp_13_65 : rp 13 65 = true := rfl
theorem rp_13_66 : rp 13 66 = false := rfl
theorem fi_13_66 : ((clsN 13).2.1 66).2.2.2 = false := rfl
theorem nr_13_66 (x : Int32) : nar (some (cTy 13 66)) x = (x = 0 ∨ x = 1) := rfl
theorem rp_13_67 : rp 13 67 = false := rfl
theorem fi_13_67 : ((clsN 13).2.1 67).2.2.2 = false := rfl
theorem nr_13_67 (x : Int32) : nar (some (cTy 13 67)) x = True := rfl
theorem rp_13_68 : rp 13 68 = true := rfl
theorem mo_S_init : mOwn mS_init = "StockYard" := rfl
theorem cy_S_init : ((clsN 0).1 = (mY mS_init).cls) = True := eq_true rfl
theorem nv_S_init : (mR mS_init = none) = True := eq_true rfl
theorem mo_Jq_init : mOwn mJq_init = "java/lang/Object" := rfl
theorem nv_Jq_init : (mR mJq_init = none) = True := eq_true rfl
theorem mo_Y_init : mOwn mY_init = "StockYard$Yard" := rfl
theorem cy_Y_init : ((clsN 1).1 = (mY mY_init).cls) = True := eq_true rfl
theorem nv_Y_init : (mR mY_init = none) = True := eq_true rfl
theorem mo_L_init : mOwn mL_init = "java/util/ArrayList" := rfl
theorem cy_L_init : ((clsN 2).1 = (mY mL_init).cls) = True := eq_true rfl
theorem nv_L_init : (mR mL_init = none) = True := eq_true rfl
theorem mo_Ja_init : mOwn mJa_init = "java/util/AbstractList" := rfl
theorem nv_Ja_init : (mR mJa_init = none) = True := eq_true rfl
theorem mo_Jc_init : mOwn mJc_init = "java/util/AbstractCollection" := rfl
theorem nv_Jc_init : (mR mJc_init = none) = True := eq_true rfl
theorem mo_T_init : mOwn mT_init = "StockYard$Tape" := rfl
theorem cy_T_init : ((clsN 3).1 = (mY mT_init).cls) = True := eq_true rfl
theorem nv_T_init : (mR mT_init = none) = True := eq_true rfl
theorem mo_B_init : mOwn mB_init = "StockYard$RuleBook" := rfl
theorem cy_B_init : ((clsN 4).1 = (mY mB_init).cls) = True := eq_true rfl
theorem nv_B_init : (mR mB_init = none) = True := eq_true rfl
theorem mo_K_init : mOwn mK_init = "StockYard$MarkBook" := rfl
theorem cy_K_init : ((clsN 5).1 = (mY mK_init).cls) = True := eq_true rfl
theorem nv_K_init : (mR mK_init = none) = True := eq_true rfl
theorem mo_P_init : mOwn mP_init = "StockYard$Planner" := rfl
theorem cy_P_init : ((clsN 6).1 = (mY mP_init).cls) = True := eq_true rfl
theorem nv_P_init : (mR mP_init = none) = True := eq_true rfl
theorem mo_W_init : mOwn mW_init = "StockYard$Way" := rfl
theorem cy_W_init : ((clsN 8).1 = (mY mW_init).cls) = True := eq_true rfl
theorem nv_W_init : (mR mW_init = none) = True := eq_true rfl
theorem mo_R_init : mOwn mR_init = "StockYard$Row" := rfl
theorem cy_R_init : ((clsN 7).1 = (mY mR_init).cls) = True := eq_true rfl
theorem nv_R_init : (mR mR_init = none) = True := eq_true rfl
theorem mo_S_place : mOwn mS_place = "StockYard" := rfl
theorem cy_S_place : ((clsN 0).1 = (mY mS_place).cls) = True := eq_true rfl
theorem nv_S_place (x : Int32) : nar (mR mS_place) x = True := rfl
theorem mo_S_within : mOwn mS_within = "StockYard" := rfl
theorem cy_S_within : ((clsN 0).1 = (mY mS_within).cls) = True := eq_true rfl
theorem nv_S_within (x : Int32) : nar (mR mS_within) x = (x = 0 ∨ x = 1) := rfl
theorem mo_S_refuse : mOwn mS_refuse = "StockYard" := rfl
theorem cy_S_refuse : ((clsN 0).1 = (mY mS_refuse).cls) = True := eq_true rfl
theorem nv_S_refuse (x : Int32) : nar (mR mS_refuse) x = True := rfl
theorem mo_Y_addPlace : mOwn mY_addPlace = "StockYard$Yard" := rfl
theorem cy_Y_addPlace : ((clsN 1).1 = (mY mY_addPlace).cls) = True := eq_true rfl
theorem nv_Y_addPlace (x : Int32) : nar (mR mY_addPlace) x = True := rfl
theorem mo_S_alley : mOwn mS_alley = "StockYard" := rfl
theorem cy_S_alley : ((clsN 0).1 = (mY mS_alley).cls) = True := eq_true rfl
theorem nv_S_alley (x : Int32) : nar (mR mS_alley) x = True := rfl
theorem mo_Y_hasPlace : mOwn mY_hasPlace = "StockYard$Yard" := rfl
theorem cy_Y_hasPlace : ((clsN 1).1 = (mY mY_hasPlace).cls) = True := eq_true rfl
theorem nv_Y_hasPlace (x : Int32) : nar (mR mY_hasPlace) x = (x = 0 ∨ x = 1) := rfl
theorem mo_L_size : mOwn mL_size = "java/util/ArrayList" := rfl
theorem cy_L_size : ((clsN 2).1 = (mY mL_size).cls) = True := eq_true rfl
theorem nv_L_size (x : Int32) : nar (mR mL_size) x = True := rfl
theorem mo_Y_addAlley : mOwn mY_addAlley = "StockYard$Yard" := rfl
theorem cy_Y_addAlley : ((clsN 1).1 = (mY mY_addAlley).cls) = True := eq_true rfl
theorem nv_Y_addAlley (x : Int32) : nar (mR mY_addAlley) x = True := rfl
theorem mo_A_init : mOwn mA_init = "StockYard$Alley" := rfl
theorem cy_A_init : ((clsN 9).1 = (mY mA_init).cls) = True := eq_true rfl
theorem nv_A_init : (mR mA_init = none) = True := eq_true rfl
theorem mo_L_add1z : mOwn mL_add1z = "java/util/ArrayList" := rfl
theorem cy_L_add1z : ((clsN 2).1 = (mY mL_add1z).cls) = True := eq_true rfl
theorem nv_L_add1z (x : Int32) : nar (mR mL_add1z) x = (x = 0 ∨ x = 1) := rfl
theorem mo_L_add3v : mOwn mL_add3v = "java/util/ArrayList" := rfl
theorem cy_L_add3v : ((clsN 2).1 = (mY mL_add3v).cls) = True := eq_true rfl
theorem nv_L_add3v : (mR mL_add3v = none) = True := eq_true rfl
theorem mo_L_grow0 : mOwn mL_grow0 = "java/util/ArrayList" := rfl
theorem cy_L_grow0 : ((clsN 2).1 = (mY mL_grow0).cls) = True := eq_true rfl
theorem nv_L_grow0 : (mR mL_grow0).any rTy = true := rfl
theorem mo_L_grow1 : mOwn mL_grow1 = "java/util/ArrayList" := rfl
theorem cy_L_grow1 : ((clsN 2).1 = (mY mL_grow1).cls) = True := eq_true rfl
theorem nv_L_grow1 : (mR mL_grow1).any rTy = true := rfl
theorem mo_Jx_newLength : mOwn mJx_newLength = "jdk/internal/util/ArraysSupport" := rfl
theorem nv_Jx_newLength (x : Int32) : nar (mR mJx_newLength) x = True := rfl
theorem mo_Jm_max : mOwn mJm_max = "java/lang/Math" := rfl
theorem nv_Jm_max (x : Int32) : nar (mR mJm_max) x = True := rfl
theorem mo_Jx_hugeLength : mOwn mJx_hugeLength = "jdk/internal/util/ArraysSupport" := rfl
theorem nv_Jx_hugeLength (x : Int32) : nar (mR mJx_hugeLength) x = True := rfl
theorem mo_Jr_copyOf2 : mOwn mJr_copyOf2 = "java/util/Arrays" := rfl
theorem nv_Jr_copyOf2 : (mR mJr_copyOf2).any rTy = true := rfl
theorem mo_Jr_copyOf3 : mOwn mJr_copyOf3 = "java/util/Arrays" := rfl
theorem nv_Jr_copyOf3 : (mR mJr_copyOf3).any rTy = true := rfl
theorem mo_Jm_min : mOwn mJm_min = "java/lang/Math" := rfl
theorem nv_Jm_min (x : Int32) : nar (mR mJm_min) x = True := rfl
theorem mo_Y_minutesBetween : mOwn mY_minutesBetween = "StockYard$Yard" := rfl
theorem cy_Y_minutesBetween : ((clsN 1).1 = (mY mY_minutesBetween).cls) = True := eq_true rfl
theorem nv_Y_minutesBetween (x : Int32) : nar (mR mY_minutesBetween) x = True := rfl
theorem mo_S_way : mOwn mS_way = "StockYard" := rfl
theorem cy_S_way : ((clsN 0).1 = (mY mS_way).cls) = True := eq_true rfl
theorem nv_S_way (x : Int32) : nar (mR mS_way) x = True := rfl
theorem mo_Y_find : mOwn mY_find = "StockYard$Yard" := rfl
theorem cy_Y_find : ((clsN 1).1 = (mY mY_find).cls) = True := eq_true rfl
theorem nv_Y_find (x : Int32) : nar (mR mY_find) x = (x = 0 ∨ x = 1) := rfl
theorem mo_W_clear : mOwn mW_clear = "StockYard$Way" := rfl
theorem cy_W_clear : ((clsN 8).1 = (mY mW_clear).cls) = True := eq_true rfl
theorem nv_W_clear : (mR mW_clear = none) = True := eq_true rfl
theorem mo_Y_leastAlleyToward : mOwn mY_leastAlleyToward = "StockYard$Yard" := rfl
theorem cy_Y_leastAlleyToward : ((clsN 1).1 = (mY mY_leastAlleyToward).cls) = True := eq_true rfl
theorem nv_Y_leastAlleyToward (x : Int32) : nar (mR mY_leastAlleyToward) x = True := rfl
theorem mo_L_get : mOwn mL_get = "java/util/ArrayList" := rfl
theorem cy_L_get : ((clsN 2).1 = (mY mL_get).cls) = True := eq_true rfl
theorem nv_L_get : (mR mL_get).any rTy = true := rfl
theorem mo_Jo_checkIndex : mOwn mJo_checkIndex = "java/util/Objects" := rfl
theorem nv_Jo_checkIndex (x : Int32) : nar (mR mJo_checkIndex) x = True := rfl
theorem mo_Jp_checkIndex : mOwn mJp_checkIndex = "jdk/internal/util/Preconditions" := rfl
theorem nv_Jp_checkIndex (x : Int32) : nar (mR mJp_checkIndex) x = True := rfl
theorem mo_L_elementData : mOwn mL_elementData = "java/util/ArrayList" := rfl
theorem cy_L_elementData : ((clsN 2).1 = (mY mL_elementData).cls) = True := eq_true rfl
theorem nv_L_elementData : (mR mL_elementData).any rTy = true := rfl
theorem mo_A_touches : mOwn mA_touches = "StockYard$Alley" := rfl
theorem cy_A_touches : ((clsN 9).1 = (mY mA_touches).cls) = True := eq_true rfl
theorem nv_A_touches (x : Int32) : nar (mR mA_touches) x = (x = 0 ∨ x = 1) := rfl
theorem mo_A_otherEnd : mOwn mA_otherEnd = "StockYard$Alley" := rfl
theorem cy_A_otherEnd : ((clsN 9).1 = (mY mA_otherEnd).cls) = True := eq_true rfl
theorem nv_A_otherEnd (x : Int32) : nar (mR mA_otherEnd) x = True := rfl
theorem mo_W_add : mOwn mW_add = "StockYard$Way" := rfl
theorem cy_W_add : ((clsN 8).1 = (mY mW_add).cls) = True := eq_true rfl
theorem nv_W_add : (mR mW_add = none) = True := eq_true rfl
theorem mo_S_by : mOwn mS_by = "StockYard" := rfl
theorem cy_S_by : ((clsN 0).1 = (mY mS_by).cls) = True := eq_true rfl
theorem nv_S_by (x : Int32) : nar (mR mS_by) x = True := rfl
theorem mo_W_alleyAt : mOwn mW_alleyAt = "StockYard$Way" := rfl
theorem cy_W_alleyAt : ((clsN 8).1 = (mY mW_alleyAt).cls) = True := eq_true rfl
theorem nv_W_alleyAt (x : Int32) : nar (mR mW_alleyAt) x = True := rfl
theorem mo_S_lot : mOwn mS_lot = "StockYard" := rfl
theorem cy_S_lot : ((clsN 0).1 = (mY mS_lot).cls) = True := eq_true rfl
theorem nv_S_lot (x : Int32) : nar (mR mS_lot) x = True := rfl
theorem mo_S_tellsOwner : mOwn mS_tellsOwner = "StockYard" := rfl
theorem cy_S_tellsOwner : ((clsN 0).1 = (mY mS_tellsOwner).cls) = True := eq_true rfl
theorem nv_S_tellsOwner (x : Int32) : nar (mR mS_tellsOwner) x = (x = 0 ∨ x = 1) := rfl
theorem mo_S_isOwner : mOwn mS_isOwner = "StockYard" := rfl
theorem cy_S_isOwner : ((clsN 0).1 = (mY mS_isOwner).cls) = True := eq_true rfl
theorem nv_S_isOwner (x : Int32) : nar (mR mS_isOwner) x = (x = 0 ∨ x = 1) := rfl
theorem mo_Y_kindOf : mOwn mY_kindOf = "StockYard$Yard" := rfl
theorem cy_Y_kindOf : ((clsN 1).1 = (mY mY_kindOf).cls) = True := eq_true rfl
theorem nv_Y_kindOf (x : Int32) : nar (mR mY_kindOf) x = True := rfl
theorem mo_S_tellsHeads : mOwn mS_tellsHeads = "StockYard" := rfl
theorem cy_S_tellsHeads : ((clsN 0).1 = (mY mS_tellsHeads).cls) = True := eq_true rfl
theorem nv_S_tellsHeads (x : Int32) : nar (mR mS_tellsHeads) x = (x = 0 ∨ x = 1) := rfl
theorem mo_S_isMark : mOwn mS_isMark = "StockYard" := rfl
theorem cy_S_isMark : ((clsN 0).1 = (mY mS_isMark).cls) = True := eq_true rfl
theorem nv_S_isMark (x : Int32) : nar (mR mS_isMark) x = (x = 0 ∨ x = 1) := rfl
theorem mo_S_hasLot : mOwn mS_hasLot = "StockYard" := rfl
theorem cy_S_hasLot : ((clsN 0).1 = (mY mS_hasLot).cls) = True := eq_true rfl
theorem nv_S_hasLot (x : Int32) : nar (mR mS_hasLot) x = (x = 0 ∨ x = 1) := rfl
theorem mo_O_init : mOwn mO_init = "StockYard$Lot" := rfl
theorem cy_O_init : ((clsN 10).1 = (mY mO_init).cls) = True := eq_true rfl
theorem nv_O_init : (mR mO_init = none) = True := eq_true rfl
theorem mo_E_init : mOwn mE_init = "StockYard$Sale" := rfl
theorem cy_E_init : ((clsN 11).1 = (mY mE_init).cls) = True := eq_true rfl
theorem nv_E_init : (mR mE_init = none) = True := eq_true rfl
theorem mo_S_admit : mOwn mS_admit = "StockYard" := rfl
theorem cy_S_admit : ((clsN 0).1 = (mY mS_admit).cls) = True := eq_true rfl
theorem nv_S_admit (x : Int32) : nar (mR mS_admit) x = True := rfl
theorem mo_S_sort : mOwn mS_sort = "StockYard" := rfl
theorem cy_S_sort : ((clsN 0).1 = (mY mS_sort).cls) = True := eq_true rfl
theorem nv_S_sort (x : Int32) : nar (mR mS_sort) x = True := rfl
theorem mo_S_lotAt : mOwn mS_lotAt = "StockYard" := rfl
theorem cy_S_lotAt : ((clsN 0).1 = (mY mS_lotAt).cls) = True := eq_true rfl
theorem nv_S_lotAt : (mR mS_lotAt).any rTy = true := rfl
theorem mo_S_isIn : mOwn mS_isIn = "StockYard" := rfl
theorem cy_S_isIn : ((clsN 0).1 = (mY mS_isIn).cls) = True := eq_true rfl
theorem nv_S_isIn (x : Int32) : nar (mR mS_isIn) x = (x = 0 ∨ x = 1) := rfl
theorem mo_S_look : mOwn mS_look = "StockYard" := rfl
theorem cy_S_look : ((clsN 0).1 = (mY mS_look).cls) = True := eq_true rfl
theorem nv_S_look (x : Int32) : nar (mR mS_look) x = True := rfl
theorem mo_O_thirst : mOwn mO_thirst = "StockYard$Lot" := rfl
theorem cy_O_thirst : ((clsN 10).1 = (mY mO_thirst).cls) = True := eq_true rfl
theorem nv_O_thirst (x : Int32) : nar (mR mO_thirst) x = True := rfl
theorem mo_B_isDry : mOwn mB_isDry = "StockYard$RuleBook" := rfl
theorem cy_B_isDry : ((clsN 4).1 = (mY mB_isDry).cls) = True := eq_true rfl
theorem nv_B_isDry (x : Int32) : nar (mR mB_isDry) x = (x = 0 ∨ x = 1) := rfl
theorem mo_B_saying : mOwn mB_saying = "StockYard$RuleBook" := rfl
theorem cy_B_saying : ((clsN 4).1 = (mY mB_saying).cls) = True := eq_true rfl
theorem nv_B_saying (x : Int32) : nar (mR mB_saying) x = True := rfl
theorem mo_U_appliesTo : mOwn mU_appliesTo = "StockYard$Rule" := rfl
theorem cy_U_appliesTo : ((clsN 12).1 = (mY mU_appliesTo).cls) = True := eq_true rfl
theorem nv_U_appliesTo (x : Int32) : nar (mR mU_appliesTo) x = (x = 0 ∨ x = 1) := rfl
theorem mo_U_isMet : mOwn mU_isMet = "StockYard$Rule" := rfl
theorem cy_U_isMet : ((clsN 12).1 = (mY mU_isMet).cls) = True := eq_true rfl
theorem nv_U_isMet (x : Int32) : nar (mR mU_isMet) x = (x = 0 ∨ x = 1) := rfl
theorem mo_U_valueOf : mOwn mU_valueOf = "StockYard$Rule" := rfl
theorem cy_U_valueOf : ((clsN 12).1 = (mY mU_valueOf).cls) = True := eq_true rfl
theorem nv_U_valueOf (x : Int32) : nar (mR mU_valueOf) x = True := rfl
theorem mo_S_isInDoubt : mOwn mS_isInDoubt = "StockYard" := rfl
theorem cy_S_isInDoubt : ((clsN 0).1 = (mY mS_isInDoubt).cls) = True := eq_true rfl
theorem nv_S_isInDoubt (x : Int32) : nar (mR mS_isInDoubt) x = (x = 0 ∨ x = 1) := rfl
theorem mo_K_doubt : mOwn mK_doubt = "StockYard$MarkBook" := rfl
theorem cy_K_doubt : ((clsN 5).1 = (mY mK_doubt).cls) = True := eq_true rfl
theorem nv_K_doubt (x : Int32) : nar (mR mK_doubt) x = (x = 0 ∨ x = 1) := rfl
theorem mo_K_ownerOf : mOwn mK_ownerOf = "StockYard$MarkBook" := rfl
theorem cy_K_ownerOf : ((clsN 5).1 = (mY mK_ownerOf).cls) = True := eq_true rfl
theorem nv_K_ownerOf (x : Int32) : nar (mR mK_ownerOf) x = True := rfl
theorem mo_K_areNear : mOwn mK_areNear = "StockYard$MarkBook" := rfl
theorem cy_K_areNear : ((clsN 5).1 = (mY mK_areNear).cls) = True := eq_true rfl
theorem nv_K_areNear (x : Int32) : nar (mR mK_areNear) x = (x = 0 ∨ x = 1) := rfl
theorem mo_S_drive : mOwn mS_drive = "StockYard" := rfl
theorem cy_S_drive : ((clsN 0).1 = (mY mS_drive).cls) = True := eq_true rfl
theorem nv_S_drive (x : Int32) : nar (mR mS_drive) x = True := rfl
theorem mo_S_mayBeDriven : mOwn mS_mayBeDriven = "StockYard" := rfl
theorem cy_S_mayBeDriven : ((clsN 0).1 = (mY mS_mayBeDriven).cls) = True := eq_true rfl
theorem nv_S_mayBeDriven (x : Int32) : nar (mR mS_mayBeDriven) x = (x = 0 ∨ x = 1) := rfl
theorem mo_O_isOnWay : mOwn mO_isOnWay = "StockYard$Lot" := rfl
theorem cy_O_isOnWay : ((clsN 10).1 = (mY mO_isOnWay).cls) = True := eq_true rfl
theorem nv_O_isOnWay (x : Int32) : nar (mR mO_isOnWay) x = (x = 0 ∨ x = 1) := rfl
theorem mo_Y_firstFree : mOwn mY_firstFree = "StockYard$Yard" := rfl
theorem cy_Y_firstFree : ((clsN 1).1 = (mY mY_firstFree).cls) = True := eq_true rfl
theorem nv_Y_firstFree (x : Int32) : nar (mR mY_firstFree) x = True := rfl
theorem mo_Y_putOff : mOwn mY_putOff = "StockYard$Yard" := rfl
theorem cy_Y_putOff : ((clsN 1).1 = (mY mY_putOff).cls) = True := eq_true rfl
theorem nv_Y_putOff (x : Int32) : nar (mR mY_putOff) x = True := rfl
theorem mo_W_aheadOf : mOwn mW_aheadOf = "StockYard$Way" := rfl
theorem cy_W_aheadOf : ((clsN 8).1 = (mY mW_aheadOf).cls) = True := eq_true rfl
theorem nv_W_aheadOf (x : Int32) : nar (mR mW_aheadOf) x = True := rfl
theorem mo_A_freeFrom : mOwn mA_freeFrom = "StockYard$Alley" := rfl
theorem cy_A_freeFrom : ((clsN 9).1 = (mY mA_freeFrom).cls) = True := eq_true rfl
theorem nv_A_freeFrom (x : Int32) : nar (mR mA_freeFrom) x = True := rfl
theorem mo_A_meets : mOwn mA_meets = "StockYard$Alley" := rfl
theorem cy_A_meets : ((clsN 9).1 = (mY mA_meets).cls) = True := eq_true rfl
theorem nv_A_meets (x : Int32) : nar (mR mA_meets) x = True := rfl
theorem mo_Y_take : mOwn mY_take = "StockYard$Yard" := rfl
theorem cy_Y_take : ((clsN 1).1 = (mY mY_take).cls) = True := eq_true rfl
theorem nv_Y_take : (mR mY_take = none) = True := eq_true rfl
theorem mo_A_take : mOwn mA_take = "StockYard$Alley" := rfl
theorem cy_A_take : ((clsN 9).1 = (mY mA_take).cls) = True := eq_true rfl
theorem nv_A_take : (mR mA_take = none) = True := eq_true rfl
theorem mo_O_leave : mOwn mO_leave = "StockYard$Lot" := rfl
theorem cy_O_leave : ((clsN 10).1 = (mY mO_leave).cls) = True := eq_true rfl
theorem nv_O_leave : (mR mO_leave = none) = True := eq_true rfl
theorem mo_S_water : mOwn mS_water = "StockYard" := rfl
theorem cy_S_water : ((clsN 0).1 = (mY mS_water).cls) = True := eq_true rfl
theorem nv_S_water (x : Int32) : nar (mR mS_water) x = True := rfl
theorem mo_S_hold : mOwn mS_hold = "StockYard" := rfl
theorem cy_S_hold : ((clsN 0).1 = (mY mS_hold).cls) = True := eq_true rfl
theorem nv_S_hold (x : Int32) : nar (mR mS_hold) x = True := rfl
theorem mo_E_isSold : mOwn mE_isSold = "StockYard$Sale" := rfl
theorem cy_E_isSold : ((clsN 11).1 = (mY mE_isSold).cls) = True := eq_true rfl
theorem nv_E_isSold (x : Int32) : nar (mR mE_isSold) x = (x = 0 ∨ x = 1) := rfl
theorem mo_S_plan : mOwn mS_plan = "StockYard" := rfl
theorem cy_S_plan : ((clsN 0).1 = (mY mS_plan).cls) = True := eq_true rfl
theorem nv_S_plan (x : Int32) : nar (mR mS_plan) x = True := rfl
theorem mo_S_arePens : mOwn mS_arePens = "StockYard" := rfl
theorem cy_S_arePens : ((clsN 0).1 = (mY mS_arePens).cls) = True := eq_true rfl
theorem nv_S_arePens (x : Int32) : nar (mR mS_arePens) x = (x = 0 ∨ x = 1) := rfl
theorem mo_S_inSet : mOwn mS_inSet = "StockYard" := rfl
theorem cy_S_inSet : ((clsN 0).1 = (mY mS_inSet).cls) = True := eq_true rfl
theorem nv_S_inSet (x : Int32) : nar (mR mS_inSet) x = (x = 0 ∨ x = 1) := rfl
theorem mo_Ji_bitCount : mOwn mJi_bitCount = "java/lang/Integer" := rfl
theorem nv_Ji_bitCount (x : Int32) : nar (mR mJi_bitCount) x = True := rfl
theorem mo_S_mayAllBeDriven : mOwn mS_mayAllBeDriven = "StockYard" := rfl
theorem cy_S_mayAllBeDriven : ((clsN 0).1 = (mY mS_mayAllBeDriven).cls) = True := eq_true rfl
theorem nv_S_mayAllBeDriven (x : Int32) : nar (mR mS_mayAllBeDriven) x = (x = 0 ∨ x = 1) := rfl
theorem mo_S_hasLotInOne : mOwn mS_hasLotInOne = "StockYard" := rfl
theorem cy_S_hasLotInOne : ((clsN 0).1 = (mY mS_hasLotInOne).cls) = True := eq_true rfl
theorem nv_S_hasLotInOne (x : Int32) : nar (mR mS_hasLotInOne) x = (x = 0 ∨ x = 1) := rfl
theorem mo_S_readyPlanner : mOwn mS_readyPlanner = "StockYard" := rfl
theorem cy_S_readyPlanner : ((clsN 0).1 = (mY mS_readyPlanner).cls) = True := eq_true rfl
theorem nv_S_readyPlanner : (mR mS_readyPlanner = none) = True := eq_true rfl
theorem mo_P_clear : mOwn mP_clear = "StockYard$Planner" := rfl
theorem cy_P_clear : ((clsN 6).1 = (mY mP_clear).cls) = True := eq_true rfl
theorem nv_P_clear : (mR mP_clear = none) = True := eq_true rfl
theorem mo_P_addPen : mOwn mP_addPen = "StockYard$Planner" := rfl
theorem cy_P_addPen : ((clsN 6).1 = (mY mP_addPen).cls) = True := eq_true rfl
theorem nv_P_addPen : (mR mP_addPen = none) = True := eq_true rfl
theorem mo_P_addLot : mOwn mP_addLot = "StockYard$Planner" := rfl
theorem cy_P_addLot : ((clsN 6).1 = (mY mP_addLot).cls) = True := eq_true rfl
theorem nv_P_addLot : (mR mP_addLot = none) = True := eq_true rfl
theorem mo_P_search : mOwn mP_search = "StockYard$Planner" := rfl
theorem cy_P_search : ((clsN 6).1 = (mY mP_search).cls) = True := eq_true rfl
theorem nv_P_search (x : Int32) : nar (mR mP_search) x = (x = 0 ∨ x = 1) := rfl
theorem mo_P_tell : mOwn mP_tell = "StockYard$Planner" := rfl
theorem cy_P_tell : ((clsN 6).1 = (mY mP_tell).cls) = True := eq_true rfl
theorem nv_P_tell : (mR mP_tell = none) = True := eq_true rfl
theorem mo_P_keep : mOwn mP_keep = "StockYard$Planner" := rfl
theorem cy_P_keep : ((clsN 6).1 = (mY mP_keep).cls) = True := eq_true rfl
theorem nv_P_keep : (mR mP_keep = none) = True := eq_true rfl
theorem mo_P_tellOne : mOwn mP_tellOne = "StockYard$Planner" := rfl
theorem cy_P_tellOne : ((clsN 6).1 = (mY mP_tellOne).cls) = True := eq_true rfl
theorem nv_P_tellOne : (mR mP_tellOne = none) = True := eq_true rfl
theorem mo_Y_giveBack : mOwn mY_giveBack = "StockYard$Yard" := rfl
theorem cy_Y_giveBack : ((clsN 1).1 = (mY mY_giveBack).cls) = True := eq_true rfl
theorem nv_Y_giveBack : (mR mY_giveBack = none) = True := eq_true rfl
theorem mo_A_giveBack : mOwn mA_giveBack = "StockYard$Alley" := rfl
theorem cy_A_giveBack : ((clsN 9).1 = (mY mA_giveBack).cls) = True := eq_true rfl
theorem nv_A_giveBack : (mR mA_giveBack = none) = True := eq_true rfl
theorem mo_S_planned : mOwn mS_planned = "StockYard" := rfl
theorem cy_S_planned : ((clsN 0).1 = (mY mS_planned).cls) = True := eq_true rfl
theorem nv_S_planned (x : Int32) : nar (mR mS_planned) x = True := rfl
theorem mo_P_plannedLot : mOwn mP_plannedLot = "StockYard$Planner" := rfl
theorem cy_P_plannedLot : ((clsN 6).1 = (mY mP_plannedLot).cls) = True := eq_true rfl
theorem nv_P_plannedLot (x : Int32) : nar (mR mP_plannedLot) x = True := rfl
theorem mo_P_plannedPen : mOwn mP_plannedPen = "StockYard$Planner" := rfl
theorem cy_P_plannedPen : ((clsN 6).1 = (mY mP_plannedPen).cls) = True := eq_true rfl
theorem nv_P_plannedPen (x : Int32) : nar (mR mP_plannedPen) x = True := rfl
theorem mo_S_feed : mOwn mS_feed = "StockYard" := rfl
theorem cy_S_feed : ((clsN 0).1 = (mY mS_feed).cls) = True := eq_true rfl
theorem nv_S_feed (x : Int32) : nar (mR mS_feed) x = True := rfl
theorem mo_T_add : mOwn mT_add = "StockYard$Tape" := rfl
theorem cy_T_add : ((clsN 3).1 = (mY mT_add).cls) = True := eq_true rfl
theorem nv_T_add : (mR mT_add = none) = True := eq_true rfl
theorem mo_S_wipe : mOwn mS_wipe = "StockYard" := rfl
theorem cy_S_wipe : ((clsN 0).1 = (mY mS_wipe).cls) = True := eq_true rfl
theorem nv_S_wipe (x : Int32) : nar (mR mS_wipe) x = True := rfl
theorem mo_S_rule : mOwn mS_rule = "StockYard" := rfl
theorem cy_S_rule : ((clsN 0).1 = (mY mS_rule).cls) = True := eq_true rfl
theorem nv_S_rule (x : Int32) : nar (mR mS_rule) x = True := rfl
theorem mo_U_init : mOwn mU_init = "StockYard$Rule" := rfl
theorem cy_U_init : ((clsN 12).1 = (mY mU_init).cls) = True := eq_true rfl
theorem nv_U_init : (mR mU_init = none) = True := eq_true rfl
theorem mo_T_readRule : mOwn mT_readRule = "StockYard$Tape" := rfl
theorem cy_T_readRule : ((clsN 3).1 = (mY mT_readRule).cls) = True := eq_true rfl
theorem nv_T_readRule (x : Int32) : nar (mR mT_readRule) x = (x = 0 ∨ x = 1) := rfl
theorem mo_T_readWord : mOwn mT_readWord = "StockYard$Tape" := rfl
theorem cy_T_readWord : ((clsN 3).1 = (mY mT_readWord).cls) = True := eq_true rfl
theorem nv_T_readWord (x : Int32) : nar (mR mT_readWord) x = True := rfl
theorem mo_T_keyName : mOwn mT_keyName = "StockYard$Tape" := rfl
theorem cy_T_keyName : ((clsN 3).1 = (mY mT_keyName).cls) = True := eq_true rfl
theorem nv_T_keyName : (mR mT_keyName).any rTy = true := rfl
theorem mo_T_fieldName : mOwn mT_fieldName = "StockYard$Tape" := rfl
theorem cy_T_fieldName : ((clsN 3).1 = (mY mT_fieldName).cls) = True := eq_true rfl
theorem nv_T_fieldName : (mR mT_fieldName).any rTy = true := rfl
theorem mo_Js_charAt : mOwn mJs_charAt = "java/lang/String" := rfl
theorem nv_Js_charAt (x : Int32) : nar (mR mJs_charAt) x = (0 ≤ x ∧ x ≤ 255) := rfl
theorem mo_Js_isLatin1 : mOwn mJs_isLatin1 = "java/lang/String" := rfl
theorem nv_Js_isLatin1 (x : Int32) : nar (mR mJs_isLatin1) x = (x = 0 ∨ x = 1) := rfl
theorem mo_Jl_charAt : mOwn mJl_charAt = "java/lang/StringLatin1" := rfl
theorem nv_Jl_charAt (x : Int32) : nar (mR mJl_charAt) x = (0 ≤ x ∧ x ≤ 255) := rfl
theorem mo_Js_checkIndex : mOwn mJs_checkIndex = "java/lang/String" := rfl
theorem nv_Js_checkIndex : (mR mJs_checkIndex = none) = True := eq_true rfl
theorem mo_Ju_charAt : mOwn mJu_charAt = "java/lang/StringUTF16" := rfl
theorem nv_Ju_charAt (x : Int32) : nar (mR mJu_charAt) x = (0 ≤ x ∧ x ≤ 255) := rfl
theorem mo_Ju_checkIndex : mOwn mJu_checkIndex = "java/lang/StringUTF16" := rfl
theorem nv_Ju_checkIndex : (mR mJu_checkIndex = none) = True := eq_true rfl
theorem mo_Ju_length : mOwn mJu_length = "java/lang/StringUTF16" := rfl
theorem nv_Ju_length (x : Int32) : nar (mR mJu_length) x = True := rfl
theorem mo_Ju_getChar : mOwn mJu_getChar = "java/lang/StringUTF16" := rfl
theorem nv_Ju_getChar (x : Int32) : nar (mR mJu_getChar) x = (0 ≤ x ∧ x ≤ 255) := rfl
theorem mo_T_readText : mOwn mT_readText = "StockYard$Tape" := rfl
theorem cy_T_readText : ((clsN 3).1 = (mY mT_readText).cls) = True := eq_true rfl
theorem nv_T_readText (x : Int32) : nar (mR mT_readText) x = (x = 0 ∨ x = 1) := rfl
theorem mo_Js_length : mOwn mJs_length = "java/lang/String" := rfl
theorem nv_Js_length (x : Int32) : nar (mR mJs_length) x = True := rfl
theorem mo_Js_coder : mOwn mJs_coder = "java/lang/String" := rfl
theorem nv_Js_coder (x : Int32) : nar (mR mJs_coder) x = (x = 0) := rfl
theorem mo_T_readSign : mOwn mT_readSign = "StockYard$Tape" := rfl
theorem cy_T_readSign : ((clsN 3).1 = (mY mT_readSign).cls) = True := eq_true rfl
theorem nv_T_readSign (x : Int32) : nar (mR mT_readSign) x = (x = 0 ∨ x = 1) := rfl
theorem mo_T_readNumber : mOwn mT_readNumber = "StockYard$Tape" := rfl
theorem cy_T_readNumber : ((clsN 3).1 = (mY mT_readNumber).cls) = True := eq_true rfl
theorem nv_T_readNumber (x : Int32) : nar (mR mT_readNumber) x = True := rfl
theorem mo_T_readTests : mOwn mT_readTests = "StockYard$Tape" := rfl
theorem cy_T_readTests : ((clsN 3).1 = (mY mT_readTests).cls) = True := eq_true rfl
theorem nv_T_readTests (x : Int32) : nar (mR mT_readTests) x = (x = 0 ∨ x = 1) := rfl
theorem mo_T_readTest : mOwn mT_readTest = "StockYard$Tape" := rfl
theorem cy_T_readTest : ((clsN 3).1 = (mY mT_readTest).cls) = True := eq_true rfl
theorem nv_T_readTest (x : Int32) : nar (mR mT_readTest) x = (x = 0 ∨ x = 1) := rfl
theorem mo_U_addTest : mOwn mU_addTest = "StockYard$Rule" := rfl
theorem cy_U_addTest : ((clsN 12).1 = (mY mU_addTest).cls) = True := eq_true rfl
theorem nv_U_addTest : (mR mU_addTest = none) = True := eq_true rfl
theorem mo_S_holds : mOwn mS_holds = "StockYard" := rfl
theorem cy_S_holds : ((clsN 0).1 = (mY mS_holds).cls) = True := eq_true rfl
theorem nv_S_holds (x : Int32) : nar (mR mS_holds) x = True := rfl
theorem mo_S_said : mOwn mS_said = "StockYard" := rfl
theorem cy_S_said : ((clsN 0).1 = (mY mS_said).cls) = True := eq_true rfl
theorem nv_S_said (x : Int32) : nar (mR mS_said) x = True := rfl
theorem mo_S_see : mOwn mS_see = "StockYard" := rfl
theorem cy_S_see : ((clsN 0).1 = (mY mS_see).cls) = True := eq_true rfl
theorem nv_S_see (x : Int32) : nar (mR mS_see) x = True := rfl
theorem mo_S_isBuyer : mOwn mS_isBuyer = "StockYard" := rfl
theorem cy_S_isBuyer : ((clsN 0).1 = (mY mS_isBuyer).cls) = True := eq_true rfl
theorem nv_S_isBuyer (x : Int32) : nar (mR mS_isBuyer) x = (x = 0 ∨ x = 1) := rfl
theorem mo_E_wasSeenBy : mOwn mE_wasSeenBy = "StockYard$Sale" := rfl
theorem cy_E_wasSeenBy : ((clsN 11).1 = (mY mE_wasSeenBy).cls) = True := eq_true rfl
theorem nv_E_wasSeenBy (x : Int32) : nar (mR mE_wasSeenBy) x = (x = 0 ∨ x = 1) := rfl
theorem mo_E_show : mOwn mE_show = "StockYard$Sale" := rfl
theorem cy_E_show : ((clsN 11).1 = (mY mE_show).cls) = True := eq_true rfl
theorem nv_E_show : (mR mE_show = none) = True := eq_true rfl
theorem mo_S_bid : mOwn mS_bid = "StockYard" := rfl
theorem cy_S_bid : ((clsN 0).1 = (mY mS_bid).cls) = True := eq_true rfl
theorem nv_S_bid (x : Int32) : nar (mR mS_bid) x = True := rfl
theorem mo_B_bars : mOwn mB_bars = "StockYard$RuleBook" := rfl
theorem cy_B_bars : ((clsN 4).1 = (mY mB_bars).cls) = True := eq_true rfl
theorem nv_B_bars (x : Int32) : nar (mR mB_bars) x = (x = 0 ∨ x = 1) := rfl
theorem mo_E_offer : mOwn mE_offer = "StockYard$Sale" := rfl
theorem cy_E_offer : ((clsN 11).1 = (mY mE_offer).cls) = True := eq_true rfl
theorem nv_E_offer : (mR mE_offer = none) = True := eq_true rfl
theorem mo_E_offers : mOwn mE_offers = "StockYard$Sale" := rfl
theorem cy_E_offers : ((clsN 11).1 = (mY mE_offers).cls) = True := eq_true rfl
theorem nv_E_offers (x : Int32) : nar (mR mE_offers) x = True := rfl
theorem mo_S_sell : mOwn mS_sell = "StockYard" := rfl
theorem cy_S_sell : ((clsN 0).1 = (mY mS_sell).cls) = True := eq_true rfl
theorem nv_S_sell (x : Int32) : nar (mR mS_sell) x = True := rfl
theorem mo_E_close : mOwn mE_close = "StockYard$Sale" := rfl
theorem cy_E_close : ((clsN 11).1 = (mY mE_close).cls) = True := eq_true rfl
theorem nv_E_close : (mR mE_close = none) = True := eq_true rfl
theorem mo_S_weigh : mOwn mS_weigh = "StockYard" := rfl
theorem cy_S_weigh : ((clsN 0).1 = (mY mS_weigh).cls) = True := eq_true rfl
theorem nv_S_weigh (x : Int32) : nar (mR mS_weigh) x = True := rfl
theorem mo_S_weightOf : mOwn mS_weightOf = "StockYard" := rfl
theorem cy_S_weightOf : ((clsN 0).1 = (mY mS_weightOf).cls) = True := eq_true rfl
theorem nv_S_weightOf (x : Int32) : nar (mR mS_weightOf) x = True := rfl
theorem mo_Y_offOf : mOwn mY_offOf = "StockYard$Yard" := rfl
theorem cy_Y_offOf : ((clsN 1).1 = (mY mY_offOf).cls) = True := eq_true rfl
theorem nv_Y_offOf (x : Int32) : nar (mR mY_offOf) x = True := rfl
theorem mo_E_pay : mOwn mE_pay = "StockYard$Sale" := rfl
theorem cy_E_pay : ((clsN 11).1 = (mY mE_pay).cls) = True := eq_true rfl
theorem nv_E_pay : (mR mE_pay = none) = True := eq_true rfl
theorem mo_E_moneyFor : mOwn mE_moneyFor = "StockYard$Sale" := rfl
theorem cy_E_moneyFor : ((clsN 11).1 = (mY mE_moneyFor).cls) = True := eq_true rfl
theorem nv_E_moneyFor (x : Int32) : nar (mR mE_moneyFor) x = True := rfl
theorem mo_S_off : mOwn mS_off = "StockYard" := rfl
theorem cy_S_off : ((clsN 0).1 = (mY mS_off).cls) = True := eq_true rfl
theorem nv_S_off (x : Int32) : nar (mR mS_off) x = True := rfl
theorem mo_Y_setOff : mOwn mY_setOff = "StockYard$Yard" := rfl
theorem cy_Y_setOff : ((clsN 1).1 = (mY mY_setOff).cls) = True := eq_true rfl
theorem nv_Y_setOff : (mR mY_setOff = none) = True := eq_true rfl
theorem mo_S_test : mOwn mS_test = "StockYard" := rfl
theorem cy_S_test : ((clsN 0).1 = (mY mS_test).cls) = True := eq_true rfl
theorem nv_S_test (x : Int32) : nar (mR mS_test) x = True := rfl
theorem mo_S_settle : mOwn mS_settle = "StockYard" := rfl
theorem cy_S_settle : ((clsN 0).1 = (mY mS_settle).cls) = True := eq_true rfl
theorem nv_S_settle (x : Int32) : nar (mR mS_settle) x = True := rfl
theorem mo_E_correct : mOwn mE_correct = "StockYard$Sale" := rfl
theorem cy_E_correct : ((clsN 11).1 = (mY mE_correct).cls) = True := eq_true rfl
theorem nv_E_correct : (mR mE_correct = none) = True := eq_true rfl
theorem mo_S_account : mOwn mS_account = "StockYard" := rfl
theorem cy_S_account : ((clsN 0).1 = (mY mS_account).cls) = True := eq_true rfl
theorem nv_S_account : (mR mS_account = some .long) = True := eq_true rfl
theorem mo_S_write : mOwn mS_write = "StockYard" := rfl
theorem cy_S_write : ((clsN 0).1 = (mY mS_write).cls) = True := eq_true rfl
theorem nv_S_write (x : Int32) : nar (mR mS_write) x = True := rfl
theorem mo_K_add : mOwn mK_add = "StockYard$MarkBook" := rfl
theorem cy_K_add : ((clsN 5).1 = (mY mK_add).cls) = True := eq_true rfl
theorem nv_K_add : (mR mK_add = none) = True := eq_true rfl
theorem mo_S_whose : mOwn mS_whose = "StockYard" := rfl
theorem cy_S_whose : ((clsN 0).1 = (mY mS_whose).cls) = True := eq_true rfl
theorem nv_S_whose (x : Int32) : nar (mR mS_whose) x = True := rfl
theorem mo_S_near : mOwn mS_near = "StockYard" := rfl
theorem cy_S_near : ((clsN 0).1 = (mY mS_near).cls) = True := eq_true rfl
theorem nv_S_near (x : Int32) : nar (mR mS_near) x = True := rfl
theorem mo_K_countNear : mOwn mK_countNear = "StockYard$MarkBook" := rfl
theorem cy_K_countNear : ((clsN 5).1 = (mY mK_countNear).cls) = True := eq_true rfl
theorem nv_K_countNear (x : Int32) : nar (mR mK_countNear) x = True := rfl
theorem mo_S_judge : mOwn mS_judge = "StockYard" := rfl
theorem cy_S_judge : ((clsN 0).1 = (mY mS_judge).cls) = True := eq_true rfl
theorem nv_S_judge (x : Int32) : nar (mR mS_judge) x = True := rfl
theorem mo_S_run : mOwn mS_run = "StockYard" := rfl
theorem cy_S_run : ((clsN 0).1 = (mY mS_run).cls) = True := eq_true rfl
theorem nv_S_run (x : Int32) : nar (mR mS_run) x = True := rfl
theorem mo_Y_forgetBefore : mOwn mY_forgetBefore = "StockYard$Yard" := rfl
theorem cy_Y_forgetBefore : ((clsN 1).1 = (mY mY_forgetBefore).cls) = True := eq_true rfl
theorem nv_Y_forgetBefore : (mR mY_forgetBefore = none) = True := eq_true rfl
theorem mo_A_forgetBefore : mOwn mA_forgetBefore = "StockYard$Alley" := rfl
theorem cy_A_forgetBefore : ((clsN 9).1 = (mY mA_forgetBefore).cls) = True := eq_true rfl
theorem nv_A_forgetBefore : (mR mA_forgetBefore = none) = True := eq_true rfl
theorem mo_O_arrive : mOwn mO_arrive = "StockYard$Lot" := rfl
theorem cy_O_arrive : ((clsN 10).1 = (mY mO_arrive).cls) = True := eq_true rfl
theorem nv_O_arrive (x : Int32) : nar (mR mO_arrive) x = (x = 0 ∨ x = 1) := rfl
theorem mo_S_count : mOwn mS_count = "StockYard" := rfl
theorem cy_S_count : ((clsN 0).1 = (mY mS_count).cls) = True := eq_true rfl
theorem nv_S_count (x : Int32) : nar (mR mS_count) x = True := rfl
theorem mo_S_lotsOnWay : mOwn mS_lotsOnWay = "StockYard" := rfl
theorem cy_S_lotsOnWay : ((clsN 0).1 = (mY mS_lotsOnWay).cls) = True := eq_true rfl
theorem nv_S_lotsOnWay (x : Int32) : nar (mR mS_lotsOnWay) x = True := rfl
theorem mo_S_dryLots : mOwn mS_dryLots = "StockYard" := rfl
theorem cy_S_dryLots : ((clsN 0).1 = (mY mS_dryLots).cls) = True := eq_true rfl
theorem nv_S_dryLots (x : Int32) : nar (mR mS_dryLots) x = True := rfl
theorem mo_S_soldLots : mOwn mS_soldLots = "StockYard" := rfl
theorem cy_S_soldLots : ((clsN 0).1 = (mY mS_soldLots).cls) = True := eq_true rfl
theorem nv_S_soldLots (x : Int32) : nar (mR mS_soldLots) x = True := rfl
theorem mo_S_headsAtHooks : mOwn mS_headsAtHooks = "StockYard" := rfl
theorem cy_S_headsAtHooks : ((clsN 0).1 = (mY mS_headsAtHooks).cls) = True := eq_true rfl
theorem nv_S_headsAtHooks (x : Int32) : nar (mR mS_headsAtHooks) x = True := rfl
theorem mo_S_lay : mOwn mS_lay = "StockYard" := rfl
theorem cy_S_lay : ((clsN 0).1 = (mY mS_lay).cls) = True := eq_true rfl
theorem nv_S_lay (x : Int32) : nar (mR mS_lay) x = True := rfl
theorem mo_R_begin : mOwn mR_begin = "StockYard$Row" := rfl
theorem cy_R_begin : ((clsN 7).1 = (mY mR_begin).cls) = True := eq_true rfl
theorem nv_R_begin : (mR mR_begin = none) = True := eq_true rfl
theorem mo_R_addAt : mOwn mR_addAt = "StockYard$Row" := rfl
theorem cy_R_addAt : ((clsN 7).1 = (mY mR_addAt).cls) = True := eq_true rfl
theorem nv_R_addAt : (mR mR_addAt = none) = True := eq_true rfl
theorem mo_S_tear : mOwn mS_tear = "StockYard" := rfl
theorem cy_S_tear : ((clsN 0).1 = (mY mS_tear).cls) = True := eq_true rfl
theorem nv_S_tear (x : Int32) : nar (mR mS_tear) x = True := rfl
theorem mo_S_row : mOwn mS_row = "StockYard" := rfl
theorem cy_S_row : ((clsN 0).1 = (mY mS_row).cls) = True := eq_true rfl
theorem nv_S_row (x : Int32) : nar (mR mS_row) x = True := rfl
theorem mo_R_at : mOwn mR_at = "StockYard$Row" := rfl
theorem cy_R_at : ((clsN 7).1 = (mY mR_at).cls) = True := eq_true rfl
theorem nv_R_at (x : Int32) : nar (mR mR_at) x = True := rfl
theorem mo_S_copy : mOwn mS_copy = "StockYard" := rfl
theorem cy_S_copy : ((clsN 0).1 = (mY mS_copy).cls) = True := eq_true rfl
theorem nv_S_copy (x : Int32) : nar (mR mS_copy) x = True := rfl
theorem mo_R_spans : mOwn mR_spans = "StockYard$Row" := rfl
theorem cy_R_spans : ((clsN 7).1 = (mY mR_spans).cls) = True := eq_true rfl
theorem nv_R_spans (x : Int32) : nar (mR mR_spans) x = (x = 0 ∨ x = 1) := rfl
theorem mo_R_move : mOwn mR_move = "StockYard$Row" := rfl
theorem cy_R_move : ((clsN 7).1 = (mY mR_move).cls) = True := eq_true rfl
theorem nv_R_move : (mR mR_move = none) = True := eq_true rfl
theorem mo_S_status : mOwn mS_status = "StockYard" := rfl
theorem cy_S_status : ((clsN 0).1 = (mY mS_status).cls) = True := eq_true rfl
theorem nv_S_status (x : Int32) : nar (mR mS_status) x = True := rfl
theorem mo_M_init : mOwn mM_init = "StockYardModel" := rfl
theorem cy_M_init : ((clsN 13).1 = (mY mM_init).cls) = True := eq_true rfl
theorem nv_M_init : (mR mM_init = none) = True := eq_true rfl
theorem mo_M_status : mOwn mM_status = "StockYardModel" := rfl
theorem cy_M_status : ((clsN 13).1 = (mY mM_status).cls) = True := eq_true rfl
theorem nv_M_status (x : Int32) : nar (mR mM_status) x = True := rfl
theorem mo_M_in : mOwn mM_in = "StockYardModel" := rfl
theorem cy_M_in : ((clsN 13).1 = (mY mM_in).cls) = True := eq_true rfl
theorem nv_M_in (x : Int32) : nar (mR mM_in) x = (x = 0 ∨ x = 1) := rfl
theorem mo_M_refused : mOwn mM_refused = "StockYardModel" := rfl
theorem cy_M_refused : ((clsN 13).1 = (mY mM_refused).cls) = True := eq_true rfl
theorem nv_M_refused (x : Int32) : nar (mR mM_refused) x = True := rfl
theorem mo_M_place : mOwn mM_place = "StockYardModel" := rfl
theorem cy_M_place : ((clsN 13).1 = (mY mM_place).cls) = True := eq_true rfl
theorem nv_M_place (x : Int32) : nar (mR mM_place) x = True := rfl
theorem mo_M_alley : mOwn mM_alley = "StockYardModel" := rfl
theorem cy_M_alley : ((clsN 13).1 = (mY mM_alley).cls) = True := eq_true rfl
theorem nv_M_alley (x : Int32) : nar (mR mM_alley) x = True := rfl
theorem mo_M_isPlace : mOwn mM_isPlace = "StockYardModel" := rfl
theorem cy_M_isPlace : ((clsN 13).1 = (mY mM_isPlace).cls) = True := eq_true rfl
theorem nv_M_isPlace (x : Int32) : nar (mR mM_isPlace) x = (x = 0 ∨ x = 1) := rfl
theorem mo_M_way : mOwn mM_way = "StockYardModel" := rfl
theorem cy_M_way : ((clsN 13).1 = (mY mM_way).cls) = True := eq_true rfl
theorem nv_M_way (x : Int32) : nar (mR mM_way) x = True := rfl
theorem mo_M_walk : mOwn mM_walk = "StockYardModel" := rfl
theorem cy_M_walk : ((clsN 13).1 = (mY mM_walk).cls) = True := eq_true rfl
theorem nv_M_walk (x : Int32) : nar (mR mM_walk) x = True := rfl
theorem mo_M_other : mOwn mM_other = "StockYardModel" := rfl
theorem cy_M_other : ((clsN 13).1 = (mY mM_other).cls) = True := eq_true rfl
theorem nv_M_other (x : Int32) : nar (mR mM_other) x = True := rfl
theorem mo_M_by : mOwn mM_by = "StockYardModel" := rfl
theorem cy_M_by : ((clsN 13).1 = (mY mM_by).cls) = True := eq_true rfl
theorem nv_M_by (x : Int32) : nar (mR mM_by) x = True := rfl
theorem mo_M_lot : mOwn mM_lot = "StockYardModel" := rfl
theorem cy_M_lot : ((clsN 13).1 = (mY mM_lot).cls) = True := eq_true rfl
theorem nv_M_lot (x : Int32) : nar (mR mM_lot) x = True := rfl
theorem mo_M_isMark : mOwn mM_isMark = "StockYardModel" := rfl
theorem cy_M_isMark : ((clsN 13).1 = (mY mM_isMark).cls) = True := eq_true rfl
theorem nv_M_isMark (x : Int32) : nar (mR mM_isMark) x = (x = 0 ∨ x = 1) := rfl
theorem mo_M_isTaken : mOwn mM_isTaken = "StockYardModel" := rfl
theorem cy_M_isTaken : ((clsN 13).1 = (mY mM_isTaken).cls) = True := eq_true rfl
theorem nv_M_isTaken (x : Int32) : nar (mR mM_isTaken) x = (x = 0 ∨ x = 1) := rfl
theorem mo_M_comes : mOwn mM_comes = "StockYardModel" := rfl
theorem cy_M_comes : ((clsN 13).1 = (mY mM_comes).cls) = True := eq_true rfl
theorem nv_M_comes (x : Int32) : nar (mR mM_comes) x = True := rfl
theorem mo_M_sort : mOwn mM_sort = "StockYardModel" := rfl
theorem cy_M_sort : ((clsN 13).1 = (mY mM_sort).cls) = True := eq_true rfl
theorem nv_M_sort (x : Int32) : nar (mR mM_sort) x = True := rfl
theorem mo_M_isLot : mOwn mM_isLot = "StockYardModel" := rfl
theorem cy_M_isLot : ((clsN 13).1 = (mY mM_isLot).cls) = True := eq_true rfl
theorem nv_M_isLot (x : Int32) : nar (mR mM_isLot) x = (x = 0 ∨ x = 1) := rfl
theorem mo_M_isInPen : mOwn mM_isInPen = "StockYardModel" := rfl
theorem cy_M_isInPen : ((clsN 13).1 = (mY mM_isInPen).cls) = True := eq_true rfl
theorem nv_M_isInPen (x : Int32) : nar (mR mM_isInPen) x = (x = 0 ∨ x = 1) := rfl
theorem mo_M_look : mOwn mM_look = "StockYardModel" := rfl
theorem cy_M_look : ((clsN 13).1 = (mY mM_look).cls) = True := eq_true rfl
theorem nv_M_look (x : Int32) : nar (mR mM_look) x = True := rfl
theorem mo_M_thirst : mOwn mM_thirst = "StockYardModel" := rfl
theorem cy_M_thirst : ((clsN 13).1 = (mY mM_thirst).cls) = True := eq_true rfl
theorem nv_M_thirst (x : Int32) : nar (mR mM_thirst) x = True := rfl
theorem mo_M_isDry : mOwn mM_isDry = "StockYardModel" := rfl
theorem cy_M_isDry : ((clsN 13).1 = (mY mM_isDry).cls) = True := eq_true rfl
theorem nv_M_isDry (x : Int32) : nar (mR mM_isDry) x = (x = 0 ∨ x = 1) := rfl
theorem mo_M_saidBy : mOwn mM_saidBy = "StockYardModel" := rfl
theorem cy_M_saidBy : ((clsN 13).1 = (mY mM_saidBy).cls) = True := eq_true rfl
theorem nv_M_saidBy (x : Int32) : nar (mR mM_saidBy) x = True := rfl
theorem mo_M_holdsFor : mOwn mM_holdsFor = "StockYardModel" := rfl
theorem cy_M_holdsFor : ((clsN 13).1 = (mY mM_holdsFor).cls) = True := eq_true rfl
theorem nv_M_holdsFor (x : Int32) : nar (mR mM_holdsFor) x = (x = 0 ∨ x = 1) := rfl
theorem mo_M_isSo : mOwn mM_isSo = "StockYardModel" := rfl
theorem cy_M_isSo : ((clsN 13).1 = (mY mM_isSo).cls) = True := eq_true rfl
theorem nv_M_isSo (x : Int32) : nar (mR mM_isSo) x = (x = 0 ∨ x = 1) := rfl
theorem mo_M_valueOf : mOwn mM_valueOf = "StockYardModel" := rfl
theorem cy_M_valueOf : ((clsN 13).1 = (mY mM_valueOf).cls) = True := eq_true rfl
theorem nv_M_valueOf (x : Int32) : nar (mR mM_valueOf) x = True := rfl
theorem mo_M_isInDoubt : mOwn mM_isInDoubt = "StockYardModel" := rfl
theorem cy_M_isInDoubt : ((clsN 13).1 = (mY mM_isInDoubt).cls) = True := eq_true rfl
theorem nv_M_isInDoubt (x : Int32) : nar (mR mM_isInDoubt) x = (x = 0 ∨ x = 1) := rfl
theorem mo_M_find : mOwn mM_find = "StockYardModel" := rfl
theorem cy_M_find : ((clsN 13).1 = (mY mM_find).cls) = True := eq_true rfl
theorem nv_M_find (x : Int32) : nar (mR mM_find) x = True := rfl
theorem mo_M_isNear : mOwn mM_isNear = "StockYardModel" := rfl
theorem cy_M_isNear : ((clsN 13).1 = (mY mM_isNear).cls) = True := eq_true rfl
theorem nv_M_isNear (x : Int32) : nar (mR mM_isNear) x = (x = 0 ∨ x = 1) := rfl
theorem mo_M_drive : mOwn mM_drive = "StockYardModel" := rfl
theorem cy_M_drive : ((clsN 13).1 = (mY mM_drive).cls) = True := eq_true rfl
theorem nv_M_drive (x : Int32) : nar (mR mM_drive) x = True := rfl
theorem mo_M_goes : mOwn mM_goes = "StockYardModel" := rfl
theorem cy_M_goes : ((clsN 13).1 = (mY mM_goes).cls) = True := eq_true rfl
theorem nv_M_goes (x : Int32) : nar (mR mM_goes) x = True := rfl
theorem mo_M_mayBegin : mOwn mM_mayBegin = "StockYardModel" := rfl
theorem cy_M_mayBegin : ((clsN 13).1 = (mY mM_mayBegin).cls) = True := eq_true rfl
theorem nv_M_mayBegin (x : Int32) : nar (mR mM_mayBegin) x = (x = 0 ∨ x = 1) := rfl
theorem mo_M_isFree : mOwn mM_isFree = "StockYardModel" := rfl
theorem cy_M_isFree : ((clsN 13).1 = (mY mM_isFree).cls) = True := eq_true rfl
theorem nv_M_isFree (x : Int32) : nar (mR mM_isFree) x = (x = 0 ∨ x = 1) := rfl
theorem mo_M_water : mOwn mM_water = "StockYardModel" := rfl
theorem cy_M_water : ((clsN 13).1 = (mY mM_water).cls) = True := eq_true rfl
theorem nv_M_water (x : Int32) : nar (mR mM_water) x = True := rfl
theorem mo_M_hold : mOwn mM_hold = "StockYardModel" := rfl
theorem cy_M_hold : ((clsN 13).1 = (mY mM_hold).cls) = True := eq_true rfl
theorem nv_M_hold (x : Int32) : nar (mR mM_hold) x = True := rfl
theorem mo_M_plan : mOwn mM_plan = "StockYardModel" := rfl
theorem cy_M_plan : ((clsN 13).1 = (mY mM_plan).cls) = True := eq_true rfl
theorem nv_M_plan (x : Int32) : nar (mR mM_plan) x = True := rfl
theorem mo_M_bits : mOwn mM_bits = "StockYardModel" := rfl
theorem cy_M_bits : ((clsN 13).1 = (mY mM_bits).cls) = True := eq_true rfl
theorem nv_M_bits (x : Int32) : nar (mR mM_bits) x = True := rfl
theorem mo_M_tries : mOwn mM_tries = "StockYardModel" := rfl
theorem cy_M_tries : ((clsN 13).1 = (mY mM_tries).cls) = True := eq_true rfl
theorem nv_M_tries : (mR mM_tries = none) = True := eq_true rfl
theorem mo_M_planned : mOwn mM_planned = "StockYardModel" := rfl
theorem cy_M_planned : ((clsN 13).1 = (mY mM_planned).cls) = True := eq_true rfl
theorem nv_M_planned (x : Int32) : nar (mR mM_planned) x = True := rfl
theorem mo_M_feed : mOwn mM_feed = "StockYardModel" := rfl
theorem cy_M_feed : ((clsN 13).1 = (mY mM_feed).cls) = True := eq_true rfl
theorem nv_M_feed (x : Int32) : nar (mR mM_feed) x = True := rfl
theorem mo_M_wipe : mOwn mM_wipe = "StockYardModel" := rfl
theorem cy_M_wipe : ((clsN 13).1 = (mY mM_wipe).cls) = True := eq_true rfl
theorem nv_M_wipe (x : Int32) : nar (mR mM_wipe) x = True := rfl
theorem mo_M_rule : mOwn mM_rule = "StockYardModel" := rfl
theorem cy_M_rule : ((clsN 13).1 = (mY mM_rule).cls) = True := eq_true rfl
theorem nv_M_rule (x : Int32) : nar (mR mM_rule) x = True := rfl
theorem mo_M_readRule : mOwn mM_readRule = "StockYardModel" := rfl
theorem cy_M_readRule : ((clsN 13).1 = (mY mM_readRule).cls) = True := eq_true rfl
theorem nv_M_readRule : (mR mM_readRule = none) = True := eq_true rfl
theorem mo_M_keyHere : mOwn mM_keyHere = "StockYardModel" := rfl
theorem cy_M_keyHere : ((clsN 13).1 = (mY mM_keyHere).cls) = True := eq_true rfl
theorem nv_M_keyHere (x : Int32) : nar (mR mM_keyHere) x = True := rfl
theorem mo_M_here : mOwn mM_here = "StockYardModel" := rfl
theorem cy_M_here : ((clsN 13).1 = (mY mM_here).cls) = True := eq_true rfl
theorem nv_M_here (x : Int32) : nar (mR mM_here) x = True := rfl
theorem mo_M_named : mOwn mM_named = "StockYardModel" := rfl
theorem cy_M_named : ((clsN 13).1 = (mY mM_named).cls) = True := eq_true rfl
theorem nv_M_named : (mR mM_named = some .long) = True := eq_true rfl
theorem mo_M_letters : mOwn mM_letters = "StockYardModel" := rfl
theorem cy_M_letters : ((clsN 13).1 = (mY mM_letters).cls) = True := eq_true rfl
theorem nv_M_letters : (mR mM_letters = none) = True := eq_true rfl
theorem mo_M_one : mOwn mM_one = "StockYardModel" := rfl
theorem cy_M_one : ((clsN 13).1 = (mY mM_one).cls) = True := eq_true rfl
theorem nv_M_one : (mR mM_one = none) = True := eq_true rfl
theorem mo_M_numberHere : mOwn mM_numberHere = "StockYardModel" := rfl
theorem cy_M_numberHere : ((clsN 13).1 = (mY mM_numberHere).cls) = True := eq_true rfl
theorem nv_M_numberHere (x : Int32) : nar (mR mM_numberHere) x = True := rfl
theorem mo_M_testHere : mOwn mM_testHere = "StockYardModel" := rfl
theorem cy_M_testHere : ((clsN 13).1 = (mY mM_testHere).cls) = True := eq_true rfl
theorem nv_M_testHere : (mR mM_testHere = none) = True := eq_true rfl
theorem mo_M_fieldHere : mOwn mM_fieldHere = "StockYardModel" := rfl
theorem cy_M_fieldHere : ((clsN 13).1 = (mY mM_fieldHere).cls) = True := eq_true rfl
theorem nv_M_fieldHere (x : Int32) : nar (mR mM_fieldHere) x = True := rfl
theorem mo_M_holds : mOwn mM_holds = "StockYardModel" := rfl
theorem cy_M_holds : ((clsN 13).1 = (mY mM_holds).cls) = True := eq_true rfl
theorem nv_M_holds (x : Int32) : nar (mR mM_holds) x = True := rfl
theorem mo_M_said : mOwn mM_said = "StockYardModel" := rfl
theorem cy_M_said : ((clsN 13).1 = (mY mM_said).cls) = True := eq_true rfl
theorem nv_M_said (x : Int32) : nar (mR mM_said) x = True := rfl
theorem mo_M_see : mOwn mM_see = "StockYardModel" := rfl
theorem cy_M_see : ((clsN 13).1 = (mY mM_see).cls) = True := eq_true rfl
theorem nv_M_see (x : Int32) : nar (mR mM_see) x = True := rfl
theorem mo_M_isBuyer : mOwn mM_isBuyer = "StockYardModel" := rfl
theorem cy_M_isBuyer : ((clsN 13).1 = (mY mM_isBuyer).cls) = True := eq_true rfl
theorem nv_M_isBuyer (x : Int32) : nar (mR mM_isBuyer) x = (x = 0 ∨ x = 1) := rfl
theorem mo_M_bid : mOwn mM_bid = "StockYardModel" := rfl
theorem cy_M_bid : ((clsN 13).1 = (mY mM_bid).cls) = True := eq_true rfl
theorem nv_M_bid (x : Int32) : nar (mR mM_bid) x = True := rfl
theorem mo_M_isBarred : mOwn mM_isBarred = "StockYardModel" := rfl
theorem cy_M_isBarred : ((clsN 13).1 = (mY mM_isBarred).cls) = True := eq_true rfl
theorem nv_M_isBarred (x : Int32) : nar (mR mM_isBarred) x = (x = 0 ∨ x = 1) := rfl
theorem mo_M_sell : mOwn mM_sell = "StockYardModel" := rfl
theorem cy_M_sell : ((clsN 13).1 = (mY mM_sell).cls) = True := eq_true rfl
theorem nv_M_sell (x : Int32) : nar (mR mM_sell) x = True := rfl
theorem mo_M_weigh : mOwn mM_weigh = "StockYardModel" := rfl
theorem cy_M_weigh : ((clsN 13).1 = (mY mM_weigh).cls) = True := eq_true rfl
theorem nv_M_weigh (x : Int32) : nar (mR mM_weigh) x = True := rfl
theorem mo_M_moneyFor : mOwn mM_moneyFor = "StockYardModel" := rfl
theorem cy_M_moneyFor : ((clsN 13).1 = (mY mM_moneyFor).cls) = True := eq_true rfl
theorem nv_M_moneyFor (x : Int32) : nar (mR mM_moneyFor) x = True := rfl
theorem mo_M_off : mOwn mM_off = "StockYardModel" := rfl
theorem cy_M_off : ((clsN 13).1 = (mY mM_off).cls) = True := eq_true rfl
theorem nv_M_off (x : Int32) : nar (mR mM_off) x = True := rfl
theorem mo_M_noScale : mOwn mM_noScale = "StockYardModel" := rfl
theorem cy_M_noScale : ((clsN 13).1 = (mY mM_noScale).cls) = True := eq_true rfl
theorem nv_M_noScale (x : Int32) : nar (mR mM_noScale) x = True := rfl
theorem mo_M_test : mOwn mM_test = "StockYardModel" := rfl
theorem cy_M_test : ((clsN 13).1 = (mY mM_test).cls) = True := eq_true rfl
theorem nv_M_test (x : Int32) : nar (mR mM_test) x = True := rfl
theorem mo_M_account : mOwn mM_account = "StockYardModel" := rfl
theorem cy_M_account : ((clsN 13).1 = (mY mM_account).cls) = True := eq_true rfl
theorem nv_M_account : (mR mM_account = some .long) = True := eq_true rfl
theorem mo_M_write : mOwn mM_write = "StockYardModel" := rfl
theorem cy_M_write : ((clsN 13).1 = (mY mM_write).cls) = True := eq_true rfl
theorem nv_M_write (x : Int32) : nar (mR mM_write) x = True := rfl
theorem mo_M_whose : mOwn mM_whose = "StockYardModel" := rfl
theorem cy_M_whose : ((clsN 13).1 = (mY mM_whose).cls) = True := eq_true rfl
theorem nv_M_whose (x : Int32) : nar (mR mM_whose) x = True := rfl
theorem mo_M_near : mOwn mM_near = "StockYardModel" := rfl
theorem cy_M_near : ((clsN 13).1 = (mY mM_near).cls) = True := eq_true rfl
theorem nv_M_near (x : Int32) : nar (mR mM_near) x = True := rfl
theorem mo_M_judge : mOwn mM_judge = "StockYardModel" := rfl
theorem cy_M_judge : ((clsN 13).1 = (mY mM_judge).cls) = True := eq_true rfl
theorem nv_M_judge (x : Int32) : nar (mR mM_judge) x = True := rfl
theorem mo_M_run : mOwn mM_run = "StockYardModel" := rfl
theorem cy_M_run : ((clsN 13).1 = (mY mM_run).cls) = True := eq_true rfl
theorem nv_M_run (x : Int32) : nar (mR mM_run) x = True := rfl
theorem mo_M_forget : mOwn mM_forget = "StockYardModel" := rfl
theorem cy_M_forget : ((clsN 13).1 = (mY mM_forget).cls) = True := eq_true rfl
theorem nv_M_forget : (mR mM_forget = none) = True := eq_true rfl
theorem mo_M_count : mOwn mM_count = "StockYardModel" := rfl
theorem cy_M_count : ((clsN 13).1 = (mY mM_count).cls) = True := eq_true rfl
theorem nv_M_count (x : Int32) : nar (mR mM_count) x = True := rfl
theorem mo_M_lay : mOwn mM_lay = "StockYardModel" := rfl
theorem cy_M_lay : ((clsN 13).1 = (mY mM_lay).cls) = True := eq_true rfl
theorem nv_M_lay (x : Int32) : nar (mR mM_lay) x = True := rfl
theorem mo_M_tear : mOwn mM_tear = "StockYardModel" := rfl
theorem cy_M_tear : ((clsN 13).1 = (mY mM_tear).cls) = True := eq_true rfl
theorem nv_M_tear (x : Int32) : nar (mR mM_tear) x = True := rfl
theorem mo_M_row : mOwn mM_row = "StockYardModel" := rfl
theorem cy_M_row : ((clsN 13).1 = (mY mM_row).cls) = True := eq_true rfl
theorem nv_M_row (x : Int32) : nar (mR mM_row) x = True := rfl
theorem mo_M_copy : mOwn mM_copy = "StockYardModel" := rfl
theorem cy_M_copy : ((clsN 13).1 = (mY mM_copy).cls) = True := eq_true rfl
theorem nv_M_copy (x : Int32) : nar (mR mM_copy) x = True := rfl
theorem ml_S_init : mL mS_init = 1 := rfl
theorem ml_Jq_init : mL mJq_init = 1 := rfl
theorem ml_Y_init : mL mY_init = 1 := rfl
theorem ml_L_init : mL mL_init = 1 := rfl
theorem ml_Ja_init : mL mJa_init = 1 := rfl
theorem ml_Jc_init : mL mJc_init = 1 := rfl
theorem ml_T_init : mL mT_init = 1 := rfl
theorem ml_B_init : mL mB_init = 1 := rfl
theorem ml_K_init : mL mK_init = 1 := rfl
theorem ml_P_init : mL mP_init = 3 := rfl
theorem ml_W_init : mL mW_init = 1 := rfl
theorem ml_R_init : mL mR_init = 1 := rfl
theorem ml_S_place : mL mS_place = 2 := rfl
theorem ml_S_within : mL mS_within = 3 := rfl
theorem ml_S_refuse : mL mS_refuse = 2 := rfl
theorem ml_Y_addPlace : mL mY_addPlace = 4 := rfl
theorem ml_S_alley : mL mS_alley = 4 := rfl
theorem ml_Y_hasPlace : mL mY_hasPlace = 2 := rfl
theorem ml_L_size : mL mL_size = 1 := rfl
theorem ml_Y_addAlley : mL mY_addAlley = 8 := rfl
theorem ml_A_init : mL mA_init = 4 := rfl
theorem ml_L_add1z : mL mL_add1z = 2 := rfl
theorem ml_L_add3v : mL mL_add3v = 4 := rfl
theorem ml_L_grow0 : mL mL_grow0 = 1 := rfl
theorem ml_L_grow1 : mL mL_grow1 = 4 := rfl
theorem ml_Jx_newLength : mL mJx_newLength = 4 := rfl
theorem ml_Jm_max : mL mJm_max = 2 := rfl
theorem ml_Jx_hugeLength : mL mJx_hugeLength = 3 := rfl
theorem ml_Jr_copyOf2 : mL mJr_copyOf2 = 2 := rfl
theorem ml_Jr_copyOf3 : mL mJr_copyOf3 = 4 := rfl
theorem ml_Jm_min : mL mJm_min = 2 := rfl
theorem ml_Y_minutesBetween : mL mY_minutesBetween = 3 := rfl
theorem ml_S_way : mL mS_way = 3 := rfl
theorem ml_Y_find : mL mY_find = 7 := rfl
theorem ml_W_clear : mL mW_clear = 1 := rfl
theorem ml_Y_leastAlleyToward : mL mY_leastAlleyToward = 6 := rfl
theorem ml_L_get : mL mL_get = 2 := rfl
theorem ml_Jo_checkIndex : mL mJo_checkIndex = 2 := rfl
theorem ml_Jp_checkIndex : mL mJp_checkIndex = 3 := rfl
theorem ml_L_elementData : mL mL_elementData = 2 := rfl
theorem ml_A_touches : mL mA_touches = 2 := rfl
theorem ml_A_otherEnd : mL mA_otherEnd = 2 := rfl
theorem ml_W_add : mL mW_add = 3 := rfl
theorem ml_S_by : mL mS_by = 4 := rfl
theorem ml_W_alleyAt : mL mW_alleyAt = 2 := rfl
theorem ml_S_lot : mL mS_lot = 7 := rfl
theorem ml_S_tellsOwner : mL mS_tellsOwner = 1 := rfl
theorem ml_S_isOwner : mL mS_isOwner = 1 := rfl
theorem ml_Y_kindOf : mL mY_kindOf = 2 := rfl
theorem ml_S_tellsHeads : mL mS_tellsHeads = 1 := rfl
theorem ml_S_isMark : mL mS_isMark = 1 := rfl
theorem ml_S_hasLot : mL mS_hasLot = 3 := rfl
theorem ml_O_init : mL mO_init = 8 := rfl
theorem ml_E_init : mL mE_init = 1 := rfl
theorem ml_S_admit : mL mS_admit = 2 := rfl
theorem ml_S_sort : mL mS_sort = 7 := rfl
theorem ml_S_lotAt : mL mS_lotAt = 2 := rfl
theorem ml_S_isIn : mL mS_isIn = 3 := rfl
theorem ml_S_look : mL mS_look = 4 := rfl
theorem ml_O_thirst : mL mO_thirst = 2 := rfl
theorem ml_B_isDry : mL mB_isDry = 3 := rfl
theorem ml_B_saying : mL mB_saying = 7 := rfl
theorem ml_U_appliesTo : mL mU_appliesTo = 5 := rfl
theorem ml_U_isMet : mL mU_isMet = 7 := rfl
theorem ml_U_valueOf : mL mU_valueOf = 4 := rfl
theorem ml_S_isInDoubt : mL mS_isInDoubt = 2 := rfl
theorem ml_K_doubt : mL mK_doubt = 4 := rfl
theorem ml_K_ownerOf : mL mK_ownerOf = 3 := rfl
theorem ml_K_areNear : mL mK_areNear = 6 := rfl
theorem ml_S_drive : mL mS_drive = 5 := rfl
theorem ml_S_mayBeDriven : mL mS_mayBeDriven = 2 := rfl
theorem ml_O_isOnWay : mL mO_isOnWay = 1 := rfl
theorem ml_Y_firstFree : mL mY_firstFree = 6 := rfl
theorem ml_Y_putOff : mL mY_putOff = 6 := rfl
theorem ml_W_aheadOf : mL mW_aheadOf = 2 := rfl
theorem ml_A_freeFrom : mL mA_freeFrom = 5 := rfl
theorem ml_A_meets : mL mA_meets = 3 := rfl
theorem ml_Y_take : mL mY_take = 5 := rfl
theorem ml_A_take : mL mA_take = 2 := rfl
theorem ml_O_leave : mL mO_leave = 3 := rfl
theorem ml_S_water : mL mS_water = 4 := rfl
theorem ml_S_hold : mL mS_hold = 5 := rfl
theorem ml_E_isSold : mL mE_isSold = 1 := rfl
theorem ml_S_plan : mL mS_plan = 4 := rfl
theorem ml_S_arePens : mL mS_arePens = 3 := rfl
theorem ml_S_inSet : mL mS_inSet = 2 := rfl
theorem ml_Ji_bitCount : mL mJi_bitCount = 1 := rfl
theorem ml_S_mayAllBeDriven : mL mS_mayAllBeDriven = 3 := rfl
theorem ml_S_hasLotInOne : mL mS_hasLotInOne = 3 := rfl
theorem ml_S_readyPlanner : mL mS_readyPlanner = 4 := rfl
theorem ml_P_clear : mL mP_clear = 1 := rfl
theorem ml_P_addPen : mL mP_addPen = 2 := rfl
theorem ml_P_addLot : mL mP_addLot = 4 := rfl
theorem ml_P_search : mL mP_search = 2 := rfl
theorem ml_P_tell : mL mP_tell = 5 := rfl
theorem ml_P_keep : mL mP_keep = 3 := rfl
theorem ml_P_tellOne : mL mP_tellOne = 8 := rfl
theorem ml_Y_giveBack : mL mY_giveBack = 4 := rfl
theorem ml_A_giveBack : mL mA_giveBack = 1 := rfl
theorem ml_S_planned : mL mS_planned = 3 := rfl
theorem ml_P_plannedLot : mL mP_plannedLot = 2 := rfl
theorem ml_P_plannedPen : mL mP_plannedPen = 2 := rfl
theorem ml_S_feed : mL mS_feed = 4 := rfl
theorem ml_T_add : mL mT_add = 2 := rfl
theorem ml_S_wipe : mL mS_wipe = 2 := rfl
theorem ml_S_rule : mL mS_rule = 4 := rfl
theorem ml_U_init : mL mU_init = 3 := rfl
theorem ml_T_readRule : mL mT_readRule = 2 := rfl
theorem ml_T_readWord : mL mT_readWord = 5 := rfl
theorem ml_T_keyName : mL mT_keyName = 1 := rfl
theorem ml_T_fieldName : mL mT_fieldName = 1 := rfl
theorem ml_Js_charAt : mL mJs_charAt = 2 := rfl
theorem ml_Js_isLatin1 : mL mJs_isLatin1 = 1 := rfl
theorem ml_Jl_charAt : mL mJl_charAt = 2 := rfl
theorem ml_Js_checkIndex : mL mJs_checkIndex = 2 := rfl
theorem ml_Ju_charAt : mL mJu_charAt = 2 := rfl
theorem ml_Ju_checkIndex : mL mJu_checkIndex = 2 := rfl
theorem ml_Ju_length : mL mJu_length = 1 := rfl
theorem ml_Ju_getChar : mL mJu_getChar = 2 := rfl
theorem ml_T_readText : mL mT_readText = 3 := rfl
theorem ml_Js_length : mL mJs_length = 1 := rfl
theorem ml_Js_coder : mL mJs_coder = 1 := rfl
theorem ml_T_readSign : mL mT_readSign = 2 := rfl
theorem ml_T_readNumber : mL mT_readNumber = 3 := rfl
theorem ml_T_readTests : mL mT_readTests = 3 := rfl
theorem ml_T_readTest : mL mT_readTest = 6 := rfl
theorem ml_U_addTest : mL mU_addTest = 5 := rfl
theorem ml_S_holds : mL mS_holds = 5 := rfl
theorem ml_S_said : mL mS_said = 4 := rfl
theorem ml_S_see : mL mS_see = 4 := rfl
theorem ml_S_isBuyer : mL mS_isBuyer = 1 := rfl
theorem ml_E_wasSeenBy : mL mE_wasSeenBy = 2 := rfl
theorem ml_E_show : mL mE_show = 2 := rfl
theorem ml_S_bid : mL mS_bid = 5 := rfl
theorem ml_B_bars : mL mB_bars = 6 := rfl
theorem ml_E_offer : mL mE_offer = 3 := rfl
theorem ml_E_offers : mL mE_offers = 3 := rfl
theorem ml_S_sell : mL mS_sell = 3 := rfl
theorem ml_E_close : mL mE_close = 4 := rfl
theorem ml_S_weigh : mL mS_weigh = 5 := rfl
theorem ml_S_weightOf : mL mS_weightOf = 4 := rfl
theorem ml_Y_offOf : mL mY_offOf = 2 := rfl
theorem ml_E_pay : mL mE_pay = 4 := rfl
theorem ml_E_moneyFor : mL mE_moneyFor = 2 := rfl
theorem ml_S_off : mL mS_off = 4 := rfl
theorem ml_Y_setOff : mL mY_setOff = 3 := rfl
theorem ml_S_test : mL mS_test = 3 := rfl
theorem ml_S_settle : mL mS_settle = 6 := rfl
theorem ml_E_correct : mL mE_correct = 2 := rfl
theorem ml_S_account : mL mS_account = 6 := rfl
theorem ml_S_write : mL mS_write = 3 := rfl
theorem ml_K_add : mL mK_add = 3 := rfl
theorem ml_S_whose : mL mS_whose = 2 := rfl
theorem ml_S_near : mL mS_near = 2 := rfl
theorem ml_K_countNear : mL mK_countNear = 4 := rfl
theorem ml_S_judge : mL mS_judge = 5 := rfl
theorem ml_S_run : mL mS_run = 4 := rfl
theorem ml_Y_forgetBefore : mL mY_forgetBefore = 3 := rfl
theorem ml_A_forgetBefore : mL mA_forgetBefore = 4 := rfl
theorem ml_O_arrive : mL mO_arrive = 2 := rfl
theorem ml_S_count : mL mS_count = 2 := rfl
theorem ml_S_lotsOnWay : mL mS_lotsOnWay = 3 := rfl
theorem ml_S_dryLots : mL mS_dryLots = 3 := rfl
theorem ml_S_soldLots : mL mS_soldLots = 3 := rfl
theorem ml_S_headsAtHooks : mL mS_headsAtHooks = 3 := rfl
theorem ml_S_lay : mL mS_lay = 2 := rfl
theorem ml_R_begin : mL mR_begin = 3 := rfl
theorem ml_R_addAt : mL mR_addAt = 3 := rfl
theorem ml_S_tear : mL mS_tear = 2 := rfl
theorem ml_S_row : mL mS_row = 2 := rfl
theorem ml_R_at : mL mR_at = 2 := rfl
theorem ml_S_copy : mL mS_copy = 4 := rfl
theorem ml_R_spans : mL mR_spans = 3 := rfl
theorem ml_R_move : mL mR_move = 4 := rfl
theorem ml_S_status : mL mS_status = 2 := rfl
theorem ml_M_init : mL mM_init = 1 := rfl
theorem ml_M_status : mL mM_status = 2 := rfl
theorem ml_M_in : mL mM_in = 3 := rfl
theorem ml_M_refused : mL mM_refused = 2 := rfl
theorem ml_M_place : mL mM_place = 2 := rfl
theorem ml_M_alley : mL mM_alley = 4 := rfl
theorem ml_M_isPlace : mL mM_isPlace = 2 := rfl
theorem ml_M_way : mL mM_way = 3 := rfl
theorem ml_M_walk : mL mM_walk = 6 := rfl
theorem ml_M_other : mL mM_other = 3 := rfl
theorem ml_M_by : mL mM_by = 4 := rfl
theorem ml_M_lot : mL mM_lot = 6 := rfl
theorem ml_M_isMark : mL mM_isMark = 1 := rfl
theorem ml_M_isTaken : mL mM_isTaken = 4 := rfl
theorem ml_M_comes : mL mM_comes = 9 := rfl
theorem ml_M_sort : mL mM_sort = 6 := rfl
theorem ml_M_isLot : mL mM_isLot = 2 := rfl
theorem ml_M_isInPen : mL mM_isInPen = 2 := rfl
theorem ml_M_look : mL mM_look = 3 := rfl
theorem ml_M_thirst : mL mM_thirst = 2 := rfl
theorem ml_M_isDry : mL mM_isDry = 2 := rfl
theorem ml_M_saidBy : mL mM_saidBy = 5 := rfl
theorem ml_M_holdsFor : mL mM_holdsFor = 6 := rfl
theorem ml_M_isSo : mL mM_isSo = 5 := rfl
theorem ml_M_valueOf : mL mM_valueOf = 4 := rfl
theorem ml_M_isInDoubt : mL mM_isInDoubt = 5 := rfl
theorem ml_M_find : mL mM_find = 3 := rfl
theorem ml_M_isNear : mL mM_isNear = 6 := rfl
theorem ml_M_drive : mL mM_drive = 3 := rfl
theorem ml_M_goes : mL mM_goes = 3 := rfl
theorem ml_M_mayBegin : mL mM_mayBegin = 4 := rfl
theorem ml_M_isFree : mL mM_isFree = 6 := rfl
theorem ml_M_water : mL mM_water = 3 := rfl
theorem ml_M_hold : mL mM_hold = 4 := rfl
theorem ml_M_plan : mL mM_plan = 5 := rfl
theorem ml_M_bits : mL mM_bits = 3 := rfl
theorem ml_M_tries : mL mM_tries = 9 := rfl
theorem ml_M_planned : mL mM_planned = 3 := rfl
theorem ml_M_feed : mL mM_feed = 4 := rfl
theorem ml_M_wipe : mL mM_wipe = 2 := rfl
theorem ml_M_rule : mL mM_rule = 3 := rfl
theorem ml_M_readRule : mL mM_readRule = 1 := rfl
theorem ml_M_keyHere : mL mM_keyHere = 1 := rfl
theorem ml_M_here : mL mM_here = 1 := rfl
theorem ml_M_named : mL mM_named = 6 := rfl
theorem ml_M_letters : mL mM_letters = 5 := rfl
theorem ml_M_one : mL mM_one = 2 := rfl
theorem ml_M_numberHere : mL mM_numberHere = 3 := rfl
theorem ml_M_testHere : mL mM_testHere = 2 := rfl
theorem ml_M_fieldHere : mL mM_fieldHere = 1 := rfl
theorem ml_M_holds : mL mM_holds = 4 := rfl
theorem ml_M_said : mL mM_said = 3 := rfl
theorem ml_M_see : mL mM_see = 4 := rfl
theorem ml_M_isBuyer : mL mM_isBuyer = 1 := rfl
theorem ml_M_bid : mL mM_bid = 7 := rfl
theorem ml_M_isBarred : mL mM_isBarred = 5 := rfl
theorem ml_M_sell : mL mM_sell = 4 := rfl
theorem ml_M_weigh : mL mM_weigh = 4 := rfl
theorem ml_M_moneyFor : mL mM_moneyFor = 3 := rfl
theorem ml_M_off : mL mM_off = 6 := rfl
theorem ml_M_noScale : mL mM_noScale = 3 := rfl
theorem ml_M_test : mL mM_test = 6 := rfl
theorem ml_M_account : mL mM_account = 5 := rfl
theorem ml_M_write : mL mM_write = 3 := rfl
theorem ml_M_whose : mL mM_whose = 3 := rfl
theorem ml_M_near : mL mM_near = 4 := rfl
theorem ml_M_judge : mL mM_judge = 4 := rfl
theorem ml_M_run : mL mM_run = 4 := rfl
theorem ml_M_forget : mL mM_forget = 3 := rfl
theorem ml_M_count : mL mM_count = 4 := rfl
theorem ml_M_lay : mL mM_lay = 3 := rfl
theorem ml_M_tear : mL mM_tear = 2 := rfl
theorem ml_M_row : mL mM_row = 2 := rfl
theorem ml_M_copy : mL mM_copy = 5 := rfl
theorem ic_m5 : Int32.ofInt (-5) = (-5) := by decide
theorem ic_m1 : Int32.ofInt (-1) = (-1) := by decide
theorem ic_0 : Int32.ofInt 0 = 0 := by decide
theorem ic_1 : Int32.ofInt 1 = 1 := by decide
theorem ic_2 : Int32.ofInt 2 = 2 := by decide
theorem ic_3 : Int32.ofInt 3 = 3 := by decide
theorem ic_4 : Int32.ofInt 4 = 4 := by decide
theorem ic_5 : Int32.ofInt 5 = 5 := by decide
theorem ic_6 : Int32.ofInt 6 = 6 := by decide
theorem bp_m99 : (Int8.ofInt (-99)).toInt32 = (-99) := by decide
theorem bp_m10 : (Int8.ofInt (-10)).toInt32 = (-10) := by decide
theorem bp_m8 : (Int8.ofInt (-8)).toInt32 = (-8) := by decide
theorem bp_m7 : (Int8.ofInt (-7)).toInt32 = (-7) := by decide
theorem bp_m6 : (Int8.ofInt (-6)).toInt32 = (-6) := by decide
theorem bp_m5 : (Int8.ofInt (-5)).toInt32 = (-5) := by decide
theorem bp_m4 : (Int8.ofInt (-4)).toInt32 = (-4) := by decide
theorem bp_m3 : (Int8.ofInt (-3)).toInt32 = (-3) := by decide
theorem bp_m2 : (Int8.ofInt (-2)).toInt32 = (-2) := by decide
theorem bp_6 : (Int8.ofInt 6).toInt32 = 6 := by decide
theorem bp_8 : (Int8.ofInt 8).toInt32 = 8 := by decide
theorem bp_9 : (Int8.ofInt 9).toInt32 = 9 := by decide
theorem bp_10 : (Int8.ofInt 10).toInt32 = 10 := by decide
theorem bp_11 : (Int8.ofInt 11).toInt32 = 11 := by decide
theorem bp_13 : (Int8.ofInt 13).toInt32 = 13 := by decide
theorem bp_14 : (Int8.ofInt 14).toInt32 = 14 := by decide
theorem bp_15 : (Int8.ofInt 15).toInt32 = 15 := by decide
theorem bp_16 : (Int8.ofInt 16).toInt32 = 16 := by decide
theorem bp_18 : (Int8.ofInt 18).toInt32 = 18 := by decide
theorem bp_19 : (Int8.ofInt 19).toInt32 = 19 := by decide
theorem bp_20 : (Int8.ofInt 20).toInt32 = 20 := by decide
theorem bp_21 : (Int8.ofInt 21).toInt32 = 21 := by decide
theorem bp_23 : (Int8.ofInt 23).toInt32 = 23 := by decide
theorem bp_24 : (Int8.ofInt 24).toInt32 = 24 := by decide
theorem bp_25 : (Int8.ofInt 25).toInt32 = 25 := by decide
theorem bp_27 : (Int8.ofInt 27).toInt32 = 27 := by decide
theorem bp_30 : (Int8.ofInt 30).toInt32 = 30 := by decide
theorem bp_31 : (Int8.ofInt 31).toInt32 = 31 := by decide
theorem bp_32 : (Int8.ofInt 32).toInt32 = 32 := by decide
theorem bp_33 : (Int8.ofInt 33).toInt32 = 33 := by decide
theorem bp_48 : (Int8.ofInt 48).toInt32 = 48 := by decide
theorem bp_57 : (Int8.ofInt 57).toInt32 = 57 := by decide
theorem bp_60 : (Int8.ofInt 60).toInt32 = 60 := by decide
theorem bp_61 : (Int8.ofInt 61).toInt32 = 61 := by decide
theorem bp_62 : (Int8.ofInt 62).toInt32 = 62 := by decide
theorem bp_63 : (Int8.ofInt 63).toInt32 = 63 := by decide
theorem bp_80 : (Int8.ofInt 80).toInt32 = 80 := by decide
theorem bp_97 : (Int8.ofInt 97).toInt32 = 97 := by decide
theorem bp_99 : (Int8.ofInt 99).toInt32 = 99 := by decide
theorem bp_100 : (Int8.ofInt 100).toInt32 = 100 := by decide
theorem bp_120 : (Int8.ofInt 120).toInt32 = 120 := by decide
theorem sp_200 : (Int16.ofInt 200).toInt32 = 200 := by decide
theorem sp_255 : (Int16.ofInt 255).toInt32 = 255 := by decide
theorem sp_500 : (Int16.ofInt 500).toInt32 = 500 := by decide
theorem sp_1000 : (Int16.ofInt 1000).toInt32 = 1000 := by decide
theorem sp_1440 : (Int16.ofInt 1440).toInt32 = 1440 := by decide
theorem sp_2000 : (Int16.ofInt 2000).toInt32 = 2000 := by decide
theorem sp_5000 : (Int16.ofInt 5000).toInt32 = 5000 := by decide
theorem sp_9999 : (Int16.ofInt 9999).toInt32 = 9999 := by decide
theorem sp_10000 : (Int16.ofInt 10000).toInt32 = 10000 := by decide
