/-! the reference's constructor, whole -/
theorem sI_13 {w : Wd} (h : 0 < wC w 13) : 0 < wC (sI w 13 0 47 (-1)) 13 := h
set_option maxRecDepth 100000 in
set_option maxHeartbeats 800000 in
theorem smM_init {l : Launch} {G : Gc} {w : Wd} (h13 : 0 < wC w 13) : Sem l G mM_init 2 49 2754 [.inr (.inr (some (13, 0)))] w (fun r w' => r = none ∧ w' = miW w) := by
  refine Sem_of (by decide) rfl (Nat.le_of_ble_eq_true rfl) ?_
  refine wq_ok (M := mM_init) (C := cenM) (X := (alk [])) (OI := some 1) (TG := fun p => (alk [] p).getD 0) (tb := tM_init) (st := [4]) eoM XOk_nil (oi_some wq_M) kM_init 20 _ _ _ _ _ _ ?_
  simp only [reduceCtorEq, fv0, fv1, fv2, fv3, bI_0, bI_1, bft, MSh_sI_eq, fsP_T, inL_0, inL_s, pad_0, pad_n, pad_s, wqn_s, wq1_s, lg_0, lg_s, lset_0, lset_s, kil_0, kil_s, st1_s, st2_s, isL_i, isL_l, isL_r, isL_n, spl_0, spl_s, cll_n, cll_s, catS_0, catS_s, jmp_s, alk_0, alk_s, otl_n, otl_s, List.nil_append, List.cons_append, List.contains_cons, List.contains_nil, Nat.reduceBEq, Bool.or_false, Bool.false_or, Bool.or_self, Bool.false_eq_true, Bool.true_or, Bool.or_true, if_true, if_false, ite_true, ite_false, ↓reduceIte, List.length_cons, List.length_nil, Nat.reduceAdd, Nat.reduceLT, Nat.reduceLeDiff, Nat.reduceEqDiff, Int.reduceAdd, Int.reduceLE, Int.toNat_natCast, Int.reduceToNat, Int.cast_ofNat_Int, true_and, and_true, false_and, and_false, true_implies, forall_const, eq_self, and_self, or_true, true_or, or_self, false_or, or_false, yI_sI, yR_sI, yC_sI, yN_sI, yI_sR, yR_sR, yC_sR, yN_sR, not_true_eq_false, not_false_eq_true, false_implies, implies_true, Nat.zero_add, Nat.add_zero, Nat.le_refl, Nat.reduceSub, Int.reduceSub, Int.reduceLT, Int.sub_zero, Int.sub_self, List.getElem?_toArray, List.getElem?_cons_zero, List.getElem?_cons_succ, Int.toNat_zero, Int.toNat_one, Int.lt_irrefl, yI_sB, yR_sB, yC_sB, yN_sB, MSh_sB_eq, wqn_0, yC_nC, yI_nC, yR_nC, yN_nC, Option.getD_some, Option.getD_none, Option.some.injEq, sq_new, sq_newI, sq_newB, sq_putI, sq_putR, sq_aload_n, sq_special, pM_init_0, stp_aload_n, pM_init_1, stp_invokespecial, nv_M_init, ml_M_init, h13]
  refine bkM_4 h13 (by decide) (by decide) ?_
  have g := naF_13 (t := 101) (k := 1) (n := 9) h13 (by decide)
  refine bkM_12 g (by decide) (by decide) ?_
  have g := naF_13 (t := 104) (k := 4) (n := 14) g (by decide)
  refine bkM_20 g (by decide) (by decide) ?_
  have g := naF_13 (t := 105) (k := 5) (n := 14) g (by decide)
  refine bkM_28 g (by decide) (by decide) ?_
  have g := naF_13 (t := 107) (k := 7) (n := 20) g (by decide)
  refine bkM_36 g (by decide) (by decide) ?_
  have g := naF_13 (t := 108) (k := 8) (n := 20) g (by decide)
  refine bkM_44 g (by decide) (by decide) ?_
  have g := naF_13 (t := 109) (k := 9) (n := 20) g (by decide)
  refine bkM_52 g (by decide) (by decide) ?_
  have g := naF_13 (t := 110) (k := 10) (n := 14) g (by decide)
  refine bkM_60 g (by decide) (by decide) ?_
  have g := naF_13 (t := 111) (k := 11) (n := 14) g (by decide)
  refine bkM_68 g (by decide) (by decide) ?_
  have g := naF_13 (t := 114) (k := 14) (n := 500) g (by decide)
  refine bkM_77 g (by decide) (by decide) ?_
  have g := naF_13 (t := 115) (k := 15) (n := 500) g (by decide)
  refine bkM_86 g (by decide) (by decide) ?_
  have g := naF_13 (t := 116) (k := 16) (n := 500) g (by decide)
  refine bkM_95 g (by decide) (by decide) ?_
  have g := naF_13 (t := 118) (k := 18) (n := 24) g (by decide)
  refine bkM_103 g (by decide) (by decide) ?_
  have g := naF_13 (t := 119) (k := 19) (n := 24) g (by decide)
  refine bkM_111 g (by decide) (by decide) ?_
  have g := naF_13 (t := 120) (k := 20) (n := 24) g (by decide)
  refine bkM_119 g (by decide) (by decide) ?_
  have g := naF_13 (t := 121) (k := 21) (n := 24) g (by decide)
  refine bkM_127 g (by decide) (by decide) ?_
  have g := naF_13 (t := 122) (k := 22) (n := 24) g (by decide)
  refine bkM_135 g (by decide) (by decide) ?_
  have g := naF_13 (t := 123) (k := 23) (n := 24) g (by decide)
  refine bkM_143 g (by decide) (by decide) ?_
  have g := naF_13 (t := 124) (k := 24) (n := 24) g (by decide)
  refine bkM_151 g (by decide) (by decide) ?_
  have g := naF_13 (t := 125) (k := 25) (n := 24) g (by decide)
  refine bkM_159 g (by decide) (by decide) ?_
  have g := naF_13 (t := 126) (k := 26) (n := 24) g (by decide)
  refine bkM_167 g (by decide) (by decide) ?_
  have g := naF_13 (t := 227) (k := 27) (n := 24) g (by decide)
  refine bkM_175 g (by decide) (by decide) ?_
  have g := naF_13 (t := 128) (k := 28) (n := 24) g (by decide)
  refine bkM_183 g (by decide) (by decide) ?_
  have g := naF_13 (t := 129) (k := 29) (n := 24) g (by decide)
  refine bkM_191 g (by decide) (by decide) ?_
  have g := naF_13 (t := 230) (k := 30) (n := 24) g (by decide)
  refine bkM_199 g (by decide) (by decide) ?_
  have g := naF_13 (t := 131) (k := 31) (n := 24) g (by decide)
  refine bkM_207 g (by decide) (by decide) ?_
  have g := naF_13 (t := 132) (k := 32) (n := 24) g (by decide)
  refine bkM_215 g (by decide) (by decide) ?_
  have g := naF_13 (t := 133) (k := 33) (n := 24) g (by decide)
  refine bkM_223 g (by decide) (by decide) ?_
  have g := naF_13 (t := 134) (k := 34) (n := 24) g (by decide)
  refine bkM_231 g (by decide) (by decide) ?_
  have g := naF_13 (t := 235) (k := 35) (n := 120) g (by decide)
  refine bkM_239 g (by decide) (by decide) ?_
  have g := naF_13 (t := 136) (k := 36) (n := 120) g (by decide)
  refine bkM_247 g (by decide) (by decide) ?_
  have g := naF_13 (t := 137) (k := 37) (n := 120) g (by decide)
  refine bkM_255 g (by decide) (by decide) ?_
  have g := naF_13 (t := 239) (k := 39) (n := 24) g (by decide)
  refine bkM_263 g (by decide) (by decide) ?_
  have g := naF_13 (t := 141) (k := 41) (n := 4) g (by decide)
  refine bkM_270 g (by decide) (by decide) ?_
  have g := naF_13 (t := 142) (k := 42) (n := 4) g (by decide)
  refine bkM_277 g (by decide) (by decide) ?_
  have g := naF_13 (t := 143) (k := 43) (n := 4) g (by decide)
  refine bkM_284 g (by decide) (by decide) ?_
  have g := naF_13 (t := 144) (k := 44) (n := 4) g (by decide)
  refine bkM_291 g ?_
  have g := sI_13 g
  refine bkM_296 g (by decide) (by decide) ?_
  have g := naF_13 (t := 149) (k := 49) (n := 11) g (by decide)
  refine bkM_304 g (by decide) (by decide) ?_
  have g := naF_13 (t := 150) (k := 50) (n := 11) g (by decide)
  refine bkM_312 g (by decide) (by decide) ?_
  have g := naF_13 (t := 151) (k := 51) (n := 11) g (by decide)
  refine bkM_320 g (by decide) (by decide) ?_
  have g := naF_13 (t := 152) (k := 52) (n := 11) g (by decide)
  refine bkM_328 g (by decide) (by decide) ?_
  have g := naF_13 (t := 153) (k := 53) (n := 11) g (by decide)
  refine bkM_336 g (by decide) (by decide) ?_
  have g := naF_13 (t := 254) (k := 54) (n := 33) g (by decide)
  refine bkM_344 g (by decide) (by decide) ?_
  have g := naF_13 (t := 155) (k := 55) (n := 33) g (by decide)
  refine bkM_352 g (by decide) (by decide) ?_
  have g := naF_13 (t := 156) (k := 56) (n := 33) g (by decide)
  refine bkM_360 g (by decide) (by decide) ?_
  have g := naF_13 (t := 157) (k := 57) (n := 33) g (by decide)
  refine bkM_368 g (by decide) (by decide) ?_
  have g := naF_13 (t := 159) (k := 59) (n := 80) g (by decide)
  refine bkM_376 g (by decide) (by decide) ?_
  have g := naF_13 (t := 164) (k := 64) (n := 20) g (by decide)
  refine bkM_384 g (by decide) (by decide) ?_
  have g := naF_13 (t := 165) (k := 65) (n := 20) g (by decide)
  refine bkM_392 g (by decide) (by decide) ?_
  have g := naF_13 (t := 168) (k := 68) (n := 14) g (by decide)
  refine wq_ok (M := mM_init) (C := cenM) (X := (alk [])) (OI := some 1) (TG := fun p => (alk [] p).getD 0) (tb := tM_init) (st := []) eoM XOk_nil (oi_some wq_M) kM_init 20 _ _ _ _ _ _ ?_
  simp only [reduceCtorEq, fv0, fv1, fv2, fv3, bI_0, bI_1, bft, MSh_sI_eq, fsP_T, inL_0, inL_s, pad_0, pad_n, pad_s, wqn_s, wq1_s, lg_0, lg_s, lset_0, lset_s, kil_0, kil_s, st1_s, st2_s, isL_i, isL_l, isL_r, isL_n, spl_0, spl_s, cll_n, cll_s, catS_0, catS_s, jmp_s, alk_0, alk_s, otl_n, otl_s, List.nil_append, List.cons_append, List.contains_cons, List.contains_nil, Nat.reduceBEq, Bool.or_false, Bool.false_or, Bool.or_self, Bool.false_eq_true, Bool.true_or, Bool.or_true, if_true, if_false, ite_true, ite_false, ↓reduceIte, List.length_cons, List.length_nil, Nat.reduceAdd, Nat.reduceLT, Nat.reduceLeDiff, Nat.reduceEqDiff, Int.reduceAdd, Int.reduceLE, Int.toNat_natCast, Int.reduceToNat, Int.cast_ofNat_Int, true_and, and_true, false_and, and_false, true_implies, forall_const, eq_self, and_self, or_true, true_or, or_self, false_or, or_false, yI_sI, yR_sI, yC_sI, yN_sI, yI_sR, yR_sR, yC_sR, yN_sR, not_true_eq_false, not_false_eq_true, false_implies, implies_true, Nat.zero_add, Nat.add_zero, Nat.le_refl, Nat.reduceSub, Int.reduceSub, Int.reduceLT, Int.sub_zero, Int.sub_self, List.getElem?_toArray, List.getElem?_cons_zero, List.getElem?_cons_succ, Int.toNat_zero, Int.toNat_one, Int.lt_irrefl, yI_sB, yR_sB, yC_sB, yN_sB, MSh_sB_eq, wqn_0, yC_nC, yI_nC, yR_nC, yN_nC, Option.getD_some, Option.getD_none, Option.some.injEq, sq_new, sq_newI, sq_newB, sq_putI, sq_putR, sq_return_, pM_init_400, stp_return_, nv_M_init, ml_M_init]
  simp only [miW, naL, md1, md2, List.foldl_cons, List.foldl_nil]
