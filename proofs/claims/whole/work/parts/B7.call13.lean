/-! calls: test -/
theorem seU_I {w : Wd} {p o : Int32} (hn : ¬ p = -1) : ∀ n j, wI (seU w p o n) 11 j 10 = (if j < n ∧ wI w 11 j 10 = p then -1 else wI w 11 j 10) ∧ wI (seU w p o n) 11 j 8 = (if j < n ∧ wI w 11 j 10 = p then mfC w j (atl1 (wI w 11 j 5 - o)) else wI w 11 j 8)
  | 0, j => ⟨by rw [if_neg (by omega)]; rfl, by rw [if_neg (by omega)]; rfl⟩
  | n + 1, j => by
    obtain ⟨i1, i2⟩ := seU_I hn n j
    have e : seU w p o (n + 1) = if wI w 11 n 10 = p then coW (seU w p o n) n o else seU w p o n := rfl
    by_cases q : wI w 11 n 10 = p
    · rw [e, if_pos q]
      unfold coW
      by_cases z : j = n
      · subst z
        have e4 : mfC (seU w p o j) j (atl1 (wI (seU w p o j) 11 j 5 - o)) = mfC w j (atl1 (wI w 11 j 5 - o)) := by
          unfold mfC
          rw [seU_t _ _ _ _ _ _ _ (by omega), seU_t _ _ _ _ _ _ _ (by omega), seU_t _ _ _ _ _ _ _ (by omega)]
        rw [e4]
        simp only [yI_sI, Nat.reduceEqDiff, Nat.reduceAdd, Nat.reduceMul, reduceCtorEq, false_and, and_false, true_and, and_true, if_false, if_true, ite_false, ite_true, ↓reduceIte, eq_self, and_self, or_true, true_or, not_true_eq_false, false_implies, implies_true]
        rw [if_pos ⟨by omega, q⟩, if_pos ⟨by omega, q⟩]
        exact ⟨rfl, rfl⟩
      · simp only [z, yI_sI, Nat.reduceEqDiff, Nat.reduceAdd, Nat.reduceMul, reduceCtorEq, false_and, and_false, true_and, and_true, if_false, if_true, ite_false, ite_true, ↓reduceIte, eq_self, and_self, or_true, true_or, not_true_eq_false, false_implies, implies_true]
        rw [i1, i2]
        simp only [show (j < n + 1 ∧ wI w 11 j 10 = p) = (j < n ∧ wI w 11 j 10 = p) from propext ⟨fun u => ⟨by omega, u.2⟩, fun u => ⟨by omega, u.2⟩⟩, and_self]
    · rw [e, if_neg q, i1, i2]
      by_cases z : j = n
      · subst z
        rw [if_neg (fun z => q z.2), if_neg (fun z => q z.2), if_neg (fun z => q z.2), if_neg (fun z => q z.2)]; exact ⟨rfl, rfl⟩
      · simp only [show (j < n + 1 ∧ wI w 11 j 10 = p) = (j < n ∧ wI w 11 j 10 = p) from propext ⟨fun u => ⟨by omega, u.2⟩, fun u => ⟨by omega, u.2⟩⟩, and_self]
theorem cnt_no {f : Nat → Bool} : ∀ n, (∀ j, j < n → f j = false) → cntN f n = 0
  | 0, _ => rfl
  | n + 1, h => by
    rw [cntN, cnt_no n (fun j hj => h j (by omega)), h n (by omega)]
    rfl
theorem ts_v {w : Wd} {p o : Int32} {n : Nat} (h : ∀ j, j < n → wI w 11 j 10 = wI w 134 0 j) : (if o = 0 then 0 else cntN (seF w p) n) = cntN (tsC w p o) n := by
  by_cases q : o = 0
  · rw [if_pos q]
    exact (cnt_no n fun j _ => by unfold tsC; rw [decide_eq_true q]; simp).symm
  · rw [if_neg q]
    refine cntN_congr fun j hj => ?_
    unfold seF tsC
    rw [h j hj, decide_eq_false q]
    simp
theorem msk_se {w : Wd} {p o : Int32} {n : Nat} : msk (seU w p o n) = msk w := msk_ag (seU_2 w p o n) fun t k i hc => seU_t _ _ _ _ _ _ _ (fun z => by rw [z.1] at hc; cases hc)
section
variable {l : Launch} {G : Gc} {c : Nat} {w : Wd}
theorem ts_inv {q : Nat} {p o : Int32} (h : Inv c w) (hq3 : q < cn w 3) (hn : ¬ p = -1) (ho : o = wI w 105 0 q) : Inv (c + 1) (sI (tsU (sI (seU w p o (cn w 17)) 172 0 q 0) p o (cn w 17)) 105 0 q 0) := by
  have h17 := (iv_M h).2.2.2.1
  have m : msk (sI (seU w p o (cn w 17)) 172 0 q 0) = msk w := (msk_sI rfl).trans msk_se
  have eF : tsF (sI (seU w p o (cn w 17)) 172 0 q 0) p (cn w 17) = tsF w p (cn w 17) := mskE (f := fun v => tsF v p (cn w 17)) (fun _ => rfl) m
  have eG : tsG (sI (seU w p o (cn w 17)) 172 0 q 0) p o (cn w 17) = tsG w p o (cn w 17) := mskE (f := fun v => tsG v p o (cn w 17)) (fun _ => rfl) m
  have e : ∀ t k i, wI (sI (tsU (sI (seU w p o (cn w 17)) 172 0 q 0) p o (cn w 17)) 105 0 q 0) t k i = if t = 105 ∧ k = 0 ∧ i = q then 0 else if t = 131 ∧ k = 0 then tsG w p o (cn w 17) i else if t = 134 ∧ k = 0 then tsF w p (cn w 17) i else if t = 172 ∧ k = 0 ∧ i = q then 0 else wI (seU w p o (cn w 17)) t k i := fun t k i => by
    rw [yI_sI]
    unfold tsU
    rw [eF, eG, yI_sB, yI_sB, yI_sI]
  have h2 : (sI (tsU (sI (seU w p o (cn w 17)) 172 0 q 0) p o (cn w 17)) 105 0 q 0).2 = w.2 := seU_2 w p o (cn w 17)
  revert e h2
  generalize sI (tsU (sI (seU w p o (cn w 17)) 172 0 q 0) p o (cn w 17)) 105 0 q 0 = w'
  intro e h2
  have g : ∀ t k i, ¬ (t = 11 ∧ (i = 8 ∨ i = 10)) → ¬ (t = 105 ∨ t = 131 ∨ t = 134 ∨ (t = 172 ∧ i = q)) → wI w' t k i = wI w t k i := fun t k i n1 n2 => by
    rw [e, if_neg (by omega), if_neg (by omega), if_neg (by omega), if_neg (by omega), seU_t _ _ _ _ _ _ _ (by omega)]
  have hM := MSh_of (iv_M h).1 h2
  have e3 := cn_cg (w := w) (w' := w') (g 13 0 3 (by omega) (by omega))
  have e17 := cn_cg (w := w) (w' := w') (g 13 0 17 (by omega) (by omega))
  have e38 := cn_cg (w := w) (w' := w') (g 13 0 38 (by omega) (by omega))
  refine ⟨SSh_of (iv_S h) h2, MOk_cg hM (fun t k i ht => g t k i (by omega) (by omega)) (iv_M h), ?_, IvN_cg h2 (g _ _ _ (by omega) (by omega)) (g _ _ _ (by omega) (by omega)) (iv_N h), IvQ_cg h2 (iv_M h).2.2.2.2.1 (fun t k i ht => g t k i (by omega) (by omega)) (iv_Q h), fun j hj => ?_, IvY_cg (Exw_2 h2) hM (fun t k i ht => g t k i (by omega) (by omega)) (iv_Y h), IvE_cg (Exw_2 h2) (Nat.le_succ c) (fun t k i ht => g t k i (by omega) (by omega)) (iv_E h), IvP_cg (fun t k i ht => g t k i (by omega) (by omega)) (iv_P h), IvW_cg (fun t k i ht => g t k i (by omega) (by omega)) (iv_W h), IvT_cg (Nat.le_succ c) (g _ _ _ (by omega) (by omega)) (g _ _ _ (by omega) (by omega)) (iv_T h), IvK_cg (g _ _ _ (by omega) (by omega)) (fun i => g _ _ _ (by omega) (by omega)) (iv_K h)⟩
  · obtain ⟨c1, c2, c3, c4, c5, c6, c7, c8⟩ := iv_0 h
    have m58 := cn_cg (w := w) (w' := w') (g 13 0 58 (by omega) (by omega))
    have m63 := cn_cg (w := w) (w' := w') (g 13 0 63 (by omega) (by omega))
    refine ⟨?_, ?_, ?_, ?_, fun b hb => ?_, fun p' hp => ?_, fun i hi => ?_, fun i hi => ?_⟩
    · rw [g _ _ _ (by omega) (by omega), g _ _ _ (by omega) (by omega)]; exact c1
    · rw [g _ _ _ (by omega) (by omega), g _ _ _ (by omega) (by omega)]; exact c2
    · rw [g _ _ _ (by omega) (by omega), g _ _ _ (by omega) (by omega)]; exact c3
    · rw [g _ _ _ (by omega) (by omega), g _ _ _ (by omega) (by omega)]; exact c4
    · rw [g _ _ _ (by omega) (by omega), g _ _ _ (by omega) (by omega)]; exact c5 b hb
    · rw [e3] at hp
      refine ⟨by rw [g _ _ _ (by omega) (by omega), g _ _ _ (by omega) (by omega)]; exact (c6 p' hp).1, ?_⟩
      by_cases z : p' = q
      · subst z
        simp only [e, yI_sI, Nat.reduceEqDiff, Nat.reduceAdd, Nat.reduceMul, reduceCtorEq, false_and, and_false, true_and, and_true, if_false, if_true, ite_false, ite_true, ↓reduceIte, eq_self, and_self, or_true, true_or, not_true_eq_false, false_implies, implies_true]
      · have := (c6 p' hp).2
        simp only [e, z, yI_sI, Nat.reduceEqDiff, Nat.reduceAdd, Nat.reduceMul, reduceCtorEq, false_and, and_false, true_and, and_true, if_false, if_true, ite_false, ite_true, ↓reduceIte, eq_self, and_self, or_true, true_or, not_true_eq_false, false_implies, implies_true]
        rw [seU_t _ _ _ _ _ _ _ (by omega), seU_t _ _ _ _ _ _ _ (by omega)]
        exact this
    · rw [m58] at hi
      rw [g _ _ _ (by omega) (by omega), g _ _ _ (by omega) (by omega)]; exact c7 i hi
    · rw [m63] at hi
      rw [g _ _ _ (by omega) (by omega), g _ _ _ (by omega) (by omega), g _ _ _ (by omega) (by omega), g _ _ _ (by omega) (by omega)]; exact c8 i hi
  · rw [e17] at hj
    have hL := iv_L h hj
    obtain ⟨a1, a2, a3, a4, a5, a6, a7, a8, a9, b1, b2, b3, b4, b5, b6, b7, b8, b9, d1, d2, d3, d4, d5⟩ := hL.2.1
    have hW := hL.2.2.2.2.2.2
    obtain ⟨s1, s2⟩ := seU_I (w := w) (o := o) hn (cn w 17) j
    have f10 : wI w' 11 j 10 = if wI w 134 0 j = p then -1 else wI w 134 0 j := by
      rw [e, if_neg (by omega), if_neg (by omega), if_neg (by omega), if_neg (by omega), s1, b5]
      by_cases z : wI w 134 0 j = p
      · rw [if_pos ⟨hj, z⟩, if_pos z]
      · rw [if_neg (fun y => z y.2), if_neg z]
    have f134 : wI w' 134 0 j = if wI w 134 0 j = p then -1 else wI w 134 0 j := by
      rw [e, if_neg (by omega), if_neg (by omega), if_pos ⟨rfl, rfl⟩]
      unfold tsF
      by_cases z : wI w 134 0 j = p
      · rw [if_pos ⟨hj, z⟩, if_pos z]
      · rw [if_neg (fun y => z y.2), if_neg z]
    have f131 : wI w' 131 0 j = if wI w 134 0 j = p ∧ ¬ o = 0 then tsM w j o else wI w 131 0 j := by
      rw [e, if_neg (by omega), if_pos ⟨rfl, rfl⟩]
      unfold tsG
      by_cases z : wI w 134 0 j = p ∧ ¬ o = 0
      · rw [if_pos ⟨hj, z⟩, if_pos z]
      · rw [if_neg (fun y => z y.2), if_neg z]
    have f8 : wI w' 11 j 8 = if wI w 134 0 j = p then mfC w j (atl1 (wI w 11 j 5 - o)) else wI w 11 j 8 := by
      rw [e, if_neg (by omega), if_neg (by omega), if_neg (by omega), if_neg (by omega), s2, b5]
      by_cases z : wI w 134 0 j = p
      · rw [if_pos ⟨hj, z⟩, if_pos z]
      · rw [if_neg (fun y => z y.2), if_neg z]
    have f8' : ¬ wI w 230 0 j = 0 → wI w' 11 j 8 = wI w' 131 0 j := fun hp => by
      obtain ⟨r1, r2, r3, r4⟩ := b9 hp
      rw [f8, f131]
      by_cases z : wI w 134 0 j = p
      · rw [if_pos z]
        have em : ∀ gg, mfC w j gg = mnI w j gg (wI w 132 0 j) := fun gg => by
          unfold mfC mnI
          rw [(b8 r4).1, r2]
        rw [em, r1]
        by_cases y : o = 0
        · rw [if_neg (fun u => u.2 y), y]
          obtain ⟨v1, v2⟩ := hW (by rw [z]; exact hn)
          rw [v1, show wI w 133 0 j - 0 = wI w 133 0 j by simp, v2]
        · rw [if_pos ⟨z, y⟩]; rfl
      · rw [if_neg z, if_neg (fun u => z u.1)]; exact r3
    refine ⟨LtS_e (Exw_2 h2) hL.1, ?_, ?_, GoC_cg (Nat.le_succ c) (by omega) (g _ _ _ (by omega) (by omega)) (g _ _ _ (by omega) (by omega)) (by rw [g _ _ _ (by omega) (by omega)]; exact hL.2.2.2.2.2.1) (fun z => ?_) hL.2.2.2⟩
    · have q := fun t k i n1 n2 => g t k i n1 n2
      unfold LtC
      refine ⟨?_, ?_, ?_, ?_, ?_, ?_, ?_, ?_, ?_, ?_, ?_, ?_, ?_, ?_, fun b hb => ?_, fun b hb => ?_, ?_, fun z => ?_, ?_, ?_, fun z => ?_, ?_, ?_⟩
      · rw [g _ _ _ (by omega) (by omega), g _ _ _ (by omega) (by omega)]; exact a1
      · rw [g _ _ _ (by omega) (by omega), g _ _ _ (by omega) (by omega)]; exact a2
      · rw [g _ _ _ (by omega) (by omega), g _ _ _ (by omega) (by omega)]; exact a3
      · rw [g _ _ _ (by omega) (by omega), g _ _ _ (by omega) (by omega)]; exact a4
      · rw [g _ _ _ (by omega) (by omega), g _ _ _ (by omega) (by omega)]; exact a5
      · rw [g _ _ _ (by omega) (by omega), g _ _ _ (by omega) (by omega)]; exact a6
      · rw [g _ _ _ (by omega) (by omega), g _ _ _ (by omega) (by omega)]; exact a7
      · rw [g _ _ _ (by omega) (by omega), g _ _ _ (by omega) (by omega)]; exact a8
      · rw [g _ _ _ (by omega) (by omega), g _ _ _ (by omega) (by omega)]; exact a9
      · rw [g _ _ _ (by omega) (by omega), g _ _ _ (by omega) (by omega)]; exact b1
      · rw [g _ _ _ (by omega) (by omega), g _ _ _ (by omega) (by omega)]; exact b2
      · rw [g _ _ _ (by omega) (by omega), g _ _ _ (by omega) (by omega)]; exact b3
      · rw [g _ _ _ (by omega) (by omega), g _ _ _ (by omega) (by omega)]; exact b4
      · rw [f10, f134]
      · rw [g _ _ _ (by omega) (by omega), g _ _ _ (by omega) (by omega)]; exact b6 b hb
      · rw [g _ _ _ (by omega) (by omega), g _ _ _ (by omega) (by omega)]; exact b7 b hb
      · rw [g _ _ _ (by omega) (by omega), g _ _ _ (by omega) (by omega), g _ _ _ (by omega) (by omega), g _ _ _ (by omega) (by omega)]; exact b8
      · rw [g _ _ _ (by omega) (by omega)] at z
        obtain ⟨r1, r2, r3, r4⟩ := b9 z
        refine ⟨?_, ?_, f8' z, ?_⟩
        · rw [g _ _ _ (by omega) (by omega), g _ _ _ (by omega) (by omega)]; exact r1
        · rw [g _ _ _ (by omega) (by omega), g _ _ _ (by omega) (by omega), g _ _ _ (by omega) (by omega)]; exact r2
        · rw [g _ _ _ (by omega) (by omega)]; exact r4
      · rw [g _ _ _ (by omega) (by omega)]; exact d1
      · rw [g _ _ _ (by omega) (by omega)]; exact d2
      · rw [g _ _ _ (by omega) (by omega)]
        refine d3 fun u => z ?_
        rw [f134]
        by_cases y : wI w 134 0 j = p
        · rw [if_pos y]
        · rw [if_neg y]; exact u
      · rw [g _ _ _ (by omega) (by omega)]; exact d4
      · rw [g _ _ _ (by omega) (by omega), g _ _ _ (by omega) (by omega), g _ _ _ (by omega) (by omega)]; exact d5
    · obtain ⟨T, t1, t2, x, y, t3⟩ := hL.2.2.1
      refine ⟨T, by rw [g _ _ _ (by omega) (by omega)]; exact t1, by omega, x, y, fun b hb hn => ?_⟩
      rw [g _ _ _ (by omega) (by omega)] at hn
      obtain ⟨q1, q2, q3, q4, q5⟩ := t3 b hb hn
      refine ⟨by rw [g _ _ _ (by omega) (by omega)]; exact q1, by rw [g _ _ _ (by omega) (by omega)]; exact q2, q3, by omega, fun b' hb' hn' => ?_⟩
      rw [g _ _ _ (by omega) (by omega)] at hn'
      exact q5 b' hb' hn'
    · rw [f134] at z
      by_cases y : wI w 134 0 j = p
      · rw [if_pos y] at z; exact absurd rfl z
      · rw [if_neg y] at z
        obtain ⟨v1, v2⟩ := hW z
        rw [f131, if_neg (fun u => y u.1)]
        unfold mnI at v1 ⊢
        rw [g 129 _ _ (by omega) (by omega), g 120 _ _ (by omega) (by omega), g 133 _ _ (by omega) (by omega), g 132 _ _ (by omega) (by omega)]
        exact ⟨v1, v2⟩
set_option maxRecDepth 100000 in
set_option maxHeartbeats 4000000 in
theorem ca_test (h : Inv c w) (hc : c < 1000) (p : Int32) : Cok l G c w mS_test mM_test [.inl p] := by
  have hS := iv_S h
  have hM := iv_M h
  have hl := iv_l h
  have hr := iv_r h
  have hy := iv_y h
  have h0 := iv_0 h
  obtain ⟨-, h3, h6, h17, hR, h63, h58, -⟩ := id hM
  refine ⟨18, by decide, Sem_of (by decide) rfl (Nat.le_of_ble_eq_true rfl) ?_⟩
  refine wpn_ok (M := mS_test) (C := cenS) (X := (alk [(89, lvY_hasPlace, fsY_hasPlace), (120, lvY_kindOf, fsY_kindOf), (318, lvY_offOf, fsY_offOf), (321, lvY_setOff, fsY_setOff), (324, lvS_settle, fsS_settle), (79, lvS_refuse, fsS_refuse)])) (tb := tS_test) (st := []) eoS (XOk_cons qmS_89 (okY_hasPlace l G) (XOk_cons qmS_120 (okY_kindOf l G) (XOk_cons qmS_318 (okY_offOf l G) (XOk_cons qmS_321 (okY_setOff l G) (XOk_cons qmS_324 (okS_settle l G) (XOk_cons qmS_79 (okS_refuse l G) XOk_nil)))))) kS_test 250 _ _ _ _ _ _ ?_
  have ru1 := ruY_hasPlace (p := p) hS h3 h0
  have ru2 := ruY_kindOf (p := p) hS h3 h0
  have ru3 := ruY_offOf (p := p) hS h3 h0
  cases h1 : inR p 0 (wI w 13 0 3 - 1)
  case false =>
    simp only [reduceCtorEq, fv0, fv1, fv2, fv3, bI_0, bI_1, bft, MSh_sI_eq, fsP_T, inL_0, inL_s, pad_0, pad_n, pad_s, wpn_s, wp1_s, lg_0, lg_s, lset_0, lset_s, kil_0, kil_s, st1_s, st2_s, isL_i, isL_l, isL_r, isL_n, spl_0, spl_s, cll_n, cll_s, catS_0, catS_s, jmp_s, alk_0, alk_s, otl_n, otl_s, List.nil_append, List.cons_append, List.contains_cons, List.contains_nil, Nat.reduceBEq, Bool.or_false, Bool.false_or, Bool.or_self, Bool.false_eq_true, Bool.true_or, Bool.or_true, if_true, if_false, ite_true, ite_false, ↓reduceIte, List.length_cons, List.length_nil, Nat.reduceAdd, Nat.reduceLT, Nat.reduceLeDiff, Nat.reduceEqDiff, Int.reduceAdd, Int.reduceLE, Int.toNat_natCast, Int.reduceToNat, Int.cast_ofNat_Int, true_and, and_true, false_and, and_false, true_implies, forall_const, eq_self, and_self, or_true, true_or, or_self, false_or, or_false, yI_sI, yR_sI, yC_sI, yN_sI, yI_sR, yR_sR, yC_sR, yN_sR, not_true_eq_false, not_false_eq_true, false_implies, implies_true, Nat.zero_add, Nat.add_zero, Nat.le_refl, Nat.reduceSub, Int.reduceSub, Int.reduceLT, Int.sub_zero, Int.sub_self, List.getElem?_toArray, List.getElem?_cons_zero, List.getElem?_cons_succ, Int.toNat_zero, Int.toNat_one, Int.lt_irrefl, yI_sB, yR_sB, yC_sB, yN_sB, MSh_sB_eq, pS_test_0, stp_aload_n, pS_test_1, stp_getfield, qfS_12, rp_0_0, ss_C0 hS, ss_R0_0 hS, ss_C1 hS, pS_test_4, stp_iload_n, pS_test_5, stp_invokevirtual, qmS_89, cy_Y_hasPlace, pS_test_8, stp_ifCond_ne, pS_test_11, pS_test_12, stp_bipush, pS_test_14, qmS_79, cy_S_refuse, pS_test_17, stp_ireturn, pS_test_18, pS_test_19, pS_test_22, pS_test_23, qmS_120, cy_Y_kindOf, pS_test_26, stp_iconst, pS_test_27, stp_if_icmp_eq, pS_test_30, pS_test_31, pS_test_33, pS_test_36, pS_test_37, pS_test_38, pS_test_39, pS_test_40, pS_test_43, pS_test_44, qmS_318, cy_Y_offOf, pS_test_47, qmS_324, cy_S_settle, pS_test_50, stp_istore_n, pS_test_51, pS_test_52, pS_test_55, pS_test_56, pS_test_57, qmS_321, cy_Y_setOff, pS_test_60, pS_test_61, bp_m3, ic_2, bp_m5, ic_0, nv_S_test, ml_S_test, ru1, h1, rfS_3 hS, lvY_hasPlace, lvY_kindOf, lvY_offOf, lvY_setOff, lvS_settle, lvS_refuse]
    refine Pst_rf (d := fun w => tsD w p) (v := fun w => cntN (tsC w p (wI w 105 0 p.toNatClampNeg)) (cn w 17)) (W := fun w => sI (tsU w p (wI w 105 0 p.toNatClampNeg) (cn w 17)) 105 0 p.toNatClampNeg 0) (okM_test l G) (by decide) (fun _ => rfl) h (b := 3) (by decide) rfl ?_
    show tsD w p = _
    simp only [tsD, nsD, h1, if_true]
    rfl
  case true =>
    have ek : kdI w p = wI w 104 0 p.toNatClampNeg := (by unfold kdI; rw [if_pos h1])
    have eo : ofI w p = wI w 105 0 p.toNatClampNeg := (by unfold ofI; rw [if_pos h1])
    by_cases h2 : wI w 104 0 p.toNatClampNeg = 2
    case neg =>
      simp only [reduceCtorEq, fv0, fv1, fv2, fv3, bI_0, bI_1, bft, MSh_sI_eq, fsP_T, inL_0, inL_s, pad_0, pad_n, pad_s, wpn_s, wp1_s, lg_0, lg_s, lset_0, lset_s, kil_0, kil_s, st1_s, st2_s, isL_i, isL_l, isL_r, isL_n, spl_0, spl_s, cll_n, cll_s, catS_0, catS_s, jmp_s, alk_0, alk_s, otl_n, otl_s, List.nil_append, List.cons_append, List.contains_cons, List.contains_nil, Nat.reduceBEq, Bool.or_false, Bool.false_or, Bool.or_self, Bool.false_eq_true, Bool.true_or, Bool.or_true, if_true, if_false, ite_true, ite_false, ↓reduceIte, List.length_cons, List.length_nil, Nat.reduceAdd, Nat.reduceLT, Nat.reduceLeDiff, Nat.reduceEqDiff, Int.reduceAdd, Int.reduceLE, Int.toNat_natCast, Int.reduceToNat, Int.cast_ofNat_Int, true_and, and_true, false_and, and_false, true_implies, forall_const, eq_self, and_self, or_true, true_or, or_self, false_or, or_false, yI_sI, yR_sI, yC_sI, yN_sI, yI_sR, yR_sR, yC_sR, yN_sR, not_true_eq_false, not_false_eq_true, false_implies, implies_true, Nat.zero_add, Nat.add_zero, Nat.le_refl, Nat.reduceSub, Int.reduceSub, Int.reduceLT, Int.sub_zero, Int.sub_self, List.getElem?_toArray, List.getElem?_cons_zero, List.getElem?_cons_succ, Int.toNat_zero, Int.toNat_one, Int.lt_irrefl, yI_sB, yR_sB, yC_sB, yN_sB, MSh_sB_eq, pS_test_0, stp_aload_n, pS_test_1, stp_getfield, qfS_12, rp_0_0, ss_C0 hS, ss_R0_0 hS, ss_C1 hS, pS_test_4, stp_iload_n, pS_test_5, stp_invokevirtual, qmS_89, cy_Y_hasPlace, pS_test_8, stp_ifCond_ne, pS_test_11, pS_test_12, stp_bipush, pS_test_14, qmS_79, cy_S_refuse, pS_test_17, stp_ireturn, pS_test_18, pS_test_19, pS_test_22, pS_test_23, qmS_120, cy_Y_kindOf, pS_test_26, stp_iconst, pS_test_27, stp_if_icmp_eq, pS_test_30, pS_test_31, pS_test_33, pS_test_36, pS_test_37, pS_test_38, pS_test_39, pS_test_40, pS_test_43, pS_test_44, qmS_318, cy_Y_offOf, pS_test_47, qmS_324, cy_S_settle, pS_test_50, stp_istore_n, pS_test_51, pS_test_52, pS_test_55, pS_test_56, pS_test_57, qmS_321, cy_Y_setOff, pS_test_60, pS_test_61, bp_m3, ic_2, bp_m5, ic_0, nv_S_test, ml_S_test, ru1, ru2, ek, show ¬ (1 : Int32) = 0 by decide, h1, h2, rfS_5 hS, lvY_hasPlace, lvY_kindOf, lvY_offOf, lvY_setOff, lvS_settle, lvS_refuse]
      refine Pst_rf (d := fun w => tsD w p) (v := fun w => cntN (tsC w p (wI w 105 0 p.toNatClampNeg)) (cn w 17)) (W := fun w => sI (tsU w p (wI w 105 0 p.toNatClampNeg) (cn w 17)) 105 0 p.toNatClampNeg 0) (okM_test l G) (by decide) (fun _ => rfl) h (b := 5) (by decide) rfl ?_
      show tsD w p = _
      simp only [tsD, nsD, h1, h2, Bool.true_eq_false, not_false_eq_true, if_true, if_false]
      rfl
    case pos =>
      have se := ruS_settle (p := p) (o := wI w 105 0 p.toNatClampNeg) hl
      obtain ⟨q, hq, epq, eq2, -, -⟩ := okc_p h3 (by omega) h1
      have hn1 : ¬ p = -1 := (by rw [epq]; exact nI_nm1 (by have := h3.2; omega))
      have hw1 := seU_2 w p (wI w 105 0 p.toNatClampNeg) (cn w 17)
      have hS1 := SSh_of hS hw1
      have g1 := fun t k i hh => seU_t w p (wI w 105 0 p.toNatClampNeg) (cn w 17) t k i hh
      have rs := ruY_setOff (w := seU w p (wI w 105 0 p.toNatClampNeg) (cn w 17)) (p := p) (v := 0) hS1 (okc_cg (g1 _ _ _ (by omega)) h3) (Cp0_cg' (fun t k i ht => g1 t k i (by omega)) h0) (by rw [g1 _ _ _ (by omega)]; exact h1)
      have iv := ts_inv (q := p.toNatClampNeg) h (by rw [eq2]; exact hq) hn1 rfl
      have e17 : cn (sI (seU w p (wI w 105 0 p.toNatClampNeg) (cn w 17)) 172 0 p.toNatClampNeg 0) 17 = cn w 17 := cn_cg (by rw [yI_sI, if_neg (by omega)]; exact g1 _ _ _ (by omega))
      have e105 : wI (sI (seU w p (wI w 105 0 p.toNatClampNeg) (cn w 17)) 172 0 p.toNatClampNeg 0) 105 0 p.toNatClampNeg = wI w 105 0 p.toNatClampNeg := (by rw [yI_sI, if_neg (by omega)]; exact g1 _ _ _ (by omega))
      simp only [reduceCtorEq, fv0, fv1, fv2, fv3, bI_0, bI_1, bft, MSh_sI_eq, fsP_T, inL_0, inL_s, pad_0, pad_n, pad_s, wpn_s, wp1_s, lg_0, lg_s, lset_0, lset_s, kil_0, kil_s, st1_s, st2_s, isL_i, isL_l, isL_r, isL_n, spl_0, spl_s, cll_n, cll_s, catS_0, catS_s, jmp_s, alk_0, alk_s, otl_n, otl_s, List.nil_append, List.cons_append, List.contains_cons, List.contains_nil, Nat.reduceBEq, Bool.or_false, Bool.false_or, Bool.or_self, Bool.false_eq_true, Bool.true_or, Bool.or_true, if_true, if_false, ite_true, ite_false, ↓reduceIte, List.length_cons, List.length_nil, Nat.reduceAdd, Nat.reduceLT, Nat.reduceLeDiff, Nat.reduceEqDiff, Int.reduceAdd, Int.reduceLE, Int.toNat_natCast, Int.reduceToNat, Int.cast_ofNat_Int, true_and, and_true, false_and, and_false, true_implies, forall_const, eq_self, and_self, or_true, true_or, or_self, false_or, or_false, yI_sI, yR_sI, yC_sI, yN_sI, yI_sR, yR_sR, yC_sR, yN_sR, not_true_eq_false, not_false_eq_true, false_implies, implies_true, Nat.zero_add, Nat.add_zero, Nat.le_refl, Nat.reduceSub, Int.reduceSub, Int.reduceLT, Int.sub_zero, Int.sub_self, List.getElem?_toArray, List.getElem?_cons_zero, List.getElem?_cons_succ, Int.toNat_zero, Int.toNat_one, Int.lt_irrefl, yI_sB, yR_sB, yC_sB, yN_sB, MSh_sB_eq, pS_test_0, stp_aload_n, pS_test_1, stp_getfield, qfS_12, rp_0_0, ss_C0 hS, ss_R0_0 hS, ss_C1 hS, pS_test_4, stp_iload_n, pS_test_5, stp_invokevirtual, qmS_89, cy_Y_hasPlace, pS_test_8, stp_ifCond_ne, pS_test_11, pS_test_12, stp_bipush, pS_test_14, qmS_79, cy_S_refuse, pS_test_17, stp_ireturn, pS_test_18, pS_test_19, pS_test_22, pS_test_23, qmS_120, cy_Y_kindOf, pS_test_26, stp_iconst, pS_test_27, stp_if_icmp_eq, pS_test_30, pS_test_31, pS_test_33, pS_test_36, pS_test_37, pS_test_38, pS_test_39, pS_test_40, pS_test_43, pS_test_44, qmS_318, cy_Y_offOf, pS_test_47, qmS_324, cy_S_settle, pS_test_50, stp_istore_n, pS_test_51, pS_test_52, pS_test_55, pS_test_56, pS_test_57, qmS_321, cy_Y_setOff, pS_test_60, pS_test_61, bp_m3, ic_2, bp_m5, ic_0, nv_S_test, ml_S_test, ru1, ru2, ek, show ¬ (1 : Int32) = 0 by decide, h1, h2, ru3, eo, se, lvY_hasPlace, lvY_kindOf, lvY_offOf, lvY_setOff, lvS_settle, lvS_refuse, rs, ss_C0 hS1, ss_R0_0 hS1, ss_C1 hS1]
      exact Pst_ok2 (d := fun w => tsD w p) (v := fun w => cntN (tsC w p (wI w 105 0 p.toNatClampNeg)) (cn w 17)) (W := fun w => sI (tsU w p (wI w 105 0 p.toNatClampNeg) (cn w 17)) 105 0 p.toNatClampNeg 0) (okM_test l G) (by decide) (fun _ => rfl) (fun _ => rfl) (fun _ => rfl) ((msk_sI rfl).trans msk_se) hM (by simp only [tsD, nsD, h1, h2, Bool.true_eq_false, not_true_eq_false, if_false]; rfl) (ts_v fun j hj => (iv_L h hj).2.1.2.2.2.2.2.2.2.2.2.2.2.2.2.1) (by rw [e105, e17]; exact iv)
end
