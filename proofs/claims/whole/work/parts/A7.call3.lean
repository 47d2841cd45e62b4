/-! calls: water, hold, see and small ones -/
theorem kd_pen {w : Wd} {j : Nat} (h : MOk w) (hj : j < cn w 17) : decide (kdI w (wI w 123 0 j) = 1) = penB w j := by
  rw [kd_at h hj]
  unfold penB
  by_cases q : wI w 123 0 j = -1
  · rw [if_pos q]; simp [q]
  · rw [if_neg q]; simp [q]
section
variable {l : Launch} {G : Gc} {c : Nat} {w : Wd}
theorem wa_inv {j : Nat} {x : Int32} (h : Inv c w) (hj : j < cn w 17) : Inv (c + 1) (sI (sI w 10 j 6 x) 126 0 j x) := by
  have hL := iv_L h hj
  obtain ⟨a1, a2, a3, a4, a5, a6, a7, a8, a9, b1, b2, b3, b4, b5, b6, b7, b8, b9, d1, d2, d3, d4, d5⟩ := hL.2.1
  have g : ∀ t k i, ¬ (t = 10 ∧ k = j ∧ i = 6) → ¬ (t = 126 ∧ i = j) → wI (sI (sI w 10 j 6 x) 126 0 j x) t k i = wI w t k i := fun t k i n1 n2 => by
    rw [yI_sI, yI_sI, if_neg (by omega), if_neg (by omega)]
  refine Inv_lot (w := w) (j := j) rfl (LtI_mk hL rfl (g _ _ _ (by omega) (by omega)) (g _ _ _ (by omega) (by omega)) ?_ (by rw [g _ _ _ (by omega) (by omega)]; exact hL.2.2.2.2.2.1) (WgC_cg (fun t ht => g t 0 j (by omega) (by omega)) hL.2.2.2.2.2.2) (fun t k i ht => g t k i (by omega) (by omega))) (okc_cg (g _ _ _ (by omega) (by omega)) (up38 h)) (by rw [cn_cg (g 13 0 38 (by omega) (by omega))]; exact Nat.le_refl _) (fun t k i hn hn2 => ?_) h
  · unfold LtC
    refine ⟨?_, ?_, ?_, ?_, ?_, ?_, ?_, ?_, ?_, ?_, ?_, ?_, ?_, ?_, ?_, ?_, ?_, ?_, ?_, ?_, ?_, ?_, ?_⟩ <;> (try simp only [yI_sI, Nat.reduceEqDiff, Nat.reduceAdd, Nat.reduceMul, reduceCtorEq, false_and, and_false, true_and, and_true, if_false, if_true, ite_false, ite_true, ↓reduceIte, eq_self, and_self, or_true, true_or, not_true_eq_false, false_implies, implies_true]) <;> (try assumption)
  · exact g t k i (fun z => hn (by unfold LtK; omega)) (fun z => hn (by unfold LtK; omega))
set_option maxRecDepth 100000 in
set_option maxHeartbeats 4000000 in
theorem ca_water (h : Inv c w) (hc : c < 1000) (v : Int32) : Cok l G c w mS_water mM_water [.inl v] := by
  have hS := iv_S h
  have hM := iv_M h
  have hl := iv_l h
  have hr := iv_r h
  have hy := iv_y h
  have h0 := iv_0 h
  obtain ⟨-, h3, h6, h17, hR, h63, h58, -⟩ := id hM
  refine ⟨18, by decide, Sem_of (by decide) rfl (Nat.le_of_ble_eq_true rfl) ?_⟩
  refine wpn_ok (M := mS_water) (C := cenS) (X := (alk [(141, lvS_lotAt, fsS_lotAt), (148, lvS_isIn, fsS_isIn), (176, lvO_thirst, fsO_thirst), (79, lvS_refuse, fsS_refuse)])) (tb := tS_water) (st := []) eoS (XOk_cons qmS_141 (okS_lotAt l G) (XOk_cons qmS_148 (okS_isIn l G) (XOk_cons qmS_176 (okO_thirst l G) (XOk_cons qmS_79 (okS_refuse l G) XOk_nil)))) kS_water 250 _ _ _ _ _ _ ?_
  cases h1 : inR v 0 (wI w 13 0 17 - 1)
  case false =>
    simp only [reduceCtorEq, fv0, fv1, fv2, fv3, bI_0, bI_1, bft, MSh_sI_eq, fsP_T, inL_0, inL_s, pad_0, pad_n, pad_s, wpn_s, wp1_s, lg_0, lg_s, lset_0, lset_s, kil_0, kil_s, st1_s, st2_s, isL_i, isL_l, isL_r, isL_n, spl_0, spl_s, cll_n, cll_s, catS_0, catS_s, jmp_s, alk_0, alk_s, otl_n, otl_s, List.nil_append, List.cons_append, List.contains_cons, List.contains_nil, Nat.reduceBEq, Bool.or_false, Bool.false_or, Bool.or_self, Bool.false_eq_true, Bool.true_or, Bool.or_true, if_true, if_false, ite_true, ite_false, ↓reduceIte, List.length_cons, List.length_nil, Nat.reduceAdd, Nat.reduceLT, Nat.reduceLeDiff, Nat.reduceEqDiff, Int.reduceAdd, Int.reduceLE, Int.toNat_natCast, Int.reduceToNat, Int.cast_ofNat_Int, true_and, and_true, false_and, and_false, true_implies, forall_const, eq_self, and_self, or_true, true_or, or_self, false_or, or_false, yI_sI, yR_sI, yC_sI, yN_sI, yI_sR, yR_sR, yC_sR, yN_sR, not_true_eq_false, not_false_eq_true, false_implies, implies_true, Nat.zero_add, Nat.add_zero, Nat.le_refl, Nat.reduceSub, Int.reduceSub, Int.reduceLT, Int.sub_zero, Int.sub_self, List.getElem?_toArray, List.getElem?_cons_zero, List.getElem?_cons_succ, Int.toNat_zero, Int.toNat_one, Int.lt_irrefl, yI_sB, yR_sB, yC_sB, yN_sB, MSh_sB_eq, pS_water_0, stp_aload_n, pS_water_1, stp_iload_n, pS_water_2, stp_invokevirtual, qmS_141, cy_S_lotAt, ss_C0 hS, pS_water_5, stp_astore_n, pS_water_6, pS_water_7, stp_ifnonnull, pS_water_10, pS_water_11, stp_bipush, pS_water_13, qmS_79, cy_S_refuse, pS_water_16, stp_ireturn, pS_water_17, pS_water_18, pS_water_19, stp_iconst, pS_water_20, qmS_148, cy_S_isIn, pS_water_23, stp_ifCond_ne, pS_water_26, pS_water_27, pS_water_29, pS_water_32, pS_water_33, pS_water_34, pS_water_35, stp_getfield, qfS_71, rp_0_9, pS_water_38, qmS_176, cy_O_thirst, pS_water_41, stp_istore_n, pS_water_42, pS_water_43, pS_water_44, pS_water_47, stp_putfield, qfS_158, rp_10_6, fi_10_6, nr_10_6, pS_water_50, pS_water_51, bp_m3, ic_1, bp_m7, nv_S_water, ml_S_water, ruS_lotAt hl, h1, rfS_3 hS, lvS_lotAt, lvS_isIn, lvO_thirst, lvS_refuse]
    refine Pst_rf (d := fun w => dM_water w v) (v := fun w => thI w v.toNatClampNeg) (W := fun w => sI w 126 0 v.toNatClampNeg (wI w 13 0 2)) (okM_water l G) (by decide) (fun _ => rfl) h (b := 3) (by decide) rfl ?_
    show dM_water w v = _
    simp only [dM_water, h1, if_true, if_false, ite_true, ite_false, ↓reduceIte, Bool.false_eq_true, Bool.true_eq_false, reduceCtorEq, not_true_eq_false, not_false_eq_true, eq_self]
    rfl
  case true =>
    obtain ⟨j, hj, ev⟩ := okc_in h17 (by omega) h1
    have ej : v.toNatClampNeg = j := by rw [ev]; exact nI_clamp (by have := h17.2; omega)
    have c10 := (iv_L h hj).1.1
    have kp := kd_pen hM hj
    have e6 := (iv_L h hj).2.1.2.2.2.2.2.1
    cases h2 : penB w j
    case false =>
      simp only [reduceCtorEq, fv0, fv1, fv2, fv3, bI_0, bI_1, bft, MSh_sI_eq, fsP_T, inL_0, inL_s, pad_0, pad_n, pad_s, wpn_s, wp1_s, lg_0, lg_s, lset_0, lset_s, kil_0, kil_s, st1_s, st2_s, isL_i, isL_l, isL_r, isL_n, spl_0, spl_s, cll_n, cll_s, catS_0, catS_s, jmp_s, alk_0, alk_s, otl_n, otl_s, List.nil_append, List.cons_append, List.contains_cons, List.contains_nil, Nat.reduceBEq, Bool.or_false, Bool.false_or, Bool.or_self, Bool.false_eq_true, Bool.true_or, Bool.or_true, if_true, if_false, ite_true, ite_false, ↓reduceIte, List.length_cons, List.length_nil, Nat.reduceAdd, Nat.reduceLT, Nat.reduceLeDiff, Nat.reduceEqDiff, Int.reduceAdd, Int.reduceLE, Int.toNat_natCast, Int.reduceToNat, Int.cast_ofNat_Int, true_and, and_true, false_and, and_false, true_implies, forall_const, eq_self, and_self, or_true, true_or, or_self, false_or, or_false, yI_sI, yR_sI, yC_sI, yN_sI, yI_sR, yR_sR, yC_sR, yN_sR, not_true_eq_false, not_false_eq_true, false_implies, implies_true, Nat.zero_add, Nat.add_zero, Nat.le_refl, Nat.reduceSub, Int.reduceSub, Int.reduceLT, Int.sub_zero, Int.sub_self, List.getElem?_toArray, List.getElem?_cons_zero, List.getElem?_cons_succ, Int.toNat_zero, Int.toNat_one, Int.lt_irrefl, yI_sB, yR_sB, yC_sB, yN_sB, MSh_sB_eq, pS_water_0, stp_aload_n, pS_water_1, stp_iload_n, pS_water_2, stp_invokevirtual, qmS_141, cy_S_lotAt, ss_C0 hS, pS_water_5, stp_astore_n, pS_water_6, pS_water_7, stp_ifnonnull, pS_water_10, pS_water_11, stp_bipush, pS_water_13, qmS_79, cy_S_refuse, pS_water_16, stp_ireturn, pS_water_17, pS_water_18, pS_water_19, stp_iconst, pS_water_20, qmS_148, cy_S_isIn, pS_water_23, stp_ifCond_ne, pS_water_26, pS_water_27, pS_water_29, pS_water_32, pS_water_33, pS_water_34, pS_water_35, stp_getfield, qfS_71, rp_0_9, pS_water_38, qmS_176, cy_O_thirst, pS_water_41, stp_istore_n, pS_water_42, pS_water_43, pS_water_44, pS_water_47, stp_putfield, qfS_158, rp_10_6, fi_10_6, nr_10_6, pS_water_50, pS_water_51, bp_m3, ic_1, bp_m7, nv_S_water, ml_S_water, ruS_lotAt hl, ej, ruS_isIn hl hj, kp, h1, h2, rfS_7 hS, lvS_lotAt, lvS_isIn, lvO_thirst, lvS_refuse]
      refine Pst_rf (d := fun w => dM_water w v) (v := fun w => thI w v.toNatClampNeg) (W := fun w => sI w 126 0 v.toNatClampNeg (wI w 13 0 2)) (okM_water l G) (by decide) (fun _ => rfl) h (b := 7) (by decide) rfl ?_
      show dM_water w v = _
      simp only [dM_water, h1, h2, ej, if_true, if_false, ite_true, ite_false, ↓reduceIte, Bool.false_eq_true, reduceCtorEq, Bool.true_eq_false]
      rfl
    case true =>
      simp only [reduceCtorEq, fv0, fv1, fv2, fv3, bI_0, bI_1, bft, MSh_sI_eq, fsP_T, inL_0, inL_s, pad_0, pad_n, pad_s, wpn_s, wp1_s, lg_0, lg_s, lset_0, lset_s, kil_0, kil_s, st1_s, st2_s, isL_i, isL_l, isL_r, isL_n, spl_0, spl_s, cll_n, cll_s, catS_0, catS_s, jmp_s, alk_0, alk_s, otl_n, otl_s, List.nil_append, List.cons_append, List.contains_cons, List.contains_nil, Nat.reduceBEq, Bool.or_false, Bool.false_or, Bool.or_self, Bool.false_eq_true, Bool.true_or, Bool.or_true, if_true, if_false, ite_true, ite_false, ↓reduceIte, List.length_cons, List.length_nil, Nat.reduceAdd, Nat.reduceLT, Nat.reduceLeDiff, Nat.reduceEqDiff, Int.reduceAdd, Int.reduceLE, Int.toNat_natCast, Int.reduceToNat, Int.cast_ofNat_Int, true_and, and_true, false_and, and_false, true_implies, forall_const, eq_self, and_self, or_true, true_or, or_self, false_or, or_false, yI_sI, yR_sI, yC_sI, yN_sI, yI_sR, yR_sR, yC_sR, yN_sR, not_true_eq_false, not_false_eq_true, false_implies, implies_true, Nat.zero_add, Nat.add_zero, Nat.le_refl, Nat.reduceSub, Int.reduceSub, Int.reduceLT, Int.sub_zero, Int.sub_self, List.getElem?_toArray, List.getElem?_cons_zero, List.getElem?_cons_succ, Int.toNat_zero, Int.toNat_one, Int.lt_irrefl, yI_sB, yR_sB, yC_sB, yN_sB, MSh_sB_eq, pS_water_0, stp_aload_n, pS_water_1, stp_iload_n, pS_water_2, stp_invokevirtual, qmS_141, cy_S_lotAt, ss_C0 hS, pS_water_5, stp_astore_n, pS_water_6, pS_water_7, stp_ifnonnull, pS_water_10, pS_water_11, stp_bipush, pS_water_13, qmS_79, cy_S_refuse, pS_water_16, stp_ireturn, pS_water_17, pS_water_18, pS_water_19, stp_iconst, pS_water_20, qmS_148, cy_S_isIn, pS_water_23, stp_ifCond_ne, pS_water_26, pS_water_27, pS_water_29, pS_water_32, pS_water_33, pS_water_34, pS_water_35, stp_getfield, qfS_71, rp_0_9, pS_water_38, qmS_176, cy_O_thirst, pS_water_41, stp_istore_n, pS_water_42, pS_water_43, pS_water_44, pS_water_47, stp_putfield, qfS_158, rp_10_6, fi_10_6, nr_10_6, pS_water_50, pS_water_51, bp_m3, ic_1, bp_m7, nv_S_water, ml_S_water, ruS_lotAt hl, ej, ruS_isIn hl hj, kp, h1, h2, c10, ruO_thirst c10, h0.1, e6, show ¬ (1 : Int32) = 0 by decide, lvS_lotAt, lvS_isIn, lvO_thirst, lvS_refuse]
      exact Pst_ok2 (d := fun w => dM_water w v) (v := fun w => thI w v.toNatClampNeg) (W := fun w => sI w 126 0 v.toNatClampNeg (wI w 13 0 2)) (okM_water l G) (by decide) (fun _ => rfl) (fun _ => rfl) (fun _ => rfl) (msk_sI rfl) hM (by simp only [dM_water, h1, h2, ej, if_true, if_false, ite_true, ite_false, ↓reduceIte, Bool.false_eq_true, reduceCtorEq, Bool.true_eq_false]) (by rw [ej]; rfl) (by rw [ej]; exact wa_inv h hj)
end
