/-! calls: way, by -/
theorem msk_fi {w : Wd} {a b x : Nat} : msk (fiW w a b x) = msk w := msk_ag (fiS_2 w a b x _) fun t k i hc => fiS_n (by rintro (rfl | rfl | rfl) <;> cases hc)
theorem wkOk_m {w w' : Wd} (hm : msk w' = msk w) (h : wkOk w) : wkOk w' := by
  have e : wkOk w' = wkOk w := mskE (f := wkOk) (fun _ => rfl) hm
  rw [e]
  exact h
theorem rfs_m {w : Wd} {b : Nat} : msk (rfs w b) = msk w := by unfold rfs; exact msk_sI rfl
theorem Kp_no {t i N : Nat} (h : Kp t i ∨ (t = 13 ∧ (i = 58 ∨ i = 63)) ∨ t = 165 ∨ (t = 172 ∧ N ≤ i)) : ¬ (t = 8 ∨ t = 184 ∨ t = 185) ∧ ¬ (t = 13 ∧ i = 12) ∧ ¬ (t = 110 ∨ t = 111 ∨ t = 112 ∨ t = 113) := by
  unfold Kp K1 K2 K3 K4 K5 at h
  omega
section
variable {l : Launch} {G : Gc} {c : Nat} {w : Wd}
theorem wy_inv {a b : Nat} (h : Inv c w) : Inv (c + 1) (wkW (fiW w a b 16) a b) := by
  have g : ∀ t k i, ¬ (t = 8 ∨ t = 184 ∨ t = 185) → ¬ (t = 13 ∧ i = 12) → ¬ (t = 110 ∨ t = 111) → wI (wkW (fiW w a b 16) a b) t k i = wI w t k i := fun t k i n1 n2 n3 => by
    rw [wkW_I, if_neg (by omega), if_neg (by omega), if_neg (by omega)]
    exact fiS_n n1
  exact Inv_cg (c := c) (w := w) (Nat.le_succ c) rfl (Cp0_cg' (fun t k i ht => g t k i (by omega) (by omega) (by omega)) (iv_0 h)) (fun t k i ht => g t k i (Kp_no ht).1 (Kp_no ht).2.1 (fun z => (Kp_no ht).2.2 (by omega))) h
set_option maxRecDepth 100000 in
set_option maxHeartbeats 4000000 in
theorem ca_way (h : Inv c w) (x y : Int32) : Cok l G c w mS_way mM_way [.inl x, .inl y] := by
  have hS := iv_S h
  have hM := iv_M h
  have h0 := iv_0 h
  have hy := iv_y h
  have hk := hy.2.2.2.1
  obtain ⟨-, h3, h6, h17, hR, h63, h58, -⟩ := id hM
  have ru1 := ruY_hasPlace (p := x) hS h3 h0
  have ru2 := ruY_hasPlace (p := y) hS h3 h0
  have e1 : ∀ w, fsM_way [.inr (.inr (some (13, 0))), .inl x, .inl y] w = fsP (wkOk w) (some (.inl (rfV (wyD w x y) (wkV w x.toNatClampNeg y.toNatClampNeg))), rfO w (wyD w x y) (wkW w x.toNatClampNeg y.toNatClampNeg)) := fun _ => rfl
  have rf : wyD w x y = -3 → Pst l G c mM_way [.inl x, .inl y] (some (.inl (-3))) (rfs w 3) := fun hd => by
    have d2 : wyD (rfs w 3) x y = -3 := (mskE (f := fun w => wyD w x y) (fun _ => rfl) rfs_m).trans hd
    have e2 : fsM_way [.inr (.inr (some (13, 0))), .inl x, .inl y] (rfs w 3) = some (some (.inl (-3)), rfz (rfs w 3) 3) := by
      rw [e1, fsP_t (wkOk_m rfs_m hk), d2]
      unfold rfV rfO
      rw [if_neg z3, if_neg z3, cl3]
    have e3 : Inv (c + 1) (rfz (rfs w 3) 3) := Inv_rf h
    exact Pst_fs (okM_way l G) (by decide) e2 e3
  refine ⟨18, by decide, Sem_of (by decide) rfl (Nat.le_of_ble_eq_true rfl) ?_⟩
  refine wpn_ok (M := mS_way) (C := cenS) (X := (alk [(89, lvY_hasPlace, fsY_hasPlace), (104, lvY_find, fsY_find), (79, lvS_refuse, fsS_refuse)])) (tb := tS_way) (st := []) eoS (XOk_cons qmS_89 (okY_hasPlace l G) (XOk_cons qmS_104 (okY_find l G) (XOk_cons qmS_79 (okS_refuse l G) XOk_nil))) kS_way 90 _ _ _ _ _ _ ?_
  cases h1 : inR x 0 (wI w 13 0 3 - 1) with
  | false =>
    simp only [reduceCtorEq, fv0, fv1, fv2, fv3, bI_0, bI_1, bft, MSh_sI_eq, fsP_T, inL_0, inL_s, pad_0, pad_n, pad_s, wpn_s, wp1_s, lg_0, lg_s, lset_0, lset_s, kil_0, kil_s, st1_s, st2_s, isL_i, isL_l, isL_r, isL_n, spl_0, spl_s, cll_n, cll_s, catS_0, catS_s, jmp_s, alk_0, alk_s, otl_n, otl_s, List.nil_append, List.cons_append, List.contains_cons, List.contains_nil, Nat.reduceBEq, Bool.or_false, Bool.false_or, Bool.or_self, Bool.false_eq_true, Bool.true_or, Bool.or_true, if_true, if_false, ite_true, ite_false, ↓reduceIte, List.length_cons, List.length_nil, Nat.reduceAdd, Nat.reduceLT, Nat.reduceLeDiff, Nat.reduceEqDiff, Int.reduceAdd, Int.reduceLE, Int.toNat_natCast, Int.reduceToNat, Int.cast_ofNat_Int, true_and, and_true, false_and, and_false, true_implies, forall_const, eq_self, and_self, or_true, true_or, or_self, false_or, or_false, yI_sI, yR_sI, yC_sI, yN_sI, yI_sR, yR_sR, yC_sR, yN_sR, not_true_eq_false, not_false_eq_true, false_implies, implies_true, Nat.zero_add, Nat.add_zero, Nat.le_refl, Nat.reduceSub, Int.reduceSub, Int.reduceLT, Int.sub_zero, Int.sub_self, List.getElem?_toArray, List.getElem?_cons_zero, List.getElem?_cons_succ, Int.toNat_zero, Int.toNat_one, Int.lt_irrefl, yI_sB, yR_sB, yC_sB, yN_sB, MSh_sB_eq, pS_way_0, stp_aload_n, pS_way_1, stp_getfield, qfS_12, rp_0_0, ss_C0 hS, ss_R0_0 hS, ss_C1 hS, pS_way_4, stp_iload_n, pS_way_5, stp_invokevirtual, qmS_89, cy_Y_hasPlace, pS_way_8, stp_ifCond_eq, pS_way_11, pS_way_12, pS_way_15, pS_way_16, pS_way_19, stp_ifCond_ne, pS_way_22, pS_way_23, stp_bipush, pS_way_25, qmS_79, cy_S_refuse, pS_way_28, stp_ireturn, pS_way_29, pS_way_30, pS_way_33, pS_way_34, pS_way_35, pS_way_36, qfS_63, rp_0_7, ss_R0_7 hS, ss_C8 hS, pS_way_39, qmS_104, cy_Y_find, pS_way_42, pS_way_45, pS_way_46, pS_way_49, qfS_108, rp_8_3, pS_way_52, stp_goto, pS_way_55, stp_iconst, pS_way_56, bp_m3, ic_m1, nv_S_way, ml_S_way, ru1, h1, rfS_3 hS, lvY_hasPlace, lvY_find, lvS_refuse]
    exact rf (by simp only [wyD, h1, if_true])
  | true =>
    cases h2 : inR y 0 (wI w 13 0 3 - 1) with
    | false =>
      simp only [reduceCtorEq, fv0, fv1, fv2, fv3, bI_0, bI_1, bft, MSh_sI_eq, fsP_T, inL_0, inL_s, pad_0, pad_n, pad_s, wpn_s, wp1_s, lg_0, lg_s, lset_0, lset_s, kil_0, kil_s, st1_s, st2_s, isL_i, isL_l, isL_r, isL_n, spl_0, spl_s, cll_n, cll_s, catS_0, catS_s, jmp_s, alk_0, alk_s, otl_n, otl_s, List.nil_append, List.cons_append, List.contains_cons, List.contains_nil, Nat.reduceBEq, Bool.or_false, Bool.false_or, Bool.or_self, Bool.false_eq_true, Bool.true_or, Bool.or_true, if_true, if_false, ite_true, ite_false, ↓reduceIte, List.length_cons, List.length_nil, Nat.reduceAdd, Nat.reduceLT, Nat.reduceLeDiff, Nat.reduceEqDiff, Int.reduceAdd, Int.reduceLE, Int.toNat_natCast, Int.reduceToNat, Int.cast_ofNat_Int, true_and, and_true, false_and, and_false, true_implies, forall_const, eq_self, and_self, or_true, true_or, or_self, false_or, or_false, yI_sI, yR_sI, yC_sI, yN_sI, yI_sR, yR_sR, yC_sR, yN_sR, not_true_eq_false, not_false_eq_true, false_implies, implies_true, Nat.zero_add, Nat.add_zero, Nat.le_refl, Nat.reduceSub, Int.reduceSub, Int.reduceLT, Int.sub_zero, Int.sub_self, List.getElem?_toArray, List.getElem?_cons_zero, List.getElem?_cons_succ, Int.toNat_zero, Int.toNat_one, Int.lt_irrefl, yI_sB, yR_sB, yC_sB, yN_sB, MSh_sB_eq, pS_way_0, stp_aload_n, pS_way_1, stp_getfield, qfS_12, rp_0_0, ss_C0 hS, ss_R0_0 hS, ss_C1 hS, pS_way_4, stp_iload_n, pS_way_5, stp_invokevirtual, qmS_89, cy_Y_hasPlace, pS_way_8, stp_ifCond_eq, pS_way_11, pS_way_12, pS_way_15, pS_way_16, pS_way_19, stp_ifCond_ne, pS_way_22, pS_way_23, stp_bipush, pS_way_25, qmS_79, cy_S_refuse, pS_way_28, stp_ireturn, pS_way_29, pS_way_30, pS_way_33, pS_way_34, pS_way_35, pS_way_36, qfS_63, rp_0_7, ss_R0_7 hS, ss_C8 hS, pS_way_39, qmS_104, cy_Y_find, pS_way_42, pS_way_45, pS_way_46, pS_way_49, qfS_108, rp_8_3, pS_way_52, stp_goto, pS_way_55, stp_iconst, pS_way_56, bp_m3, ic_m1, nv_S_way, ml_S_way, ru1, ru2, h1, h2, rfS_3 hS, show ¬ (1 : Int32) = 0 by decide, lvY_hasPlace, lvY_find, lvS_refuse]
      exact rf (by simp only [wyD, h1, h2, Bool.true_eq_false, if_true, if_false])
    | true =>
      obtain ⟨a, ha, ex, ex2, -⟩ := okc_p h3 (by omega) h1
      obtain ⟨b, hb, ey, ey2, -⟩ := okc_p h3 (by omega) h2
      have rfi : fsY_find [.inr (.inr (some (1, 0))), .inl x, .inl y, .inr (.inr (some (8, 16)))] w = some (some (.inl (bI (decide (dsM w a b < 1000000)))), fiW w a b 16) := by
        rw [ex, ey]; exact ruY_find hy (by omega) ha hb
      have hS1 : SSh (fiW w a b 16) := SSh_of hS (fiS_2 w a b 16 _)
      have wf := (WyF_fi (x := 16) hy ha hb).1
      have key : ∀ v, v = wkV w a b → Pst l G c mM_way [.inl x, .inl y] (some (.inl v)) (fiW w a b 16) := fun v hv => by
        have d2 : wyD (fiW w a b 16) x y = 0 := (mskE (f := fun w => wyD w x y) (fun _ => rfl) msk_fi).trans (by simp only [wyD, h1, h2, Bool.true_eq_false, if_false])
        have v2 : wkV (fiW w a b 16) a b = wkV w a b := mskE (f := fun w => wkV w a b) (fun _ => rfl) msk_fi
        have e2 : fsM_way [.inr (.inr (some (13, 0))), .inl x, .inl y] (fiW w a b 16) = some (some (.inl v), wkW (fiW w a b 16) a b) := by
          rw [e1, fsP_t (wkOk_m msk_fi hk), d2, ex2, ey2, v2, hv]
          unfold rfV rfO
          rw [if_pos rfl, if_pos rfl]
        exact Pst_fs (okM_way l G) (by decide) e2 (wy_inv h)
      by_cases hf : dsM w a b < 1000000
      · simp only [reduceCtorEq, fv0, fv1, fv2, fv3, bI_0, bI_1, bft, MSh_sI_eq, fsP_T, inL_0, inL_s, pad_0, pad_n, pad_s, wpn_s, wp1_s, lg_0, lg_s, lset_0, lset_s, kil_0, kil_s, st1_s, st2_s, isL_i, isL_l, isL_r, isL_n, spl_0, spl_s, cll_n, cll_s, catS_0, catS_s, jmp_s, alk_0, alk_s, otl_n, otl_s, List.nil_append, List.cons_append, List.contains_cons, List.contains_nil, Nat.reduceBEq, Bool.or_false, Bool.false_or, Bool.or_self, Bool.false_eq_true, Bool.true_or, Bool.or_true, if_true, if_false, ite_true, ite_false, ↓reduceIte, List.length_cons, List.length_nil, Nat.reduceAdd, Nat.reduceLT, Nat.reduceLeDiff, Nat.reduceEqDiff, Int.reduceAdd, Int.reduceLE, Int.toNat_natCast, Int.reduceToNat, Int.cast_ofNat_Int, true_and, and_true, false_and, and_false, true_implies, forall_const, eq_self, and_self, or_true, true_or, or_self, false_or, or_false, yI_sI, yR_sI, yC_sI, yN_sI, yI_sR, yR_sR, yC_sR, yN_sR, not_true_eq_false, not_false_eq_true, false_implies, implies_true, Nat.zero_add, Nat.add_zero, Nat.le_refl, Nat.reduceSub, Int.reduceSub, Int.reduceLT, Int.sub_zero, Int.sub_self, List.getElem?_toArray, List.getElem?_cons_zero, List.getElem?_cons_succ, Int.toNat_zero, Int.toNat_one, Int.lt_irrefl, yI_sB, yR_sB, yC_sB, yN_sB, MSh_sB_eq, pS_way_0, stp_aload_n, pS_way_1, stp_getfield, qfS_12, rp_0_0, ss_C0 hS, ss_R0_0 hS, ss_C1 hS, pS_way_4, stp_iload_n, pS_way_5, stp_invokevirtual, qmS_89, cy_Y_hasPlace, pS_way_8, stp_ifCond_eq, pS_way_11, pS_way_12, pS_way_15, pS_way_16, pS_way_19, stp_ifCond_ne, pS_way_22, pS_way_23, stp_bipush, pS_way_25, qmS_79, cy_S_refuse, pS_way_28, stp_ireturn, pS_way_29, pS_way_30, pS_way_33, pS_way_34, pS_way_35, pS_way_36, qfS_63, rp_0_7, ss_R0_7 hS, ss_C8 hS, pS_way_39, qmS_104, cy_Y_find, pS_way_42, pS_way_45, pS_way_46, pS_way_49, qfS_108, rp_8_3, pS_way_52, stp_goto, pS_way_55, stp_iconst, pS_way_56, bp_m3, ic_m1, nv_S_way, ml_S_way, ru1, ru2, h1, h2, rfi, hf, decide_true, ss_C0 hS1, ss_R0_7 hS1, ss_C8 hS1, show ¬ (1 : Int32) = 0 by decide, lvY_hasPlace, lvY_find, lvS_refuse]
        refine key _ ?_
        have ed : dsM (fiW w a b 16) = dsM w := SmW_d (SmW_fi w a b 16 _)
        rw [(wf (by rw [ed]; exact hf)).2.1, ed]
        unfold wkV
        rw [if_neg (by omega)]
      · simp only [reduceCtorEq, fv0, fv1, fv2, fv3, bI_0, bI_1, bft, MSh_sI_eq, fsP_T, inL_0, inL_s, pad_0, pad_n, pad_s, wpn_s, wp1_s, lg_0, lg_s, lset_0, lset_s, kil_0, kil_s, st1_s, st2_s, isL_i, isL_l, isL_r, isL_n, spl_0, spl_s, cll_n, cll_s, catS_0, catS_s, jmp_s, alk_0, alk_s, otl_n, otl_s, List.nil_append, List.cons_append, List.contains_cons, List.contains_nil, Nat.reduceBEq, Bool.or_false, Bool.false_or, Bool.or_self, Bool.false_eq_true, Bool.true_or, Bool.or_true, if_true, if_false, ite_true, ite_false, ↓reduceIte, List.length_cons, List.length_nil, Nat.reduceAdd, Nat.reduceLT, Nat.reduceLeDiff, Nat.reduceEqDiff, Int.reduceAdd, Int.reduceLE, Int.toNat_natCast, Int.reduceToNat, Int.cast_ofNat_Int, true_and, and_true, false_and, and_false, true_implies, forall_const, eq_self, and_self, or_true, true_or, or_self, false_or, or_false, yI_sI, yR_sI, yC_sI, yN_sI, yI_sR, yR_sR, yC_sR, yN_sR, not_true_eq_false, not_false_eq_true, false_implies, implies_true, Nat.zero_add, Nat.add_zero, Nat.le_refl, Nat.reduceSub, Int.reduceSub, Int.reduceLT, Int.sub_zero, Int.sub_self, List.getElem?_toArray, List.getElem?_cons_zero, List.getElem?_cons_succ, Int.toNat_zero, Int.toNat_one, Int.lt_irrefl, yI_sB, yR_sB, yC_sB, yN_sB, MSh_sB_eq, pS_way_0, stp_aload_n, pS_way_1, stp_getfield, qfS_12, rp_0_0, ss_C0 hS, ss_R0_0 hS, ss_C1 hS, pS_way_4, stp_iload_n, pS_way_5, stp_invokevirtual, qmS_89, cy_Y_hasPlace, pS_way_8, stp_ifCond_eq, pS_way_11, pS_way_12, pS_way_15, pS_way_16, pS_way_19, stp_ifCond_ne, pS_way_22, pS_way_23, stp_bipush, pS_way_25, qmS_79, cy_S_refuse, pS_way_28, stp_ireturn, pS_way_29, pS_way_30, pS_way_33, pS_way_34, pS_way_35, pS_way_36, qfS_63, rp_0_7, ss_R0_7 hS, ss_C8 hS, pS_way_39, qmS_104, cy_Y_find, pS_way_42, pS_way_45, pS_way_46, pS_way_49, qfS_108, rp_8_3, pS_way_52, stp_goto, pS_way_55, stp_iconst, pS_way_56, bp_m3, ic_m1, nv_S_way, ml_S_way, ru1, ru2, h1, h2, rfi, hf, decide_false, show ¬ (1 : Int32) = 0 by decide, lvY_hasPlace, lvY_find, lvS_refuse]
        refine key _ ?_
        unfold wkV
        rw [if_pos (by omega)]
theorem fi_inv {a b : Nat} (h : Inv c w) : Inv c (fiW w a b 16) := by
  have g : ∀ t k i, ¬ (t = 8 ∨ t = 184 ∨ t = 185) → wI (fiW w a b 16) t k i = wI w t k i := fun t k i n1 => fiS_n n1
  exact Inv_cg (c := c) (w := w) (Nat.le_refl c) rfl (Cp0_cg' (fun t k i ht => g t k i (by omega)) (iv_0 h)) (fun t k i ht => g t k i (Kp_no ht).1) h
theorem by_inv {a b : Nat} (h : Inv c w) : Inv (c + 1) (rfz (wkW (rfs (fiW w a b 16) 3) a b) 3) := by
  have h1 : Inv (c + 1) (rfz (rfs (fiW w a b 16) 3) 3) := Inv_rf (fi_inv h)
  have g : ∀ t k i, ¬ (t = 13 ∧ i = 12) → ¬ (t = 110 ∨ t = 111) → wI (rfz (wkW (rfs (fiW w a b 16) 3) a b) 3) t k i = wI (rfz (rfs (fiW w a b 16) 3) 3) t k i := fun t k i n2 n3 => by
    generalize rfs (fiW w a b 16) 3 = w0
    unfold rfz
    rw [yI_sI, yI_sI, wkW_I, wkW_I, if_neg (show ¬ (101 = 13 ∧ 0 = 0 ∧ 3 = 12) by omega), if_neg (show ¬ (101 = 111 ∧ 0 = 0) by omega), if_neg (show ¬ (101 = 110 ∧ 0 = 0) by omega), if_neg (show ¬ (t = 13 ∧ k = 0 ∧ i = 12) by omega), if_neg (show ¬ (t = 111 ∧ k = 0) by omega), if_neg (show ¬ (t = 110 ∧ k = 0) by omega)]
  exact Inv_cg (c := c + 1) (w := rfz (rfs (fiW w a b 16) 3) 3) (Nat.le_refl _) rfl (Cp0_cg' (fun t k i ht => g t k i (by omega) (by omega)) (iv_0 h1)) (fun t k i ht => g t k i (Kp_no ht).2.1 (fun z => (Kp_no ht).2.2 (by omega))) h1
set_option maxRecDepth 100000 in
set_option maxHeartbeats 4000000 in
theorem ca_by (h : Inv c w) (x y i : Int32) : Cok l G c w mS_by mM_by [.inl x, .inl y, .inl i] := by
  have hS := iv_S h
  have hM := iv_M h
  have h0 := iv_0 h
  have hy := iv_y h
  have hk := hy.2.2.2.1
  obtain ⟨-, h3, h6, h17, hR, h63, h58, -⟩ := id hM
  have ru1 := ruY_hasPlace (p := x) hS h3 h0
  have ru2 := ruY_hasPlace (p := y) hS h3 h0
  have e1 : ∀ w, fsM_by [.inr (.inr (some (13, 0))), .inl x, .inl y, .inl i] w = fsP (wkOk w) (some (.inl (byV w x y i)), byW w x y i) := fun _ => rfl
  have rf : ¬ wyD w x y = 0 → Pst l G c mM_by [.inl x, .inl y, .inl i] (some (.inl (-3))) (rfs w 3) := fun hd => by
    have d2 : ¬ wyD (rfs w 3) x y = 0 := by rw [mskE (f := fun w => wyD w x y) (w := w) (w' := rfs w 3) (fun _ => rfl) rfs_m]; exact hd
    have e2 : fsM_by [.inr (.inr (some (13, 0))), .inl x, .inl y, .inl i] (rfs w 3) = some (some (.inl (-3)), rfz (rfs w 3) 3) := by
      rw [e1, fsP_t (wkOk_m rfs_m hk)]
      unfold byV byW
      rw [if_neg d2, if_neg d2]
    have e3 : Inv (c + 1) (rfz (rfs w 3) 3) := Inv_rf h
    exact Pst_fs (okM_by l G) (by decide) e2 e3
  refine ⟨18, by decide, Sem_of (by decide) rfl (Nat.le_of_ble_eq_true rfl) ?_⟩
  refine wpn_ok (M := mS_by) (C := cenS) (X := (alk [(89, lvY_hasPlace, fsY_hasPlace), (104, lvY_find, fsY_find), (114, lvW_alleyAt, fsW_alleyAt), (79, lvS_refuse, fsS_refuse)])) (tb := tS_by) (st := []) eoS (XOk_cons qmS_89 (okY_hasPlace l G) (XOk_cons qmS_104 (okY_find l G) (XOk_cons qmS_114 (okW_alleyAt l G) (XOk_cons qmS_79 (okS_refuse l G) XOk_nil)))) kS_by 90 _ _ _ _ _ _ ?_
  cases h1 : inR x 0 (wI w 13 0 3 - 1) with
  | false =>
    simp only [reduceCtorEq, fv0, fv1, fv2, fv3, bI_0, bI_1, bft, MSh_sI_eq, fsP_T, inL_0, inL_s, pad_0, pad_n, pad_s, wpn_s, wp1_s, lg_0, lg_s, lset_0, lset_s, kil_0, kil_s, st1_s, st2_s, isL_i, isL_l, isL_r, isL_n, spl_0, spl_s, cll_n, cll_s, catS_0, catS_s, jmp_s, alk_0, alk_s, otl_n, otl_s, List.nil_append, List.cons_append, List.contains_cons, List.contains_nil, Nat.reduceBEq, Bool.or_false, Bool.false_or, Bool.or_self, Bool.false_eq_true, Bool.true_or, Bool.or_true, if_true, if_false, ite_true, ite_false, ↓reduceIte, List.length_cons, List.length_nil, Nat.reduceAdd, Nat.reduceLT, Nat.reduceLeDiff, Nat.reduceEqDiff, Int.reduceAdd, Int.reduceLE, Int.toNat_natCast, Int.reduceToNat, Int.cast_ofNat_Int, true_and, and_true, false_and, and_false, true_implies, forall_const, eq_self, and_self, or_true, true_or, or_self, false_or, or_false, yI_sI, yR_sI, yC_sI, yN_sI, yI_sR, yR_sR, yC_sR, yN_sR, not_true_eq_false, not_false_eq_true, false_implies, implies_true, Nat.zero_add, Nat.add_zero, Nat.le_refl, Nat.reduceSub, Int.reduceSub, Int.reduceLT, Int.sub_zero, Int.sub_self, List.getElem?_toArray, List.getElem?_cons_zero, List.getElem?_cons_succ, Int.toNat_zero, Int.toNat_one, Int.lt_irrefl, yI_sB, yR_sB, yC_sB, yN_sB, MSh_sB_eq, pS_by_0, stp_aload_n, pS_by_1, stp_getfield, qfS_12, rp_0_0, ss_C0 hS, ss_R0_0 hS, ss_C1 hS, pS_by_4, stp_iload_n, pS_by_5, stp_invokevirtual, qmS_89, cy_Y_hasPlace, pS_by_8, stp_ifCond_eq, pS_by_11, pS_by_12, pS_by_15, pS_by_16, pS_by_19, stp_ifCond_ne, pS_by_22, pS_by_23, stp_bipush, pS_by_25, qmS_79, cy_S_refuse, pS_by_28, stp_ireturn, pS_by_29, pS_by_30, pS_by_33, pS_by_34, pS_by_35, pS_by_36, qfS_63, rp_0_7, ss_R0_7 hS, ss_C8 hS, pS_by_39, qmS_104, cy_Y_find, pS_by_42, pS_by_45, pS_by_46, stp_ifCond_lt, pS_by_49, pS_by_50, pS_by_51, pS_by_54, qfS_111, rp_8_2, pS_by_57, stp_if_icmp_lt, pS_by_60, pS_by_61, pS_by_63, pS_by_66, pS_by_67, pS_by_68, pS_by_71, pS_by_72, qmS_114, cy_W_alleyAt, pS_by_75, bp_m3, nv_S_by, ml_S_by, ru1, h1, rfS_3 hS, lvY_hasPlace, lvY_find, lvW_alleyAt, lvS_refuse]
    exact rf (by simp only [wyD, h1, if_true]; decide)
  | true =>
    cases h2 : inR y 0 (wI w 13 0 3 - 1) with
    | false =>
      simp only [reduceCtorEq, fv0, fv1, fv2, fv3, bI_0, bI_1, bft, MSh_sI_eq, fsP_T, inL_0, inL_s, pad_0, pad_n, pad_s, wpn_s, wp1_s, lg_0, lg_s, lset_0, lset_s, kil_0, kil_s, st1_s, st2_s, isL_i, isL_l, isL_r, isL_n, spl_0, spl_s, cll_n, cll_s, catS_0, catS_s, jmp_s, alk_0, alk_s, otl_n, otl_s, List.nil_append, List.cons_append, List.contains_cons, List.contains_nil, Nat.reduceBEq, Bool.or_false, Bool.false_or, Bool.or_self, Bool.false_eq_true, Bool.true_or, Bool.or_true, if_true, if_false, ite_true, ite_false, ↓reduceIte, List.length_cons, List.length_nil, Nat.reduceAdd, Nat.reduceLT, Nat.reduceLeDiff, Nat.reduceEqDiff, Int.reduceAdd, Int.reduceLE, Int.toNat_natCast, Int.reduceToNat, Int.cast_ofNat_Int, true_and, and_true, false_and, and_false, true_implies, forall_const, eq_self, and_self, or_true, true_or, or_self, false_or, or_false, yI_sI, yR_sI, yC_sI, yN_sI, yI_sR, yR_sR, yC_sR, yN_sR, not_true_eq_false, not_false_eq_true, false_implies, implies_true, Nat.zero_add, Nat.add_zero, Nat.le_refl, Nat.reduceSub, Int.reduceSub, Int.reduceLT, Int.sub_zero, Int.sub_self, List.getElem?_toArray, List.getElem?_cons_zero, List.getElem?_cons_succ, Int.toNat_zero, Int.toNat_one, Int.lt_irrefl, yI_sB, yR_sB, yC_sB, yN_sB, MSh_sB_eq, pS_by_0, stp_aload_n, pS_by_1, stp_getfield, qfS_12, rp_0_0, ss_C0 hS, ss_R0_0 hS, ss_C1 hS, pS_by_4, stp_iload_n, pS_by_5, stp_invokevirtual, qmS_89, cy_Y_hasPlace, pS_by_8, stp_ifCond_eq, pS_by_11, pS_by_12, pS_by_15, pS_by_16, pS_by_19, stp_ifCond_ne, pS_by_22, pS_by_23, stp_bipush, pS_by_25, qmS_79, cy_S_refuse, pS_by_28, stp_ireturn, pS_by_29, pS_by_30, pS_by_33, pS_by_34, pS_by_35, pS_by_36, qfS_63, rp_0_7, ss_R0_7 hS, ss_C8 hS, pS_by_39, qmS_104, cy_Y_find, pS_by_42, pS_by_45, pS_by_46, stp_ifCond_lt, pS_by_49, pS_by_50, pS_by_51, pS_by_54, qfS_111, rp_8_2, pS_by_57, stp_if_icmp_lt, pS_by_60, pS_by_61, pS_by_63, pS_by_66, pS_by_67, pS_by_68, pS_by_71, pS_by_72, qmS_114, cy_W_alleyAt, pS_by_75, bp_m3, nv_S_by, ml_S_by, ru1, ru2, h1, h2, rfS_3 hS, show ¬ (1 : Int32) = 0 by decide, lvY_hasPlace, lvY_find, lvW_alleyAt, lvS_refuse]
      exact rf (by simp only [wyD, h1, h2, Bool.true_eq_false, if_true, if_false]; decide)
    | true =>
      obtain ⟨a, ha, ex, ex2, -⟩ := okc_p h3 (by omega) h1
      obtain ⟨b, hb, ey, ey2, -⟩ := okc_p h3 (by omega) h2
      have hd0 : wyD w x y = 0 := by simp only [wyD, h1, h2, Bool.true_eq_false, if_false]
      have rfi : fsY_find [.inr (.inr (some (1, 0))), .inl x, .inl y, .inr (.inr (some (8, 16)))] w = some (some (.inl (bI (decide (dsM w a b < 1000000)))), fiW w a b 16) := by
        rw [ex, ey]; exact ruY_find hy (by omega) ha hb
      have hS1 : SSh (fiW w a b 16) := SSh_of hS (fiS_2 w a b 16 _)
      have wf := (WyF_fi (x := 16) hy ha hb).1
      have ed : dsM (fiW w a b 16) = dsM w := SmW_d (SmW_fi w a b 16 _)
      have eg : grf (fiW w a b 16) = grf w := SmW_g (SmW_fi w a b 16 _)
      rw [ed, eg] at wf
      have rf2 : (wkV w a b = -1 ∨ byI w x y i = false) → Pst l G c mM_by [.inl x, .inl y, .inl i] (some (.inl (-3))) (rfs (fiW w a b 16) 3) := fun hc => by
        have m : msk (rfs (fiW w a b 16) 3) = msk w := rfs_m.trans msk_fi
        have d2 : wyD (rfs (fiW w a b 16) 3) x y = 0 := (mskE (f := fun w => wyD w x y) (fun _ => rfl) m).trans hd0
        have v2 : wkV (rfs (fiW w a b 16) 3) a b = wkV w a b := mskE (f := fun w => wkV w a b) (fun _ => rfl) m
        have v3 : byI (rfs (fiW w a b 16) 3) x y i = byI w x y i := mskE (f := fun w => byI w x y i) (fun _ => rfl) m
        have e2 : fsM_by [.inr (.inr (some (13, 0))), .inl x, .inl y, .inl i] (rfs (fiW w a b 16) 3) = some (some (.inl (-3)), rfz (wkW (rfs (fiW w a b 16) 3) a b) 3) := by
          rw [e1, fsP_t (wkOk_m m hk)]
          unfold byV byW
          rw [d2, ex2, ey2, v2, v3, if_pos rfl, if_pos rfl]
          by_cases z : wkV w a b = -1
          · rw [if_pos z, if_pos z]
          · have z2 := hc.resolve_left z
            rw [if_neg z, if_neg z, if_pos z2, if_pos z2]
        exact Pst_fs (okM_by l G) (by decide) e2 (by_inv h)
      by_cases hf : dsM w a b < 1000000
      · obtain ⟨wc, -, -⟩ := wf hf
        have hv : ¬ wkV w a b = -1 := by
          unfold wkV
          rw [if_neg (by omega)]
          exact nI_nm1 (by omega)
        have bye : byI w x y i = inR i 0 (nI (wyL (grf w) (dsM w) a b) - 1) := by unfold byI; rw [ex2, ey2]
        obtain ⟨wc1, wc2, wc3⟩ := id wc
        by_cases n0 : i < 0
        · simp only [reduceCtorEq, fv0, fv1, fv2, fv3, bI_0, bI_1, bft, MSh_sI_eq, fsP_T, inL_0, inL_s, pad_0, pad_n, pad_s, wpn_s, wp1_s, lg_0, lg_s, lset_0, lset_s, kil_0, kil_s, st1_s, st2_s, isL_i, isL_l, isL_r, isL_n, spl_0, spl_s, cll_n, cll_s, catS_0, catS_s, jmp_s, alk_0, alk_s, otl_n, otl_s, List.nil_append, List.cons_append, List.contains_cons, List.contains_nil, Nat.reduceBEq, Bool.or_false, Bool.false_or, Bool.or_self, Bool.false_eq_true, Bool.true_or, Bool.or_true, if_true, if_false, ite_true, ite_false, ↓reduceIte, List.length_cons, List.length_nil, Nat.reduceAdd, Nat.reduceLT, Nat.reduceLeDiff, Nat.reduceEqDiff, Int.reduceAdd, Int.reduceLE, Int.toNat_natCast, Int.reduceToNat, Int.cast_ofNat_Int, true_and, and_true, false_and, and_false, true_implies, forall_const, eq_self, and_self, or_true, true_or, or_self, false_or, or_false, yI_sI, yR_sI, yC_sI, yN_sI, yI_sR, yR_sR, yC_sR, yN_sR, not_true_eq_false, not_false_eq_true, false_implies, implies_true, Nat.zero_add, Nat.add_zero, Nat.le_refl, Nat.reduceSub, Int.reduceSub, Int.reduceLT, Int.sub_zero, Int.sub_self, List.getElem?_toArray, List.getElem?_cons_zero, List.getElem?_cons_succ, Int.toNat_zero, Int.toNat_one, Int.lt_irrefl, yI_sB, yR_sB, yC_sB, yN_sB, MSh_sB_eq, pS_by_0, stp_aload_n, pS_by_1, stp_getfield, qfS_12, rp_0_0, ss_C0 hS, ss_R0_0 hS, ss_C1 hS, pS_by_4, stp_iload_n, pS_by_5, stp_invokevirtual, qmS_89, cy_Y_hasPlace, pS_by_8, stp_ifCond_eq, pS_by_11, pS_by_12, pS_by_15, pS_by_16, pS_by_19, stp_ifCond_ne, pS_by_22, pS_by_23, stp_bipush, pS_by_25, qmS_79, cy_S_refuse, pS_by_28, stp_ireturn, pS_by_29, pS_by_30, pS_by_33, pS_by_34, pS_by_35, pS_by_36, qfS_63, rp_0_7, ss_R0_7 hS, ss_C8 hS, pS_by_39, qmS_104, cy_Y_find, pS_by_42, pS_by_45, pS_by_46, stp_ifCond_lt, pS_by_49, pS_by_50, pS_by_51, pS_by_54, qfS_111, rp_8_2, pS_by_57, stp_if_icmp_lt, pS_by_60, pS_by_61, pS_by_63, pS_by_66, pS_by_67, pS_by_68, pS_by_71, pS_by_72, qmS_114, cy_W_alleyAt, pS_by_75, bp_m3, nv_S_by, ml_S_by, ru1, ru2, h1, h2, rfi, hf, n0, rfS_3 hS1, decide_true, ss_C0 hS1, ss_R0_7 hS1, ss_C8 hS1, show ¬ (1 : Int32) = 0 by decide, lvY_hasPlace, lvY_find, lvW_alleyAt, lvS_refuse]
          exact rf2 (Or.inr (by rw [bye]; exact inR_1 n0))
        · by_cases n1 : i < nI (wyL (grf w) (dsM w) a b)
          · obtain ⟨q, hq, rfl⟩ := nI_of n0
            rw [nI_ltI (by omega) (by omega)] at n1
            have n1' : nI q < nI (wyL (grf w) (dsM w) a b) := nI_lt n1 (by omega)
            have ra := ruW_alleyAt (x := 16) hS1 (by omega) wc1 wc2 n1
            rw [(wc3 q n1).1] at ra
            have byt : byI w x y (nI q) = true := by
              rw [bye]
              refine inR_t n0 ?_
              rw [show nI (wyL (grf w) (dsM w) a b) - 1 = nI (wyL (grf w) (dsM w) a b - 1) from nI_sub (b := 1) (by omega), nI_ltI (by omega) (by omega)]
              omega
            simp only [reduceCtorEq, fv0, fv1, fv2, fv3, bI_0, bI_1, bft, MSh_sI_eq, fsP_T, inL_0, inL_s, pad_0, pad_n, pad_s, wpn_s, wp1_s, lg_0, lg_s, lset_0, lset_s, kil_0, kil_s, st1_s, st2_s, isL_i, isL_l, isL_r, isL_n, spl_0, spl_s, cll_n, cll_s, catS_0, catS_s, jmp_s, alk_0, alk_s, otl_n, otl_s, List.nil_append, List.cons_append, List.contains_cons, List.contains_nil, Nat.reduceBEq, Bool.or_false, Bool.false_or, Bool.or_self, Bool.false_eq_true, Bool.true_or, Bool.or_true, if_true, if_false, ite_true, ite_false, ↓reduceIte, List.length_cons, List.length_nil, Nat.reduceAdd, Nat.reduceLT, Nat.reduceLeDiff, Nat.reduceEqDiff, Int.reduceAdd, Int.reduceLE, Int.toNat_natCast, Int.reduceToNat, Int.cast_ofNat_Int, true_and, and_true, false_and, and_false, true_implies, forall_const, eq_self, and_self, or_true, true_or, or_self, false_or, or_false, yI_sI, yR_sI, yC_sI, yN_sI, yI_sR, yR_sR, yC_sR, yN_sR, not_true_eq_false, not_false_eq_true, false_implies, implies_true, Nat.zero_add, Nat.add_zero, Nat.le_refl, Nat.reduceSub, Int.reduceSub, Int.reduceLT, Int.sub_zero, Int.sub_self, List.getElem?_toArray, List.getElem?_cons_zero, List.getElem?_cons_succ, Int.toNat_zero, Int.toNat_one, Int.lt_irrefl, yI_sB, yR_sB, yC_sB, yN_sB, MSh_sB_eq, pS_by_0, stp_aload_n, pS_by_1, stp_getfield, qfS_12, rp_0_0, ss_C0 hS, ss_R0_0 hS, ss_C1 hS, pS_by_4, stp_iload_n, pS_by_5, stp_invokevirtual, qmS_89, cy_Y_hasPlace, pS_by_8, stp_ifCond_eq, pS_by_11, pS_by_12, pS_by_15, pS_by_16, pS_by_19, stp_ifCond_ne, pS_by_22, pS_by_23, stp_bipush, pS_by_25, qmS_79, cy_S_refuse, pS_by_28, stp_ireturn, pS_by_29, pS_by_30, pS_by_33, pS_by_34, pS_by_35, pS_by_36, qfS_63, rp_0_7, ss_R0_7 hS, ss_C8 hS, pS_by_39, qmS_104, cy_Y_find, pS_by_42, pS_by_45, pS_by_46, stp_ifCond_lt, pS_by_49, pS_by_50, pS_by_51, pS_by_54, qfS_111, rp_8_2, pS_by_57, stp_if_icmp_lt, pS_by_60, pS_by_61, pS_by_63, pS_by_66, pS_by_67, pS_by_68, pS_by_71, pS_by_72, qmS_114, cy_W_alleyAt, pS_by_75, bp_m3, nv_S_by, ml_S_by, ru1, ru2, h1, h2, rfi, hf, n0, wc1, n1', ra, decide_true, ss_C0 hS1, ss_R0_7 hS1, ss_C8 hS1, show ¬ (1 : Int32) = 0 by decide, lvY_hasPlace, lvY_find, lvW_alleyAt, lvS_refuse]
            have d2 : wyD (fiW w a b 16) x y = 0 := (mskE (f := fun w => wyD w x y) (fun _ => rfl) msk_fi).trans hd0
            have v2 : wkV (fiW w a b 16) a b = wkV w a b := mskE (f := fun w => wkV w a b) (fun _ => rfl) msk_fi
            have v3 : byI (fiW w a b 16) x y (nI q) = byI w x y (nI q) := mskE (f := fun w => byI w x y (nI q)) (fun _ => rfl) msk_fi
            have e2 : fsM_by [.inr (.inr (some (13, 0))), .inl x, .inl y, .inl (nI q)] (fiW w a b 16) = some (some (.inl (nI (wyK (grf w) (dsM w) a b q))), wkW (fiW w a b 16) a b) := by
              rw [e1, fsP_t (wkOk_m msk_fi hk)]
              unfold byV byW
              rw [d2, ex2, ey2, v2, v3, if_pos rfl, if_pos rfl, if_neg hv, if_neg hv, if_neg (by rw [byt]; decide), if_neg (by rw [byt]; decide), eg, ed, nI_clamp (by omega)]
            exact Pst_fs (okM_by l G) (by decide) e2 (wy_inv h)
          · simp only [reduceCtorEq, fv0, fv1, fv2, fv3, bI_0, bI_1, bft, MSh_sI_eq, fsP_T, inL_0, inL_s, pad_0, pad_n, pad_s, wpn_s, wp1_s, lg_0, lg_s, lset_0, lset_s, kil_0, kil_s, st1_s, st2_s, isL_i, isL_l, isL_r, isL_n, spl_0, spl_s, cll_n, cll_s, catS_0, catS_s, jmp_s, alk_0, alk_s, otl_n, otl_s, List.nil_append, List.cons_append, List.contains_cons, List.contains_nil, Nat.reduceBEq, Bool.or_false, Bool.false_or, Bool.or_self, Bool.false_eq_true, Bool.true_or, Bool.or_true, if_true, if_false, ite_true, ite_false, ↓reduceIte, List.length_cons, List.length_nil, Nat.reduceAdd, Nat.reduceLT, Nat.reduceLeDiff, Nat.reduceEqDiff, Int.reduceAdd, Int.reduceLE, Int.toNat_natCast, Int.reduceToNat, Int.cast_ofNat_Int, true_and, and_true, false_and, and_false, true_implies, forall_const, eq_self, and_self, or_true, true_or, or_self, false_or, or_false, yI_sI, yR_sI, yC_sI, yN_sI, yI_sR, yR_sR, yC_sR, yN_sR, not_true_eq_false, not_false_eq_true, false_implies, implies_true, Nat.zero_add, Nat.add_zero, Nat.le_refl, Nat.reduceSub, Int.reduceSub, Int.reduceLT, Int.sub_zero, Int.sub_self, List.getElem?_toArray, List.getElem?_cons_zero, List.getElem?_cons_succ, Int.toNat_zero, Int.toNat_one, Int.lt_irrefl, yI_sB, yR_sB, yC_sB, yN_sB, MSh_sB_eq, pS_by_0, stp_aload_n, pS_by_1, stp_getfield, qfS_12, rp_0_0, ss_C0 hS, ss_R0_0 hS, ss_C1 hS, pS_by_4, stp_iload_n, pS_by_5, stp_invokevirtual, qmS_89, cy_Y_hasPlace, pS_by_8, stp_ifCond_eq, pS_by_11, pS_by_12, pS_by_15, pS_by_16, pS_by_19, stp_ifCond_ne, pS_by_22, pS_by_23, stp_bipush, pS_by_25, qmS_79, cy_S_refuse, pS_by_28, stp_ireturn, pS_by_29, pS_by_30, pS_by_33, pS_by_34, pS_by_35, pS_by_36, qfS_63, rp_0_7, ss_R0_7 hS, ss_C8 hS, pS_by_39, qmS_104, cy_Y_find, pS_by_42, pS_by_45, pS_by_46, stp_ifCond_lt, pS_by_49, pS_by_50, pS_by_51, pS_by_54, qfS_111, rp_8_2, pS_by_57, stp_if_icmp_lt, pS_by_60, pS_by_61, pS_by_63, pS_by_66, pS_by_67, pS_by_68, pS_by_71, pS_by_72, qmS_114, cy_W_alleyAt, pS_by_75, bp_m3, nv_S_by, ml_S_by, ru1, ru2, h1, h2, rfi, hf, n0, wc1, n1, rfS_3 hS1, decide_true, ss_C0 hS1, ss_R0_7 hS1, ss_C8 hS1, show ¬ (1 : Int32) = 0 by decide, lvY_hasPlace, lvY_find, lvW_alleyAt, lvS_refuse]
            refine rf2 (Or.inr ?_)
            rw [bye]
            cases z : inR i 0 (nI (wyL (grf w) (dsM w) a b) - 1) with
            | false => rfl
            | true =>
              exfalso
              apply n1
              obtain ⟨z1, z2⟩ := inR_spec z
              obtain ⟨q, hq, rfl⟩ := nI_of n0
              by_cases L0 : wyL (grf w) (dsM w) a b = 0
              · rw [L0] at z2
                exact absurd (show nI 0 - 1 < nI q from Int32.lt_of_lt_of_le (by decide) (Int32.not_lt.mp n0)) z2
              · rw [show nI (wyL (grf w) (dsM w) a b) - 1 = nI (wyL (grf w) (dsM w) a b - 1) from nI_sub (b := 1) (by omega), nI_ltI (by omega) (by omega)] at z2
                exact nI_lt (by omega) (by omega)
      · simp only [reduceCtorEq, fv0, fv1, fv2, fv3, bI_0, bI_1, bft, MSh_sI_eq, fsP_T, inL_0, inL_s, pad_0, pad_n, pad_s, wpn_s, wp1_s, lg_0, lg_s, lset_0, lset_s, kil_0, kil_s, st1_s, st2_s, isL_i, isL_l, isL_r, isL_n, spl_0, spl_s, cll_n, cll_s, catS_0, catS_s, jmp_s, alk_0, alk_s, otl_n, otl_s, List.nil_append, List.cons_append, List.contains_cons, List.contains_nil, Nat.reduceBEq, Bool.or_false, Bool.false_or, Bool.or_self, Bool.false_eq_true, Bool.true_or, Bool.or_true, if_true, if_false, ite_true, ite_false, ↓reduceIte, List.length_cons, List.length_nil, Nat.reduceAdd, Nat.reduceLT, Nat.reduceLeDiff, Nat.reduceEqDiff, Int.reduceAdd, Int.reduceLE, Int.toNat_natCast, Int.reduceToNat, Int.cast_ofNat_Int, true_and, and_true, false_and, and_false, true_implies, forall_const, eq_self, and_self, or_true, true_or, or_self, false_or, or_false, yI_sI, yR_sI, yC_sI, yN_sI, yI_sR, yR_sR, yC_sR, yN_sR, not_true_eq_false, not_false_eq_true, false_implies, implies_true, Nat.zero_add, Nat.add_zero, Nat.le_refl, Nat.reduceSub, Int.reduceSub, Int.reduceLT, Int.sub_zero, Int.sub_self, List.getElem?_toArray, List.getElem?_cons_zero, List.getElem?_cons_succ, Int.toNat_zero, Int.toNat_one, Int.lt_irrefl, yI_sB, yR_sB, yC_sB, yN_sB, MSh_sB_eq, pS_by_0, stp_aload_n, pS_by_1, stp_getfield, qfS_12, rp_0_0, ss_C0 hS, ss_R0_0 hS, ss_C1 hS, pS_by_4, stp_iload_n, pS_by_5, stp_invokevirtual, qmS_89, cy_Y_hasPlace, pS_by_8, stp_ifCond_eq, pS_by_11, pS_by_12, pS_by_15, pS_by_16, pS_by_19, stp_ifCond_ne, pS_by_22, pS_by_23, stp_bipush, pS_by_25, qmS_79, cy_S_refuse, pS_by_28, stp_ireturn, pS_by_29, pS_by_30, pS_by_33, pS_by_34, pS_by_35, pS_by_36, qfS_63, rp_0_7, ss_R0_7 hS, ss_C8 hS, pS_by_39, qmS_104, cy_Y_find, pS_by_42, pS_by_45, pS_by_46, stp_ifCond_lt, pS_by_49, pS_by_50, pS_by_51, pS_by_54, qfS_111, rp_8_2, pS_by_57, stp_if_icmp_lt, pS_by_60, pS_by_61, pS_by_63, pS_by_66, pS_by_67, pS_by_68, pS_by_71, pS_by_72, qmS_114, cy_W_alleyAt, pS_by_75, bp_m3, nv_S_by, ml_S_by, ru1, ru2, h1, h2, rfi, hf, rfS_3 hS1, decide_false, ss_C0 hS1, ss_R0_7 hS1, ss_C8 hS1, show ¬ (1 : Int32) = 0 by decide, lvY_hasPlace, lvY_find, lvW_alleyAt, lvS_refuse]
        exact rf2 (Or.inl (by unfold wkV; rw [if_pos (by omega)]))
end
