/-! weight of a lot, lots that leave and arrive, brands written -/
abbrev lvS_weightOf : Nat := 7
noncomputable def fsS_weightOf : FS := fun as w => match as with
  | [.inr (.inr (some (0, 0))), .inr (.inr (some (10, j)))] => fsP (Cpr w ∧ j < cn w 17 ∧ ¬ wI w 123 0 j = -1) (some (.inl (wgI w j)), w)
  | _ => none
set_option maxRecDepth 100000 in
set_option maxHeartbeats 4000000 in
theorem okS_weightOf (l : Launch) (G : Gc) : FsOk l G mS_weightOf lvS_weightOf fsS_weightOf := by
  intro as w r w' h
  simp only [fsS_weightOf] at h
  split at h
  · rename_i j
    obtain ⟨⟨hC, hj, hn⟩, h⟩ := fsP_s h
    cases h
    have hP : Cpl w := hC.1
    have hS := hP.1
    obtain ⟨hs, hc⟩ := Cpl_lot hP hj
    have h14 := hP.2.1.2.1.2
    have e9 := hP.2.2.1.1
    have e0 := hc.1
    have e5 := hc.2.2.2.2.1
    have e6 := hc.2.2.2.2.2.1
    have e7 := hc.2.2.2.2.2.2.1
    have r1 := ruB_saying (k := 0) (b := -1) hC hj (Or.inl rfl)
    have r2 := ruO_thirst (x := wI w 13 0 2) hs.1
    rw [e6] at r2
    have r3 := ruY_offOf (p := wI w 123 0 j) hS hP.2.1.2.1 hP.2.2.1
    have e105 : ofI w (wI w 123 0 j) = wI w 105 0 (wI w 123 0 j).toNatClampNeg := by
      rcases hP.2.1.2.2.2.2.2.2.2.1 j hj with q | ⟨p, hp, e⟩
      · exact absurd q hn
      · unfold ofI
        rw [e, if_pos (okc_inR hP.2.1.2.1 (by omega) hp)]
    rw [e105] at r3
    have h60 : ¬ (60 : Int32) = 0 := by decide
    have ee : wI w 121 0 j - (wI w 13 0 2 - wI w 126 0 j) / 60 - sdI w (swK 0) j (-1) = each w j := rfl
    refine Sem_of (by decide) rfl (Nat.le_of_ble_eq_true rfl) ?_
    refine wpn_ok (M := mS_weightOf) (C := cenS) (X := (alk [(285, lvB_saying, fsB_saying), (176, lvO_thirst, fsO_thirst)])) (tb := tS_weightOf) (st := [34]) eoS (XOk_cons qmS_285 (okB_saying l G) (XOk_cons qmS_176 (okO_thirst l G) XOk_nil)) kS_weightOf 60 _ _ _ _ _ _ ?_
    simp only [reduceCtorEq, fv0, fv1, fv2, fv3, bI_0, bI_1, bft, MSh_sI_eq, fsP_T, inL_0, inL_s, pad_0, pad_n, pad_s, wpn_s, wp1_s, lg_0, lg_s, lset_0, lset_s, kil_0, kil_s, st1_s, st2_s, isL_i, isL_l, isL_r, isL_n, spl_0, spl_s, cll_n, cll_s, catS_0, catS_s, jmp_s, alk_0, alk_s, otl_n, otl_s, List.nil_append, List.cons_append, List.contains_cons, List.contains_nil, Nat.reduceBEq, Bool.or_false, Bool.false_or, Bool.or_self, Bool.false_eq_true, Bool.true_or, Bool.or_true, if_true, if_false, ite_true, ite_false, ↓reduceIte, List.length_cons, List.length_nil, Nat.reduceAdd, Nat.reduceLT, Nat.reduceLeDiff, Nat.reduceEqDiff, Int.reduceAdd, Int.reduceLE, Int.toNat_natCast, Int.reduceToNat, Int.cast_ofNat_Int, true_and, and_true, false_and, and_false, true_implies, forall_const, eq_self, and_self, or_true, true_or, or_self, false_or, or_false, yI_sI, yR_sI, yC_sI, yN_sI, yI_sR, yR_sR, yC_sR, yN_sR, not_true_eq_false, not_false_eq_true, false_implies, implies_true, Nat.zero_add, Nat.add_zero, Nat.le_refl, Nat.reduceSub, Int.reduceSub, Int.reduceLT, Int.sub_zero, Int.sub_self, List.getElem?_toArray, List.getElem?_cons_zero, List.getElem?_cons_succ, Int.toNat_zero, Int.toNat_one, Int.lt_irrefl, yI_sB, yR_sB, yC_sB, yN_sB, MSh_sB_eq, pS_weightOf_0, stp_aload_n, pS_weightOf_1, stp_getfield, qfS_33, rp_0_3, ss_C0 hS, ss_R0_3 hS, ss_C4 hS, pS_weightOf_4, stp_iconst, pS_weightOf_5, pS_weightOf_6, pS_weightOf_7, pS_weightOf_8, qfS_71, rp_0_9, pS_weightOf_11, stp_invokevirtual, qmS_285, cy_B_saying, pS_weightOf_14, stp_istore_n, pS_weightOf_15, pS_weightOf_16, pS_weightOf_17, qfS_155, rp_10_0, pS_weightOf_20, pS_weightOf_21, pS_weightOf_22, pS_weightOf_25, qmS_176, cy_O_thirst, pS_weightOf_28, stp_bipush, pS_weightOf_30, stp_idiv, pS_weightOf_31, stp_isub, pS_weightOf_32, stp_iload_n, pS_weightOf_33, pS_weightOf_34, stp_invokestatic, qmS_386, pS_weightOf_37, pS_weightOf_38, pS_weightOf_39, pS_weightOf_40, qfS_152, rp_10_5, pS_weightOf_43, pS_weightOf_44, stp_imul, pS_weightOf_45, pS_weightOf_46, qfS_12, rp_0_0, ss_R0_0 hS, ss_C1 hS, pS_weightOf_49, pS_weightOf_50, qfS_167, rp_10_7, pS_weightOf_53, qmS_318, cy_Y_offOf, pS_weightOf_56, stp_iadd, pS_weightOf_57, pS_weightOf_60, stp_ireturn, ic_0, ic_m1, ic_1, bp_60, nv_S_weightOf, ml_S_weightOf, hs.1, e9, e0, r1, r2, h60, ee, lvS_weightOf, lvB_saying, lvO_thirst]
    refine wp_max kS_weightOf pS_weightOf_34 wm_max_S (Nat.le_of_ble_eq_true rfl) (by decide) ?_
    rw [mx1]
    refine wpn_ok (M := mS_weightOf) (C := cenS) (X := (alk [(318, lvY_offOf, fsY_offOf)])) (tb := tS_weightOf) (st := [57]) eoS (XOk_cons qmS_318 (okY_offOf l G) XOk_nil) kS_weightOf 60 _ _ _ _ _ _ ?_
    simp only [reduceCtorEq, fv0, fv1, fv2, fv3, bI_0, bI_1, bft, MSh_sI_eq, fsP_T, inL_0, inL_s, pad_0, pad_n, pad_s, wpn_s, wp1_s, lg_0, lg_s, lset_0, lset_s, kil_0, kil_s, st1_s, st2_s, isL_i, isL_l, isL_r, isL_n, spl_0, spl_s, cll_n, cll_s, catS_0, catS_s, jmp_s, alk_0, alk_s, otl_n, otl_s, List.nil_append, List.cons_append, List.contains_cons, List.contains_nil, Nat.reduceBEq, Bool.or_false, Bool.false_or, Bool.or_self, Bool.false_eq_true, Bool.true_or, Bool.or_true, if_true, if_false, ite_true, ite_false, ↓reduceIte, List.length_cons, List.length_nil, Nat.reduceAdd, Nat.reduceLT, Nat.reduceLeDiff, Nat.reduceEqDiff, Int.reduceAdd, Int.reduceLE, Int.toNat_natCast, Int.reduceToNat, Int.cast_ofNat_Int, true_and, and_true, false_and, and_false, true_implies, forall_const, eq_self, and_self, or_true, true_or, or_self, false_or, or_false, yI_sI, yR_sI, yC_sI, yN_sI, yI_sR, yR_sR, yC_sR, yN_sR, not_true_eq_false, not_false_eq_true, false_implies, implies_true, Nat.zero_add, Nat.add_zero, Nat.le_refl, Nat.reduceSub, Int.reduceSub, Int.reduceLT, Int.sub_zero, Int.sub_self, List.getElem?_toArray, List.getElem?_cons_zero, List.getElem?_cons_succ, Int.toNat_zero, Int.toNat_one, Int.lt_irrefl, yI_sB, yR_sB, yC_sB, yN_sB, MSh_sB_eq, pS_weightOf_0, stp_aload_n, pS_weightOf_1, stp_getfield, qfS_33, rp_0_3, ss_C0 hS, ss_R0_3 hS, ss_C4 hS, pS_weightOf_4, stp_iconst, pS_weightOf_5, pS_weightOf_6, pS_weightOf_7, pS_weightOf_8, qfS_71, rp_0_9, pS_weightOf_11, stp_invokevirtual, qmS_285, cy_B_saying, pS_weightOf_14, stp_istore_n, pS_weightOf_15, pS_weightOf_16, pS_weightOf_17, qfS_155, rp_10_0, pS_weightOf_20, pS_weightOf_21, pS_weightOf_22, pS_weightOf_25, qmS_176, cy_O_thirst, pS_weightOf_28, stp_bipush, pS_weightOf_30, stp_idiv, pS_weightOf_31, stp_isub, pS_weightOf_32, stp_iload_n, pS_weightOf_33, pS_weightOf_34, stp_invokestatic, qmS_386, pS_weightOf_37, pS_weightOf_38, pS_weightOf_39, pS_weightOf_40, qfS_152, rp_10_5, pS_weightOf_43, pS_weightOf_44, stp_imul, pS_weightOf_45, pS_weightOf_46, qfS_12, rp_0_0, ss_R0_0 hS, ss_C1 hS, pS_weightOf_49, pS_weightOf_50, qfS_167, rp_10_7, pS_weightOf_53, qmS_318, cy_Y_offOf, pS_weightOf_56, stp_iadd, pS_weightOf_57, pS_weightOf_60, stp_ireturn, ic_0, ic_m1, ic_1, bp_60, nv_S_weightOf, ml_S_weightOf, hs.1, e5, e7, r3, lvS_weightOf, lvY_offOf]
    refine wp_max kS_weightOf pS_weightOf_57 wm_max_S (Nat.le_of_ble_eq_true rfl) (by decide) ?_
    rw [mx1]
    refine wpn_ok (M := mS_weightOf) (C := cenS) (X := (alk [])) (tb := tS_weightOf) (st := []) eoS XOk_nil kS_weightOf 60 _ _ _ _ _ _ ?_
    simp only [reduceCtorEq, fv0, fv1, fv2, fv3, bI_0, bI_1, bft, MSh_sI_eq, fsP_T, inL_0, inL_s, pad_0, pad_n, pad_s, wpn_s, wp1_s, lg_0, lg_s, lset_0, lset_s, kil_0, kil_s, st1_s, st2_s, isL_i, isL_l, isL_r, isL_n, spl_0, spl_s, cll_n, cll_s, catS_0, catS_s, jmp_s, alk_0, alk_s, otl_n, otl_s, List.nil_append, List.cons_append, List.contains_cons, List.contains_nil, Nat.reduceBEq, Bool.or_false, Bool.false_or, Bool.or_self, Bool.false_eq_true, Bool.true_or, Bool.or_true, if_true, if_false, ite_true, ite_false, ↓reduceIte, List.length_cons, List.length_nil, Nat.reduceAdd, Nat.reduceLT, Nat.reduceLeDiff, Nat.reduceEqDiff, Int.reduceAdd, Int.reduceLE, Int.toNat_natCast, Int.reduceToNat, Int.cast_ofNat_Int, true_and, and_true, false_and, and_false, true_implies, forall_const, eq_self, and_self, or_true, true_or, or_self, false_or, or_false, yI_sI, yR_sI, yC_sI, yN_sI, yI_sR, yR_sR, yC_sR, yN_sR, not_true_eq_false, not_false_eq_true, false_implies, implies_true, Nat.zero_add, Nat.add_zero, Nat.le_refl, Nat.reduceSub, Int.reduceSub, Int.reduceLT, Int.sub_zero, Int.sub_self, List.getElem?_toArray, List.getElem?_cons_zero, List.getElem?_cons_succ, Int.toNat_zero, Int.toNat_one, Int.lt_irrefl, yI_sB, yR_sB, yC_sB, yN_sB, MSh_sB_eq, pS_weightOf_0, stp_aload_n, pS_weightOf_1, stp_getfield, qfS_33, rp_0_3, ss_C0 hS, ss_R0_3 hS, ss_C4 hS, pS_weightOf_4, stp_iconst, pS_weightOf_5, pS_weightOf_6, pS_weightOf_7, pS_weightOf_8, qfS_71, rp_0_9, pS_weightOf_11, stp_invokevirtual, qmS_285, cy_B_saying, pS_weightOf_14, stp_istore_n, pS_weightOf_15, pS_weightOf_16, pS_weightOf_17, qfS_155, rp_10_0, pS_weightOf_20, pS_weightOf_21, pS_weightOf_22, pS_weightOf_25, qmS_176, cy_O_thirst, pS_weightOf_28, stp_bipush, pS_weightOf_30, stp_idiv, pS_weightOf_31, stp_isub, pS_weightOf_32, stp_iload_n, pS_weightOf_33, pS_weightOf_34, stp_invokestatic, qmS_386, pS_weightOf_37, pS_weightOf_38, pS_weightOf_39, pS_weightOf_40, qfS_152, rp_10_5, pS_weightOf_43, pS_weightOf_44, stp_imul, pS_weightOf_45, pS_weightOf_46, qfS_12, rp_0_0, ss_R0_0 hS, ss_C1 hS, pS_weightOf_49, pS_weightOf_50, qfS_167, rp_10_7, pS_weightOf_53, qmS_318, cy_Y_offOf, pS_weightOf_56, stp_iadd, pS_weightOf_57, pS_weightOf_60, stp_ireturn, ic_0, ic_m1, ic_1, bp_60, nv_S_weightOf, ml_S_weightOf, wgI]
  · cases h
theorem ruS_weightOf {w : Wd} {j : Nat} (h : Cpr w) (hj : j < cn w 17) (hn : ¬ wI w 123 0 j = -1) : fsS_weightOf [.inr (.inr (some (0, 0))), .inr (.inr (some (10, j)))] w = some (some (.inl (wgI w j)), w) := fsP_t ⟨h, hj, hn⟩
abbrev lvO_leave : Nat := 1
def lvW (w : Wd) (j : Nat) (a b : Int32) : Wd := sI (sI (sI w 10 j 7 (-1)) 10 j 8 a) 10 j 9 b
noncomputable def fsO_leave : FS := fun as w => match as with
  | [.inr (.inr (some (10, j))), .inl a, .inl b] => fsP (j < wC w 10) (none, lvW w j a b)
  | _ => none
set_option maxRecDepth 100000 in
set_option maxHeartbeats 4000000 in
theorem okO_leave (l : Launch) (G : Gc) : FsOk l G mO_leave lvO_leave fsO_leave := by
  intro as w r w' h
  simp only [fsO_leave] at h
  split at h
  · rename_i j a b
    obtain ⟨hj, h⟩ := fsP_s h
    cases h
    refine Sem_of (by decide) rfl (Nat.le_of_ble_eq_true rfl) ?_
    refine wpn_ok (M := mO_leave) (C := cenO) (X := (alk [])) (tb := tO_leave) (st := []) eoO XOk_nil kO_leave 200 _ _ _ _ _ _ ?_
    simp only [reduceCtorEq, fv0, fv1, fv2, fv3, bI_0, bI_1, bft, MSh_sI_eq, fsP_T, inL_0, inL_s, pad_0, pad_n, pad_s, wpn_s, wp1_s, lg_0, lg_s, lset_0, lset_s, kil_0, kil_s, st1_s, st2_s, isL_i, isL_l, isL_r, isL_n, spl_0, spl_s, cll_n, cll_s, catS_0, catS_s, jmp_s, alk_0, alk_s, otl_n, otl_s, List.nil_append, List.cons_append, List.contains_cons, List.contains_nil, Nat.reduceBEq, Bool.or_false, Bool.false_or, Bool.or_self, Bool.false_eq_true, Bool.true_or, Bool.or_true, if_true, if_false, ite_true, ite_false, ↓reduceIte, List.length_cons, List.length_nil, Nat.reduceAdd, Nat.reduceLT, Nat.reduceLeDiff, Nat.reduceEqDiff, Int.reduceAdd, Int.reduceLE, Int.toNat_natCast, Int.reduceToNat, Int.cast_ofNat_Int, true_and, and_true, false_and, and_false, true_implies, forall_const, eq_self, and_self, or_true, true_or, or_self, false_or, or_false, yI_sI, yR_sI, yC_sI, yN_sI, yI_sR, yR_sR, yC_sR, yN_sR, not_true_eq_false, not_false_eq_true, false_implies, implies_true, Nat.zero_add, Nat.add_zero, Nat.le_refl, Nat.reduceSub, Int.reduceSub, Int.reduceLT, Int.sub_zero, Int.sub_self, List.getElem?_toArray, List.getElem?_cons_zero, List.getElem?_cons_succ, Int.toNat_zero, Int.toNat_one, Int.lt_irrefl, yI_sB, yR_sB, yC_sB, yN_sB, MSh_sB_eq, pO_leave_0, stp_aload_n, pO_leave_1, stp_iconst, pO_leave_2, stp_putfield, qfO_47, rp_10_7, fi_10_7, nr_10_7, pO_leave_5, pO_leave_6, stp_iload_n, pO_leave_7, qfO_18, rp_10_8, fi_10_8, nr_10_8, pO_leave_10, pO_leave_11, pO_leave_12, qfO_22, rp_10_9, fi_10_9, nr_10_9, pO_leave_15, stp_return_, ic_m1, nv_O_leave, ml_O_leave, lvO_leave, hj, lvW]
  · cases h
theorem ruO_leave {w : Wd} {j : Nat} {a b : Int32} (h : j < wC w 10) : fsO_leave [.inr (.inr (some (10, j))), .inl a, .inl b] w = some (none, lvW w j a b) := fsP_t h
abbrev lvO_arrive : Nat := 2
def arB (w : Wd) (j : Nat) (x : Int32) : Bool := !decide (wI w 10 j 8 = -1) && decide (wI w 10 j 9 ≤ x)
def arW (w : Wd) (j : Nat) : Wd := sI (sI (sI w 10 j 7 (wI w 10 j 8)) 10 j 8 (-1)) 10 j 9 (-1)
noncomputable def fsO_arrive : FS := fun as w => match as with
  | [.inr (.inr (some (10, j))), .inl x] => fsP (j < wC w 10) (some (.inl (bI (arB w j x))), if arB w j x = true then arW w j else w)
  | _ => none
set_option maxRecDepth 100000 in
set_option maxHeartbeats 4000000 in
theorem okO_arrive (l : Launch) (G : Gc) : FsOk l G mO_arrive lvO_arrive fsO_arrive := by
  intro as w r w' h
  simp only [fsO_arrive] at h
  split at h
  · rename_i j x
    obtain ⟨hj, h⟩ := fsP_s h
    cases h
    have ro : fsO_isOnWay [.inr (.inr (some (10, j)))] w = some (some (.inl (bI (!decide (wI w 10 j 8 = -1)))), w) := fsP_t hj
    have t1 : ¬ (1 : Int32) = 0 := by decide
    refine Sem_of (by decide) rfl (Nat.le_of_ble_eq_true rfl) ?_
    refine wpn_ok (M := mO_arrive) (C := cenO) (X := (alk [(50, lvO_isOnWay, fsO_isOnWay)])) (tb := tO_arrive) (st := []) eoO (XOk_cons qmO_50 (okO_isOnWay l G) XOk_nil) kO_arrive 60 _ _ _ _ _ _ ?_
    by_cases h1 : wI w 10 j 8 = -1
    · simp only [h1, decide_true, Bool.not_true] at ro
      simp only [reduceCtorEq, fv0, fv1, fv2, fv3, bI_0, bI_1, bft, MSh_sI_eq, fsP_T, inL_0, inL_s, pad_0, pad_n, pad_s, wpn_s, wp1_s, lg_0, lg_s, lset_0, lset_s, kil_0, kil_s, st1_s, st2_s, isL_i, isL_l, isL_r, isL_n, spl_0, spl_s, cll_n, cll_s, catS_0, catS_s, jmp_s, alk_0, alk_s, otl_n, otl_s, List.nil_append, List.cons_append, List.contains_cons, List.contains_nil, Nat.reduceBEq, Bool.or_false, Bool.false_or, Bool.or_self, Bool.false_eq_true, Bool.true_or, Bool.or_true, if_true, if_false, ite_true, ite_false, ↓reduceIte, List.length_cons, List.length_nil, Nat.reduceAdd, Nat.reduceLT, Nat.reduceLeDiff, Nat.reduceEqDiff, Int.reduceAdd, Int.reduceLE, Int.toNat_natCast, Int.reduceToNat, Int.cast_ofNat_Int, true_and, and_true, false_and, and_false, true_implies, forall_const, eq_self, and_self, or_true, true_or, or_self, false_or, or_false, yI_sI, yR_sI, yC_sI, yN_sI, yI_sR, yR_sR, yC_sR, yN_sR, not_true_eq_false, not_false_eq_true, false_implies, implies_true, Nat.zero_add, Nat.add_zero, Nat.le_refl, Nat.reduceSub, Int.reduceSub, Int.reduceLT, Int.sub_zero, Int.sub_self, List.getElem?_toArray, List.getElem?_cons_zero, List.getElem?_cons_succ, Int.toNat_zero, Int.toNat_one, Int.lt_irrefl, yI_sB, yR_sB, yC_sB, yN_sB, MSh_sB_eq, pO_arrive_0, stp_aload_n, pO_arrive_1, stp_invokevirtual, qmO_50, cy_O_isOnWay, pO_arrive_4, stp_ifCond_eq, pO_arrive_7, pO_arrive_8, stp_getfield, qfO_22, rp_10_9, pO_arrive_11, stp_iload_n, pO_arrive_12, stp_if_icmp_le, pO_arrive_15, stp_iconst, pO_arrive_16, stp_ireturn, pO_arrive_17, pO_arrive_18, pO_arrive_19, qfO_18, rp_10_8, pO_arrive_22, stp_putfield, qfO_47, rp_10_7, fi_10_7, nr_10_7, pO_arrive_25, pO_arrive_26, pO_arrive_27, fi_10_8, nr_10_8, pO_arrive_30, pO_arrive_31, pO_arrive_32, fi_10_9, nr_10_9, pO_arrive_35, pO_arrive_36, ic_0, ic_m1, ic_1, nv_O_arrive, ml_O_arrive, hj, ro, lvO_arrive, lvO_isOnWay]
      simp [arB, h1, bI]
    · simp only [h1, decide_false, Bool.not_false] at ro
      by_cases h2 : wI w 10 j 9 ≤ x
      · simp only [reduceCtorEq, fv0, fv1, fv2, fv3, bI_0, bI_1, bft, MSh_sI_eq, fsP_T, inL_0, inL_s, pad_0, pad_n, pad_s, wpn_s, wp1_s, lg_0, lg_s, lset_0, lset_s, kil_0, kil_s, st1_s, st2_s, isL_i, isL_l, isL_r, isL_n, spl_0, spl_s, cll_n, cll_s, catS_0, catS_s, jmp_s, alk_0, alk_s, otl_n, otl_s, List.nil_append, List.cons_append, List.contains_cons, List.contains_nil, Nat.reduceBEq, Bool.or_false, Bool.false_or, Bool.or_self, Bool.false_eq_true, Bool.true_or, Bool.or_true, if_true, if_false, ite_true, ite_false, ↓reduceIte, List.length_cons, List.length_nil, Nat.reduceAdd, Nat.reduceLT, Nat.reduceLeDiff, Nat.reduceEqDiff, Int.reduceAdd, Int.reduceLE, Int.toNat_natCast, Int.reduceToNat, Int.cast_ofNat_Int, true_and, and_true, false_and, and_false, true_implies, forall_const, eq_self, and_self, or_true, true_or, or_self, false_or, or_false, yI_sI, yR_sI, yC_sI, yN_sI, yI_sR, yR_sR, yC_sR, yN_sR, not_true_eq_false, not_false_eq_true, false_implies, implies_true, Nat.zero_add, Nat.add_zero, Nat.le_refl, Nat.reduceSub, Int.reduceSub, Int.reduceLT, Int.sub_zero, Int.sub_self, List.getElem?_toArray, List.getElem?_cons_zero, List.getElem?_cons_succ, Int.toNat_zero, Int.toNat_one, Int.lt_irrefl, yI_sB, yR_sB, yC_sB, yN_sB, MSh_sB_eq, pO_arrive_0, stp_aload_n, pO_arrive_1, stp_invokevirtual, qmO_50, cy_O_isOnWay, pO_arrive_4, stp_ifCond_eq, pO_arrive_7, pO_arrive_8, stp_getfield, qfO_22, rp_10_9, pO_arrive_11, stp_iload_n, pO_arrive_12, stp_if_icmp_le, pO_arrive_15, stp_iconst, pO_arrive_16, stp_ireturn, pO_arrive_17, pO_arrive_18, pO_arrive_19, qfO_18, rp_10_8, pO_arrive_22, stp_putfield, qfO_47, rp_10_7, fi_10_7, nr_10_7, pO_arrive_25, pO_arrive_26, pO_arrive_27, fi_10_8, nr_10_8, pO_arrive_30, pO_arrive_31, pO_arrive_32, fi_10_9, nr_10_9, pO_arrive_35, pO_arrive_36, ic_0, ic_m1, ic_1, nv_O_arrive, ml_O_arrive, hj, ro, t1, h2, lvO_arrive, lvO_isOnWay]
        simp [arB, arW, h1, h2, bI]
      · simp only [reduceCtorEq, fv0, fv1, fv2, fv3, bI_0, bI_1, bft, MSh_sI_eq, fsP_T, inL_0, inL_s, pad_0, pad_n, pad_s, wpn_s, wp1_s, lg_0, lg_s, lset_0, lset_s, kil_0, kil_s, st1_s, st2_s, isL_i, isL_l, isL_r, isL_n, spl_0, spl_s, cll_n, cll_s, catS_0, catS_s, jmp_s, alk_0, alk_s, otl_n, otl_s, List.nil_append, List.cons_append, List.contains_cons, List.contains_nil, Nat.reduceBEq, Bool.or_false, Bool.false_or, Bool.or_self, Bool.false_eq_true, Bool.true_or, Bool.or_true, if_true, if_false, ite_true, ite_false, ↓reduceIte, List.length_cons, List.length_nil, Nat.reduceAdd, Nat.reduceLT, Nat.reduceLeDiff, Nat.reduceEqDiff, Int.reduceAdd, Int.reduceLE, Int.toNat_natCast, Int.reduceToNat, Int.cast_ofNat_Int, true_and, and_true, false_and, and_false, true_implies, forall_const, eq_self, and_self, or_true, true_or, or_self, false_or, or_false, yI_sI, yR_sI, yC_sI, yN_sI, yI_sR, yR_sR, yC_sR, yN_sR, not_true_eq_false, not_false_eq_true, false_implies, implies_true, Nat.zero_add, Nat.add_zero, Nat.le_refl, Nat.reduceSub, Int.reduceSub, Int.reduceLT, Int.sub_zero, Int.sub_self, List.getElem?_toArray, List.getElem?_cons_zero, List.getElem?_cons_succ, Int.toNat_zero, Int.toNat_one, Int.lt_irrefl, yI_sB, yR_sB, yC_sB, yN_sB, MSh_sB_eq, pO_arrive_0, stp_aload_n, pO_arrive_1, stp_invokevirtual, qmO_50, cy_O_isOnWay, pO_arrive_4, stp_ifCond_eq, pO_arrive_7, pO_arrive_8, stp_getfield, qfO_22, rp_10_9, pO_arrive_11, stp_iload_n, pO_arrive_12, stp_if_icmp_le, pO_arrive_15, stp_iconst, pO_arrive_16, stp_ireturn, pO_arrive_17, pO_arrive_18, pO_arrive_19, qfO_18, rp_10_8, pO_arrive_22, stp_putfield, qfO_47, rp_10_7, fi_10_7, nr_10_7, pO_arrive_25, pO_arrive_26, pO_arrive_27, fi_10_8, nr_10_8, pO_arrive_30, pO_arrive_31, pO_arrive_32, fi_10_9, nr_10_9, pO_arrive_35, pO_arrive_36, ic_0, ic_m1, ic_1, nv_O_arrive, ml_O_arrive, hj, ro, t1, h2, lvO_arrive, lvO_isOnWay]
        simp [arB, h1, h2, bI]
  · cases h
theorem ruO_arrive {w : Wd} {j : Nat} {x : Int32} (h : j < wC w 10) : fsO_arrive [.inr (.inr (some (10, j))), .inl x] w = some (some (.inl (bI (arB w j x))), if arB w j x = true then arW w j else w) := fsP_t h
abbrev lvK_add : Nat := 1
def kadW (w : Wd) (s : Nat) (a b : Int32) : Wd := sI (sI (sI w 175 0 s a) 176 0 s b) 5 0 2 (nI (s + 1))
noncomputable def fsK_add : FS := fun as w => match as with
  | [.inr (.inr (some (5, 0))), .inl a, .inl b] => fsP (SSh w ∧ ∃ s, s < 20 ∧ wI w 5 0 2 = nI s) (none, kadW w (wI w 5 0 2).toNatClampNeg a b)
  | _ => none
set_option maxRecDepth 100000 in
set_option maxHeartbeats 4000000 in
theorem okK_add (l : Launch) (G : Gc) : FsOk l G mK_add lvK_add fsK_add := by
  intro as w r w' h
  simp only [fsK_add] at h
  split at h
  · rename_i a b
    obtain ⟨⟨hS, s, hs, e⟩, h⟩ := fsP_s h
    cases h
    have c1 : (nI s).toNatClampNeg = s := nI_clamp (by omega)
    have v1 : vp_in (nI s) 20 := vp_in_nI (by omega) (by omega)
    have q1 : ¬ (20 : Int32) ≤ nI s := nI_ge (b := 20) hs (by omega)
    rw [e, c1]
    refine Sem_of (by decide) rfl (Nat.le_of_ble_eq_true rfl) ?_
    refine wpn_ok (M := mK_add) (C := cenK) (X := (alk [])) (tb := tK_add) (st := []) eoK XOk_nil kK_add 60 _ _ _ _ _ _ ?_
    simp only [reduceCtorEq, fv0, fv1, fv2, fv3, bI_0, bI_1, bft, MSh_sI_eq, fsP_T, inL_0, inL_s, pad_0, pad_n, pad_s, wpn_s, wp1_s, lg_0, lg_s, lset_0, lset_s, kil_0, kil_s, st1_s, st2_s, isL_i, isL_l, isL_r, isL_n, spl_0, spl_s, cll_n, cll_s, catS_0, catS_s, jmp_s, alk_0, alk_s, otl_n, otl_s, List.nil_append, List.cons_append, List.contains_cons, List.contains_nil, Nat.reduceBEq, Bool.or_false, Bool.false_or, Bool.or_self, Bool.false_eq_true, Bool.true_or, Bool.or_true, if_true, if_false, ite_true, ite_false, ↓reduceIte, List.length_cons, List.length_nil, Nat.reduceAdd, Nat.reduceLT, Nat.reduceLeDiff, Nat.reduceEqDiff, Int.reduceAdd, Int.reduceLE, Int.toNat_natCast, Int.reduceToNat, Int.cast_ofNat_Int, true_and, and_true, false_and, and_false, true_implies, forall_const, eq_self, and_self, or_true, true_or, or_self, false_or, or_false, yI_sI, yR_sI, yC_sI, yN_sI, yI_sR, yR_sR, yC_sR, yN_sR, not_true_eq_false, not_false_eq_true, false_implies, implies_true, Nat.zero_add, Nat.add_zero, Nat.le_refl, Nat.reduceSub, Int.reduceSub, Int.reduceLT, Int.sub_zero, Int.sub_self, List.getElem?_toArray, List.getElem?_cons_zero, List.getElem?_cons_succ, Int.toNat_zero, Int.toNat_one, Int.lt_irrefl, yI_sB, yR_sB, yC_sB, yN_sB, MSh_sB_eq, pK_add_0, stp_aload_n, pK_add_1, stp_getfield, qfK_18, rp_5_2, ss_C5 hS, pK_add_4, stp_bipush, pK_add_6, stp_if_icmp_ge, pK_add_9, pK_add_10, qfK_9, rp_5_0, ss_R5_0 hS, ss_C175 hS, ss_N175 hS, pK_add_13, pK_add_14, pK_add_17, stp_iload_n, pK_add_18, stp_iastore, pK_add_19, pK_add_20, qfK_15, rp_5_1, ss_R5_1 hS, ss_C176 hS, ss_N176 hS, pK_add_23, pK_add_24, pK_add_27, pK_add_28, pK_add_29, pK_add_30, stp_dup, pK_add_31, pK_add_34, stp_iconst, pK_add_35, stp_iadd, pK_add_36, stp_putfield, fi_5_2, nr_5_2, pK_add_39, stp_return_, bp_20, ic_1, nv_K_add, ml_K_add, e, c1, v1, q1, nI_1, kadW]
  · cases h
