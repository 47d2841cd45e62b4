/-! the row of numbers of the class -/
def rwO (w : Wd) : Prop := SSh w ∧ ∃ s, s ≤ 14 ∧ wI w 7 0 1 = nI s
abbrev rwI (w : Wd) (x : Int32) : Prop := ¬ x < 0 ∧ ¬ wI w 7 0 1 ≤ x
theorem rwI_n {w : Wd} {x : Int32} (h : rwO w) (hx : rwI w x) : ∃ j, j < 14 ∧ x = nI j := by
  obtain ⟨-, s, hs, e⟩ := h
  obtain ⟨j, hj, rfl⟩ := nI_of hx.1
  refine ⟨j, ?_, rfl⟩
  have := hx.2
  rw [e, nI_leI (by omega) hj] at this
  omega
abbrev lvR_at : Nat := 1
noncomputable def fsR_at : FS := fun as w => match as with
  | [.inr (.inr (some (7, 0))), .inl x] => fsP (rwO w) (some (.inl (if rwI w x then wI w 183 0 x.toNatClampNeg else -1)), w)
  | _ => none
set_option maxRecDepth 100000 in
set_option maxHeartbeats 4000000 in
theorem okR_at (l : Launch) (G : Gc) : FsOk l G mR_at lvR_at fsR_at := by
  intro as w r w' h
  simp only [fsR_at] at h
  split at h
  · rename_i x
    obtain ⟨hO, h⟩ := fsP_s h
    cases h
    have hS := hO.1
    refine Sem_of (by decide) rfl (Nat.le_of_ble_eq_true rfl) ?_
    refine wpn_ok (M := mR_at) (C := cenR) (X := (alk [])) (tb := tR_at) (st := []) eoR XOk_nil kR_at 60 _ _ _ _ _ _ ?_
    by_cases h1 : x < 0
    · simp only [reduceCtorEq, fv0, fv1, fv2, fv3, bI_0, bI_1, bft, MSh_sI_eq, fsP_T, inL_0, inL_s, pad_0, pad_n, pad_s, wpn_s, wp1_s, lg_0, lg_s, lset_0, lset_s, kil_0, kil_s, st1_s, st2_s, isL_i, isL_l, isL_r, isL_n, spl_0, spl_s, cll_n, cll_s, catS_0, catS_s, jmp_s, alk_0, alk_s, otl_n, otl_s, List.nil_append, List.cons_append, List.contains_cons, List.contains_nil, Nat.reduceBEq, Bool.or_false, Bool.false_or, Bool.or_self, Bool.false_eq_true, Bool.true_or, Bool.or_true, if_true, if_false, ite_true, ite_false, ↓reduceIte, List.length_cons, List.length_nil, Nat.reduceAdd, Nat.reduceLT, Nat.reduceLeDiff, Nat.reduceEqDiff, Int.reduceAdd, Int.reduceLE, Int.toNat_natCast, Int.reduceToNat, Int.cast_ofNat_Int, true_and, and_true, false_and, and_false, true_implies, forall_const, eq_self, and_self, or_true, true_or, or_self, false_or, or_false, yI_sI, yR_sI, yC_sI, yN_sI, yI_sR, yR_sR, yC_sR, yN_sR, not_true_eq_false, not_false_eq_true, false_implies, implies_true, Nat.zero_add, Nat.add_zero, Nat.le_refl, Nat.reduceSub, Int.reduceSub, Int.reduceLT, Int.sub_zero, Int.sub_self, List.getElem?_toArray, List.getElem?_cons_zero, List.getElem?_cons_succ, Int.toNat_zero, Int.toNat_one, Int.lt_irrefl, yI_sB, yR_sB, yC_sB, yN_sB, MSh_sB_eq, pR_at_0, stp_iload_n, pR_at_1, stp_ifCond_lt, pR_at_4, pR_at_5, stp_aload_n, pR_at_6, stp_getfield, qfR_15, rp_7_1, ss_C7 hS, pR_at_9, stp_if_icmp_ge, pR_at_12, pR_at_13, qfR_9, rp_7_0, ss_R7_0 hS, ss_C183 hS, ss_N183 hS, pR_at_16, pR_at_17, stp_iaload, pR_at_18, stp_goto, pR_at_21, stp_iconst, pR_at_22, stp_ireturn, ic_m1, nv_R_at, ml_R_at, h1]
      simp [rwI, h1]
    · by_cases h2 : wI w 7 0 1 ≤ x
      · simp only [reduceCtorEq, fv0, fv1, fv2, fv3, bI_0, bI_1, bft, MSh_sI_eq, fsP_T, inL_0, inL_s, pad_0, pad_n, pad_s, wpn_s, wp1_s, lg_0, lg_s, lset_0, lset_s, kil_0, kil_s, st1_s, st2_s, isL_i, isL_l, isL_r, isL_n, spl_0, spl_s, cll_n, cll_s, catS_0, catS_s, jmp_s, alk_0, alk_s, otl_n, otl_s, List.nil_append, List.cons_append, List.contains_cons, List.contains_nil, Nat.reduceBEq, Bool.or_false, Bool.false_or, Bool.or_self, Bool.false_eq_true, Bool.true_or, Bool.or_true, if_true, if_false, ite_true, ite_false, ↓reduceIte, List.length_cons, List.length_nil, Nat.reduceAdd, Nat.reduceLT, Nat.reduceLeDiff, Nat.reduceEqDiff, Int.reduceAdd, Int.reduceLE, Int.toNat_natCast, Int.reduceToNat, Int.cast_ofNat_Int, true_and, and_true, false_and, and_false, true_implies, forall_const, eq_self, and_self, or_true, true_or, or_self, false_or, or_false, yI_sI, yR_sI, yC_sI, yN_sI, yI_sR, yR_sR, yC_sR, yN_sR, not_true_eq_false, not_false_eq_true, false_implies, implies_true, Nat.zero_add, Nat.add_zero, Nat.le_refl, Nat.reduceSub, Int.reduceSub, Int.reduceLT, Int.sub_zero, Int.sub_self, List.getElem?_toArray, List.getElem?_cons_zero, List.getElem?_cons_succ, Int.toNat_zero, Int.toNat_one, Int.lt_irrefl, yI_sB, yR_sB, yC_sB, yN_sB, MSh_sB_eq, pR_at_0, stp_iload_n, pR_at_1, stp_ifCond_lt, pR_at_4, pR_at_5, stp_aload_n, pR_at_6, stp_getfield, qfR_15, rp_7_1, ss_C7 hS, pR_at_9, stp_if_icmp_ge, pR_at_12, pR_at_13, qfR_9, rp_7_0, ss_R7_0 hS, ss_C183 hS, ss_N183 hS, pR_at_16, pR_at_17, stp_iaload, pR_at_18, stp_goto, pR_at_21, stp_iconst, pR_at_22, stp_ireturn, ic_m1, nv_R_at, ml_R_at, h1, h2]
        simp [rwI, h2]
      · have hi : rwI w x := ⟨h1, h2⟩
        obtain ⟨j, hj, rfl⟩ := rwI_n hO hi
        have c1 : (nI j).toNatClampNeg = j := nI_clamp (by omega)
        have v1 : vp_in (nI j) 14 := vp_in_nI (by omega) (by omega)
        simp only [reduceCtorEq, fv0, fv1, fv2, fv3, bI_0, bI_1, bft, MSh_sI_eq, fsP_T, inL_0, inL_s, pad_0, pad_n, pad_s, wpn_s, wp1_s, lg_0, lg_s, lset_0, lset_s, kil_0, kil_s, st1_s, st2_s, isL_i, isL_l, isL_r, isL_n, spl_0, spl_s, cll_n, cll_s, catS_0, catS_s, jmp_s, alk_0, alk_s, otl_n, otl_s, List.nil_append, List.cons_append, List.contains_cons, List.contains_nil, Nat.reduceBEq, Bool.or_false, Bool.false_or, Bool.or_self, Bool.false_eq_true, Bool.true_or, Bool.or_true, if_true, if_false, ite_true, ite_false, ↓reduceIte, List.length_cons, List.length_nil, Nat.reduceAdd, Nat.reduceLT, Nat.reduceLeDiff, Nat.reduceEqDiff, Int.reduceAdd, Int.reduceLE, Int.toNat_natCast, Int.reduceToNat, Int.cast_ofNat_Int, true_and, and_true, false_and, and_false, true_implies, forall_const, eq_self, and_self, or_true, true_or, or_self, false_or, or_false, yI_sI, yR_sI, yC_sI, yN_sI, yI_sR, yR_sR, yC_sR, yN_sR, not_true_eq_false, not_false_eq_true, false_implies, implies_true, Nat.zero_add, Nat.add_zero, Nat.le_refl, Nat.reduceSub, Int.reduceSub, Int.reduceLT, Int.sub_zero, Int.sub_self, List.getElem?_toArray, List.getElem?_cons_zero, List.getElem?_cons_succ, Int.toNat_zero, Int.toNat_one, Int.lt_irrefl, yI_sB, yR_sB, yC_sB, yN_sB, MSh_sB_eq, pR_at_0, stp_iload_n, pR_at_1, stp_ifCond_lt, pR_at_4, pR_at_5, stp_aload_n, pR_at_6, stp_getfield, qfR_15, rp_7_1, ss_C7 hS, pR_at_9, stp_if_icmp_ge, pR_at_12, pR_at_13, qfR_9, rp_7_0, ss_R7_0 hS, ss_C183 hS, ss_N183 hS, pR_at_16, pR_at_17, stp_iaload, pR_at_18, stp_goto, pR_at_21, stp_iconst, pR_at_22, stp_ireturn, ic_m1, nv_R_at, ml_R_at, h1, h2, v1, c1]
        simp [hi]
  · cases h
theorem ruR_at {w : Wd} {x : Int32} (h : rwO w) : fsR_at [.inr (.inr (some (7, 0))), .inl x] w = some (some (.inl (if rwI w x then wI w 183 0 x.toNatClampNeg else -1)), w) := fsP_t h
abbrev lvR_addAt : Nat := 1
noncomputable def fsR_addAt : FS := fun as w => match as with
  | [.inr (.inr (some (7, 0))), .inl x, .inl v] => fsP (rwO w ∧ rwI w x) (none, sI w 183 0 x.toNatClampNeg (wI w 183 0 x.toNatClampNeg + v))
  | _ => none
set_option maxRecDepth 100000 in
set_option maxHeartbeats 4000000 in
theorem okR_addAt (l : Launch) (G : Gc) : FsOk l G mR_addAt lvR_addAt fsR_addAt := by
  intro as w r w' h
  simp only [fsR_addAt] at h
  split at h
  · rename_i x v
    obtain ⟨⟨hO, hi⟩, h⟩ := fsP_s h
    cases h
    have hS := hO.1
    obtain ⟨h1, h2⟩ := id hi
    obtain ⟨j, hj, rfl⟩ := rwI_n hO hi
    have c1 : (nI j).toNatClampNeg = j := nI_clamp (by omega)
    have v1 : vp_in (nI j) 14 := vp_in_nI (by omega) (by omega)
    refine Sem_of (by decide) rfl (Nat.le_of_ble_eq_true rfl) ?_
    refine wpn_ok (M := mR_addAt) (C := cenR) (X := (alk [])) (tb := tR_addAt) (st := []) eoR XOk_nil kR_addAt 60 _ _ _ _ _ _ ?_
    simp only [reduceCtorEq, fv0, fv1, fv2, fv3, bI_0, bI_1, bft, MSh_sI_eq, fsP_T, inL_0, inL_s, pad_0, pad_n, pad_s, wpn_s, wp1_s, lg_0, lg_s, lset_0, lset_s, kil_0, kil_s, st1_s, st2_s, isL_i, isL_l, isL_r, isL_n, spl_0, spl_s, cll_n, cll_s, catS_0, catS_s, jmp_s, alk_0, alk_s, otl_n, otl_s, List.nil_append, List.cons_append, List.contains_cons, List.contains_nil, Nat.reduceBEq, Bool.or_false, Bool.false_or, Bool.or_self, Bool.false_eq_true, Bool.true_or, Bool.or_true, if_true, if_false, ite_true, ite_false, ↓reduceIte, List.length_cons, List.length_nil, Nat.reduceAdd, Nat.reduceLT, Nat.reduceLeDiff, Nat.reduceEqDiff, Int.reduceAdd, Int.reduceLE, Int.toNat_natCast, Int.reduceToNat, Int.cast_ofNat_Int, true_and, and_true, false_and, and_false, true_implies, forall_const, eq_self, and_self, or_true, true_or, or_self, false_or, or_false, yI_sI, yR_sI, yC_sI, yN_sI, yI_sR, yR_sR, yC_sR, yN_sR, not_true_eq_false, not_false_eq_true, false_implies, implies_true, Nat.zero_add, Nat.add_zero, Nat.le_refl, Nat.reduceSub, Int.reduceSub, Int.reduceLT, Int.sub_zero, Int.sub_self, List.getElem?_toArray, List.getElem?_cons_zero, List.getElem?_cons_succ, Int.toNat_zero, Int.toNat_one, Int.lt_irrefl, yI_sB, yR_sB, yC_sB, yN_sB, MSh_sB_eq, pR_addAt_0, stp_iload_n, pR_addAt_1, stp_ifCond_lt, pR_addAt_4, pR_addAt_5, stp_aload_n, pR_addAt_6, stp_getfield, qfR_15, rp_7_1, ss_C7 hS, pR_addAt_9, stp_if_icmp_ge, pR_addAt_12, pR_addAt_13, qfR_9, rp_7_0, ss_R7_0 hS, ss_C183 hS, ss_N183 hS, pR_addAt_16, pR_addAt_17, stp_dup2, pR_addAt_18, stp_iaload, pR_addAt_19, pR_addAt_20, stp_iadd, pR_addAt_21, stp_iastore, pR_addAt_22, stp_return_, nv_R_addAt, ml_R_addAt, h1, h2, v1, c1]
  · cases h
theorem ruR_addAt {w : Wd} {x v : Int32} (h : rwO w) (hi : rwI w x) : fsR_addAt [.inr (.inr (some (7, 0))), .inl x, .inl v] w = some (none, sI w 183 0 x.toNatClampNeg (wI w 183 0 x.toNatClampNeg + v)) := fsP_t ⟨h, hi⟩
