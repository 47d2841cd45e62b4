/-! places added, scales set off; the planner's lists -/
abbrev lvY_setOff : Nat := 3
noncomputable def fsY_setOff : FS := fun as w => match as with
  | [.inr (.inr (some (1, 0))), .inl p, .inl v] => fsP (SSh w ∧ okc w 3 14 ∧ Cp0 w ∧ inR p 0 (wI w 13 0 3 - 1) = true) (none, sI w 172 0 p.toNatClampNeg v)
  | _ => none
set_option maxRecDepth 100000 in
set_option maxHeartbeats 4000000 in
theorem okY_setOff (l : Launch) (G : Gc) : FsOk l G mY_setOff lvY_setOff fsY_setOff := by
  intro as w r w' h
  simp only [fsY_setOff] at h
  split at h
  · rename_i p v
    obtain ⟨⟨hS, h3, hc, hp⟩, h⟩ := fsP_s h
    cases h
    have h14 := h3.2
    have r1 := ruY_hasPlace (p := p) hS h3 hc
    rw [hp] at r1
    obtain ⟨a, ha, rfl⟩ := okc_in h3 (by omega) hp
    have ca : (nI a).toNatClampNeg = a := nI_clamp (by omega)
    have va : vp_in (nI a) 14 := vp_in_nI (by omega) (by omega)
    have t1 : ¬ (1 : Int32) = 0 := by decide
    refine Sem_of (by decide) rfl (Nat.le_of_ble_eq_true rfl) ?_
    refine wpn_ok (M := mY_setOff) (C := cenY) (X := (alk [(34, lvY_hasPlace, fsY_hasPlace)])) (tb := tY_setOff) (st := []) eoY (XOk_cons qmY_34 (okY_hasPlace l G) XOk_nil) kY_setOff 60 _ _ _ _ _ _ ?_
    simp only [reduceCtorEq, fv0, fv1, fv2, fv3, bI_0, bI_1, bft, MSh_sI_eq, fsP_T, inL_0, inL_s, pad_0, pad_n, pad_s, wpn_s, wp1_s, lg_0, lg_s, lset_0, lset_s, kil_0, kil_s, st1_s, st2_s, isL_i, isL_l, isL_r, isL_n, spl_0, spl_s, cll_n, cll_s, catS_0, catS_s, jmp_s, alk_0, alk_s, otl_n, otl_s, List.nil_append, List.cons_append, List.contains_cons, List.contains_nil, Nat.reduceBEq, Bool.or_false, Bool.false_or, Bool.or_self, Bool.false_eq_true, Bool.true_or, Bool.or_true, if_true, if_false, ite_true, ite_false, ↓reduceIte, List.length_cons, List.length_nil, Nat.reduceAdd, Nat.reduceLT, Nat.reduceLeDiff, Nat.reduceEqDiff, Int.reduceAdd, Int.reduceLE, Int.toNat_natCast, Int.reduceToNat, Int.cast_ofNat_Int, true_and, and_true, false_and, and_false, true_implies, forall_const, eq_self, and_self, or_true, true_or, or_self, false_or, or_false, yI_sI, yR_sI, yC_sI, yN_sI, yI_sR, yR_sR, yC_sR, yN_sR, not_true_eq_false, not_false_eq_true, false_implies, implies_true, Nat.zero_add, Nat.add_zero, Nat.le_refl, Nat.reduceSub, Int.reduceSub, Int.reduceLT, Int.sub_zero, Int.sub_self, List.getElem?_toArray, List.getElem?_cons_zero, List.getElem?_cons_succ, Int.toNat_zero, Int.toNat_one, Int.lt_irrefl, yI_sB, yR_sB, yC_sB, yN_sB, MSh_sB_eq, pY_setOff_0, stp_aload_n, pY_setOff_1, stp_iload_n, pY_setOff_2, stp_invokevirtual, qmY_34, cy_Y_hasPlace, ss_C1 hS, pY_setOff_5, stp_ifCond_eq, pY_setOff_8, pY_setOff_9, stp_getfield, qfY_22, rp_1_2, ss_R1_2 hS, ss_C172 hS, ss_N172 hS, pY_setOff_12, pY_setOff_13, pY_setOff_14, stp_iastore, pY_setOff_15, stp_return_, nv_Y_setOff, ml_Y_setOff, r1, t1, ca, va, lvY_setOff, lvY_hasPlace]
  · cases h
theorem ruY_setOff {w : Wd} {p v : Int32} (hS : SSh w) (h3 : okc w 3 14) (hc : Cp0 w) (hp : inR p 0 (wI w 13 0 3 - 1) = true) : fsY_setOff [.inr (.inr (some (1, 0))), .inl p, .inl v] w = some (none, sI w 172 0 p.toNatClampNeg v) := fsP_t ⟨hS, h3, hc, hp⟩
abbrev lvP_clear : Nat := 1
noncomputable def fsP_clear : FS := fun as w => match as with
  | [.inr (.inr (some (6, 0)))] => fsP (SSh w) (none, sI (sI w 6 0 8 0) 6 0 9 0)
  | _ => none
set_option maxRecDepth 100000 in
set_option maxHeartbeats 4000000 in
theorem okP_clear (l : Launch) (G : Gc) : FsOk l G mP_clear lvP_clear fsP_clear := by
  intro as w r w' h
  simp only [fsP_clear] at h
  split at h
  · obtain ⟨hS, h⟩ := fsP_s h
    cases h
    refine Sem_of (by decide) rfl (Nat.le_of_ble_eq_true rfl) ?_
    refine wpn_ok (M := mP_clear) (C := cenP) (X := (alk [])) (tb := tP_clear) (st := []) eoP XOk_nil kP_clear 60 _ _ _ _ _ _ ?_
    simp only [reduceCtorEq, fv0, fv1, fv2, fv3, bI_0, bI_1, bft, MSh_sI_eq, fsP_T, inL_0, inL_s, pad_0, pad_n, pad_s, wpn_s, wp1_s, lg_0, lg_s, lset_0, lset_s, kil_0, kil_s, st1_s, st2_s, isL_i, isL_l, isL_r, isL_n, spl_0, spl_s, cll_n, cll_s, catS_0, catS_s, jmp_s, alk_0, alk_s, otl_n, otl_s, List.nil_append, List.cons_append, List.contains_cons, List.contains_nil, Nat.reduceBEq, Bool.or_false, Bool.false_or, Bool.or_self, Bool.false_eq_true, Bool.true_or, Bool.or_true, if_true, if_false, ite_true, ite_false, ↓reduceIte, List.length_cons, List.length_nil, Nat.reduceAdd, Nat.reduceLT, Nat.reduceLeDiff, Nat.reduceEqDiff, Int.reduceAdd, Int.reduceLE, Int.toNat_natCast, Int.reduceToNat, Int.cast_ofNat_Int, true_and, and_true, false_and, and_false, true_implies, forall_const, eq_self, and_self, or_true, true_or, or_self, false_or, or_false, yI_sI, yR_sI, yC_sI, yN_sI, yI_sR, yR_sR, yC_sR, yN_sR, not_true_eq_false, not_false_eq_true, false_implies, implies_true, Nat.zero_add, Nat.add_zero, Nat.le_refl, Nat.reduceSub, Int.reduceSub, Int.reduceLT, Int.sub_zero, Int.sub_self, List.getElem?_toArray, List.getElem?_cons_zero, List.getElem?_cons_succ, Int.toNat_zero, Int.toNat_one, Int.lt_irrefl, yI_sB, yR_sB, yC_sB, yN_sB, MSh_sB_eq, pP_clear_0, stp_aload_n, pP_clear_1, stp_iconst, pP_clear_2, stp_putfield, qfP_36, rp_6_8, fi_6_8, nr_6_8, ss_C6 hS, pP_clear_5, pP_clear_6, pP_clear_7, qfP_40, rp_6_9, fi_6_9, nr_6_9, pP_clear_10, stp_return_, ic_0, nv_P_clear, ml_P_clear]
  · cases h
abbrev lvP_addPen : Nat := 1
def paW (w : Wd) (s : Nat) (p : Int32) : Wd := sI (sI w 178 0 s p) 6 0 9 (nI (s + 1))
noncomputable def fsP_addPen : FS := fun as w => match as with
  | [.inr (.inr (some (6, 0))), .inl p] => fsP (SSh w ∧ ∃ s, s < 4 ∧ wI w 6 0 9 = nI s) (none, paW w (wI w 6 0 9).toNatClampNeg p)
  | _ => none
set_option maxRecDepth 100000 in
set_option maxHeartbeats 4000000 in
theorem okP_addPen (l : Launch) (G : Gc) : FsOk l G mP_addPen lvP_addPen fsP_addPen := by
  intro as w r w' h
  simp only [fsP_addPen] at h
  split at h
  · rename_i p
    obtain ⟨⟨hS, s, hs, e⟩, h⟩ := fsP_s h
    cases h
    have c1 : (nI s).toNatClampNeg = s := nI_clamp (by omega)
    have v1 : vp_in (nI s) 4 := vp_in_nI (by omega) (by omega)
    have q1 : ¬ (4 : Int32) ≤ nI s := nI_ge (b := 4) hs (by omega)
    rw [e, c1]
    refine Sem_of (by decide) rfl (Nat.le_of_ble_eq_true rfl) ?_
    refine wpn_ok (M := mP_addPen) (C := cenP) (X := (alk [])) (tb := tP_addPen) (st := []) eoP XOk_nil kP_addPen 60 _ _ _ _ _ _ ?_
    simp only [reduceCtorEq, fv0, fv1, fv2, fv3, bI_0, bI_1, bft, MSh_sI_eq, fsP_T, inL_0, inL_s, pad_0, pad_n, pad_s, wpn_s, wp1_s, lg_0, lg_s, lset_0, lset_s, kil_0, kil_s, st1_s, st2_s, isL_i, isL_l, isL_r, isL_n, spl_0, spl_s, cll_n, cll_s, catS_0, catS_s, jmp_s, alk_0, alk_s, otl_n, otl_s, List.nil_append, List.cons_append, List.contains_cons, List.contains_nil, Nat.reduceBEq, Bool.or_false, Bool.false_or, Bool.or_self, Bool.false_eq_true, Bool.true_or, Bool.or_true, if_true, if_false, ite_true, ite_false, ↓reduceIte, List.length_cons, List.length_nil, Nat.reduceAdd, Nat.reduceLT, Nat.reduceLeDiff, Nat.reduceEqDiff, Int.reduceAdd, Int.reduceLE, Int.toNat_natCast, Int.reduceToNat, Int.cast_ofNat_Int, true_and, and_true, false_and, and_false, true_implies, forall_const, eq_self, and_self, or_true, true_or, or_self, false_or, or_false, yI_sI, yR_sI, yC_sI, yN_sI, yI_sR, yR_sR, yC_sR, yN_sR, not_true_eq_false, not_false_eq_true, false_implies, implies_true, Nat.zero_add, Nat.add_zero, Nat.le_refl, Nat.reduceSub, Int.reduceSub, Int.reduceLT, Int.sub_zero, Int.sub_self, List.getElem?_toArray, List.getElem?_cons_zero, List.getElem?_cons_succ, Int.toNat_zero, Int.toNat_one, Int.lt_irrefl, yI_sB, yR_sB, yC_sB, yN_sB, MSh_sB_eq, pP_addPen_0, stp_aload_n, pP_addPen_1, stp_getfield, qfP_40, rp_6_9, ss_C6 hS, pP_addPen_4, stp_iconst, pP_addPen_5, stp_if_icmp_ge, pP_addPen_8, pP_addPen_9, qfP_15, rp_6_2, ss_R6_2 hS, ss_C178 hS, ss_N178 hS, pP_addPen_12, pP_addPen_13, pP_addPen_16, stp_iload_n, pP_addPen_17, stp_iastore, pP_addPen_18, pP_addPen_19, stp_dup, pP_addPen_20, pP_addPen_23, pP_addPen_24, stp_iadd, pP_addPen_25, stp_putfield, fi_6_9, nr_6_9, pP_addPen_28, stp_return_, ic_4, ic_1, nv_P_addPen, ml_P_addPen, e, c1, v1, q1, nI_1, paW]
  · cases h
