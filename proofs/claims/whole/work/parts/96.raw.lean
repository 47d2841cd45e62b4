/-! the minutes as they stand in the class's rows -/
abbrev lvY_minutesBetweenR : Nat := 2
noncomputable def fsY_minutesBetweenR : FS := fun as w => match as with
  | [.inr (.inr (some (1, 0))), .inl x, .inl y] => fsP (SSh w ∧ okc w 3 14 ∧ Cp0 w ∧ inR x 0 (wI w 13 0 3 - 1) = true ∧ inR y 0 (wI w 13 0 3 - 1) = true) (some (.inl (wI w 173 x.toNatClampNeg y.toNatClampNeg)), w)
  | _ => none
set_option maxRecDepth 100000 in
set_option maxHeartbeats 4000000 in
theorem okY_minutesBetweenR (l : Launch) (G : Gc) : FsOk l G mY_minutesBetween lvY_minutesBetweenR fsY_minutesBetweenR := by
  intro as w r w' h
  simp only [fsY_minutesBetweenR] at h
  split at h
  · rename_i x y
    obtain ⟨⟨hS, h3, hc, hx, hy⟩, h⟩ := fsP_s h
    cases h
    have h14 := h3.2
    have r1 := ruY_hasPlace (p := x) hS h3 hc
    have r2 := ruY_hasPlace (p := y) hS h3 hc
    rw [hx] at r1
    rw [hy] at r2
    obtain ⟨a, ha, rfl⟩ := okc_in h3 (by omega) hx
    obtain ⟨b, hb, rfl⟩ := okc_in h3 (by omega) hy
    have ca : (nI a).toNatClampNeg = a := nI_clamp (by omega)
    have cb : (nI b).toNatClampNeg = b := nI_clamp (by omega)
    have va : vp_in (nI a) 14 := vp_in_nI (by omega) (by omega)
    have vb : vp_in (nI b) 14 := vp_in_nI (by omega) (by omega)
    have sm := ss_M hS (show a < 14 by omega)
    have sk := ss_K173 hS (show a < 14 by omega)
    refine Sem_of (by decide) rfl (Nat.le_of_ble_eq_true rfl) ?_
    refine wpn_ok (M := mY_minutesBetween) (C := cenY) (X := (alk [(34, lvY_hasPlace, fsY_hasPlace)])) (tb := tY_minutesBetween) (st := []) eoY (XOk_cons qmY_34 (okY_hasPlace l G) XOk_nil) kY_minutesBetween 60 _ _ _ _ _ _ ?_
    simp only [reduceCtorEq, fv0, fv1, fv2, fv3, bI_0, bI_1, bft, MSh_sI_eq, fsP_T, inL_0, inL_s, pad_0, pad_n, pad_s, wpn_s, wp1_s, lg_0, lg_s, lset_0, lset_s, kil_0, kil_s, st1_s, st2_s, isL_i, isL_l, isL_r, isL_n, spl_0, spl_s, cll_n, cll_s, catS_0, catS_s, jmp_s, alk_0, alk_s, otl_n, otl_s, List.nil_append, List.cons_append, List.contains_cons, List.contains_nil, Nat.reduceBEq, Bool.or_false, Bool.false_or, Bool.or_self, Bool.false_eq_true, Bool.true_or, Bool.or_true, if_true, if_false, ite_true, ite_false, ↓reduceIte, List.length_cons, List.length_nil, Nat.reduceAdd, Nat.reduceLT, Nat.reduceLeDiff, Nat.reduceEqDiff, Int.reduceAdd, Int.reduceLE, Int.toNat_natCast, Int.reduceToNat, Int.cast_ofNat_Int, true_and, and_true, false_and, and_false, true_implies, forall_const, eq_self, and_self, or_true, true_or, or_self, false_or, or_false, yI_sI, yR_sI, yC_sI, yN_sI, yI_sR, yR_sR, yC_sR, yN_sR, not_true_eq_false, not_false_eq_true, false_implies, implies_true, Nat.zero_add, Nat.add_zero, Nat.le_refl, Nat.reduceSub, Int.reduceSub, Int.reduceLT, Int.sub_zero, Int.sub_self, List.getElem?_toArray, List.getElem?_cons_zero, List.getElem?_cons_succ, Int.toNat_zero, Int.toNat_one, Int.lt_irrefl, yI_sB, yR_sB, yC_sB, yN_sB, MSh_sB_eq, pY_minutesBetween_0, stp_aload_n, pY_minutesBetween_1, stp_iload_n, pY_minutesBetween_2, stp_invokevirtual, qmY_34, cy_Y_hasPlace, ss_C1 hS, pY_minutesBetween_5, stp_ifCond_eq, pY_minutesBetween_8, pY_minutesBetween_9, pY_minutesBetween_10, pY_minutesBetween_13, pY_minutesBetween_16, pY_minutesBetween_17, stp_getfield, qfY_27, rp_1_3, ss_R1_3 hS, ss_C302 hS, ss_N302 hS, pY_minutesBetween_20, pY_minutesBetween_21, stp_aaload, pY_minutesBetween_22, pY_minutesBetween_23, stp_iaload, pY_minutesBetween_24, stp_goto, pY_minutesBetween_27, stp_ldc, qkY_38, pY_minutesBetween_29, stp_ireturn, nv_Y_minutesBetween, ml_Y_minutesBetween, r1, r2, ca, cb, va, vb, sm, sk, ss_C173 hS, show a < 14 by omega, lvY_minutesBetweenR, lvY_hasPlace]
  · cases h
theorem ruY_minutesBetweenR {w : Wd} {a b : Nat} (hS : SSh w) (h3 : okc w 3 14) (hc : Cp0 w) (ha : a < cn w 3) (hb : b < cn w 3) : fsY_minutesBetweenR [.inr (.inr (some (1, 0))), .inl (nI a), .inl (nI b)] w = some (some (.inl (wI w 173 a b)), w) := by
  have h14 := h3.2
  have : fsY_minutesBetweenR [.inr (.inr (some (1, 0))), .inl (nI a), .inl (nI b)] w = fsP (SSh w ∧ okc w 3 14 ∧ Cp0 w ∧ inR (nI a) 0 (wI w 13 0 3 - 1) = true ∧ inR (nI b) 0 (wI w 13 0 3 - 1) = true) (some (.inl (wI w 173 (nI a).toNatClampNeg (nI b).toNatClampNeg)), w) := rfl
  rw [this, nI_clamp (by omega), nI_clamp (by omega)]
  exact fsP_t ⟨hS, h3, hc, okc_inR h3 (by omega) ha, okc_inR h3 (by omega) hb⟩
