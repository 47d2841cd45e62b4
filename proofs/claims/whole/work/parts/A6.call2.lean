/-! calls -/
section
variable {l : Launch} {G : Gc} {c : Nat} {w : Wd}
set_option maxRecDepth 100000 in
set_option maxHeartbeats 4000000 in
theorem ca_whose (h : Inv c w) (k : Int32) : Cok l G c w mS_whose mM_whose [.inl k] := by
  have hS := iv_S h
  have hM := iv_M h
  have r1 := ruK_ownerOf (m := k) (iv_l h)
  refine ⟨8, by decide, Sem_of (by decide) rfl (Nat.le_of_ble_eq_true rfl) ?_⟩
  refine wpn_ok (M := mS_whose) (C := cenS) (X := (alk [(126, lvS_isMark, fsS_isMark), (79, lvS_refuse, fsS_refuse), (331, lvK_ownerOf, fsK_ownerOf)])) (tb := tS_whose) (st := []) eoS (XOk_cons qmS_126 (okS_isMark l G) (XOk_cons qmS_79 (okS_refuse l G) (XOk_cons qmS_331 (okK_ownerOf l G) XOk_nil))) kS_whose 60 _ _ _ _ _ _ ?_
  cases hk : inR k 0 9999 with
  | false =>
    simp only [reduceCtorEq, fv0, fv1, fv2, fv3, bI_0, bI_1, bft, MSh_sI_eq, fsP_T, inL_0, inL_s, pad_0, pad_n, pad_s, wpn_s, wp1_s, lg_0, lg_s, lset_0, lset_s, kil_0, kil_s, st1_s, st2_s, isL_i, isL_l, isL_r, isL_n, spl_0, spl_s, cll_n, cll_s, catS_0, catS_s, jmp_s, alk_0, alk_s, otl_n, otl_s, List.nil_append, List.cons_append, List.contains_cons, List.contains_nil, Nat.reduceBEq, Bool.or_false, Bool.false_or, Bool.or_self, Bool.false_eq_true, Bool.true_or, Bool.or_true, if_true, if_false, ite_true, ite_false, ↓reduceIte, List.length_cons, List.length_nil, Nat.reduceAdd, Nat.reduceLT, Nat.reduceLeDiff, Nat.reduceEqDiff, Int.reduceAdd, Int.reduceLE, Int.toNat_natCast, Int.reduceToNat, Int.cast_ofNat_Int, true_and, and_true, false_and, and_false, true_implies, forall_const, eq_self, and_self, or_true, true_or, or_self, false_or, or_false, yI_sI, yR_sI, yC_sI, yN_sI, yI_sR, yR_sR, yC_sR, yN_sR, not_true_eq_false, not_false_eq_true, false_implies, implies_true, Nat.zero_add, Nat.add_zero, Nat.le_refl, Nat.reduceSub, Int.reduceSub, Int.reduceLT, Int.sub_zero, Int.sub_self, List.getElem?_toArray, List.getElem?_cons_zero, List.getElem?_cons_succ, Int.toNat_zero, Int.toNat_one, Int.lt_irrefl, yI_sB, yR_sB, yC_sB, yN_sB, MSh_sB_eq, pS_whose_0, stp_iload_n, pS_whose_1, stp_invokestatic, qmS_126, cy_S_isMark, pS_whose_4, stp_ifCond_eq, pS_whose_7, stp_aload_n, pS_whose_8, stp_getfield, qfS_40, rp_0_4, ss_C0 hS, ss_R0_4 hS, ss_C5 hS, pS_whose_11, pS_whose_12, stp_invokevirtual, qmS_331, cy_K_ownerOf, pS_whose_15, stp_goto, pS_whose_18, pS_whose_19, stp_bipush, pS_whose_21, qmS_79, cy_S_refuse, pS_whose_24, stp_ireturn, bp_m7, nv_S_whose, ml_S_whose, fsS_isMark, hk, rfS_7 hS, lvS_isMark, lvS_refuse, lvK_ownerOf]
    have e : ∀ w, fsM_whose [.inr (.inr (some (13, 0))), .inl k] w = fsP (MOk w) (some (.inl (if inR k 0 9999 = false then -7 else whI w k)), if inR k 0 9999 = false then rfz w 7 else w) := fun _ => rfl
    have e2 : fsM_whose [.inr (.inr (some (13, 0))), .inl k] (rfs w 7) = some (some (.inl (-7)), rfz (rfs w 7) 7) := by
      rw [e, fsP_t (rfs_M hM)]
      simp only [hk, if_true]
    have e3 : Inv (c + 1) (rfz (rfs w 7) 7) := Inv_rf (b := 7) h
    exact Pst_fs (okM_whose l G) (by decide) e2 e3
  | true =>
    simp only [reduceCtorEq, fv0, fv1, fv2, fv3, bI_0, bI_1, bft, MSh_sI_eq, fsP_T, inL_0, inL_s, pad_0, pad_n, pad_s, wpn_s, wp1_s, lg_0, lg_s, lset_0, lset_s, kil_0, kil_s, st1_s, st2_s, isL_i, isL_l, isL_r, isL_n, spl_0, spl_s, cll_n, cll_s, catS_0, catS_s, jmp_s, alk_0, alk_s, otl_n, otl_s, List.nil_append, List.cons_append, List.contains_cons, List.contains_nil, Nat.reduceBEq, Bool.or_false, Bool.false_or, Bool.or_self, Bool.false_eq_true, Bool.true_or, Bool.or_true, if_true, if_false, ite_true, ite_false, ↓reduceIte, List.length_cons, List.length_nil, Nat.reduceAdd, Nat.reduceLT, Nat.reduceLeDiff, Nat.reduceEqDiff, Int.reduceAdd, Int.reduceLE, Int.toNat_natCast, Int.reduceToNat, Int.cast_ofNat_Int, true_and, and_true, false_and, and_false, true_implies, forall_const, eq_self, and_self, or_true, true_or, or_self, false_or, or_false, yI_sI, yR_sI, yC_sI, yN_sI, yI_sR, yR_sR, yC_sR, yN_sR, not_true_eq_false, not_false_eq_true, false_implies, implies_true, Nat.zero_add, Nat.add_zero, Nat.le_refl, Nat.reduceSub, Int.reduceSub, Int.reduceLT, Int.sub_zero, Int.sub_self, List.getElem?_toArray, List.getElem?_cons_zero, List.getElem?_cons_succ, Int.toNat_zero, Int.toNat_one, Int.lt_irrefl, yI_sB, yR_sB, yC_sB, yN_sB, MSh_sB_eq, pS_whose_0, stp_iload_n, pS_whose_1, stp_invokestatic, qmS_126, cy_S_isMark, pS_whose_4, stp_ifCond_eq, pS_whose_7, stp_aload_n, pS_whose_8, stp_getfield, qfS_40, rp_0_4, ss_C0 hS, ss_R0_4 hS, ss_C5 hS, pS_whose_11, pS_whose_12, stp_invokevirtual, qmS_331, cy_K_ownerOf, pS_whose_15, stp_goto, pS_whose_18, pS_whose_19, stp_bipush, pS_whose_21, qmS_79, cy_S_refuse, pS_whose_24, stp_ireturn, bp_m7, nv_S_whose, ml_S_whose, fsS_isMark, hk, r1, lvS_isMark, lvS_refuse, lvK_ownerOf]
    refine Pst_fs (okM_whose l G) (by decide) ?_ (Inv_up h)
    have e : ∀ w, fsM_whose [.inr (.inr (some (13, 0))), .inl k] w = fsP (MOk w) (some (.inl (if inR k 0 9999 = false then -7 else whI w k)), if inR k 0 9999 = false then rfz w 7 else w) := fun _ => rfl
    rw [e, fsP_t hM, if_neg (by rw [hk]; decide), if_neg (by rw [hk]; decide)]
end
