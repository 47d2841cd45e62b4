/-! calls: near, status, wipe, tear, count -/
theorem MOk_58 {w w' : Wd} (hS : MSh w') (h58' : okc w' 58 80) (hI : ∀ t k i, (t = 13 ∧ (i = 3 ∨ i = 6 ∨ i = 17 ∨ i = 48 ∨ i = 63 ∨ i = 67 ∨ i = 47)) ∨ t = 123 ∨ t = 153 → wI w' t k i = wI w t k i) (h : MOk w) : MOk w' := by
  obtain ⟨-, h3, h6, h17, hR, h63, -, h123, h67, h47⟩ := h
  refine ⟨hS, okc_cg (hI _ _ _ (by omega)) h3, okc_cg (hI _ _ _ (by omega)) h6, okc_cg (hI _ _ _ (by omega)) h17, ⟨okc_cg (hI _ _ _ (by omega)) hR.1, fun r hr => ?_⟩, okc_cg (hI _ _ _ (by omega)) h63, h58', fun j hj => ?_, okc_cg (hI _ _ _ (by omega)) h67, ?_⟩
  · rw [cn_cg (hI _ _ _ (by omega))] at hr
    unfold cnT
    rw [hI _ _ _ (by omega)]
    exact hR.2 r hr
  · rw [cn_cg (hI _ _ _ (by omega))] at hj
    rw [cn_cg (hI _ _ _ (by omega)), hI _ _ _ (by omega)]
    exact h123 j hj
  · rcases h47 with q | q
    · exact Or.inl (by rw [hI _ _ _ (by omega)]; exact q)
    · exact Or.inr (okc_cg (hI _ _ _ (by omega)) q)
/-- the row changes -/
theorem Inv_W {c : Nat} {w w' : Wd} (h2 : w'.2 = w.2) (h67 : okc w' 67 14) (hW : IvW w') (g : ∀ t k i, ¬ (t = 7 ∨ t = 183 ∨ t = 168 ∨ (t = 13 ∧ (i = 66 ∨ i = 67))) → wI w' t k i = wI w t k i) (h : Inv c w) : Inv (c + 1) w' := by
  have hM := MSh_of (iv_M h).1 h2
  have e3 := cn_cg (w := w) (w' := w') (g 13 0 3 (by omega))
  have e17 := cn_cg (w := w) (w' := w') (g 13 0 17 (by omega))
  have e38 := cn_cg (w := w) (w' := w') (g 13 0 38 (by omega))
  have hMO : MOk w' := by
    obtain ⟨-, h3, h6, h17, hR, h63, h58, h123, -, h47⟩ := iv_M h
    refine ⟨hM, okc_cg (g _ _ _ (by omega)) h3, okc_cg (g _ _ _ (by omega)) h6, okc_cg (g _ _ _ (by omega)) h17, ⟨okc_cg (g _ _ _ (by omega)) hR.1, fun r hr => ?_⟩, okc_cg (g _ _ _ (by omega)) h63, okc_cg (g _ _ _ (by omega)) h58, fun j hj => ?_, h67, ?_⟩
    · rw [cn_cg (g _ _ _ (by omega))] at hr
      unfold cnT
      rw [g _ _ _ (by omega)]
      exact hR.2 r hr
    · rw [e17] at hj
      rw [e3, g _ _ _ (by omega)]
      exact h123 j hj
    · rcases h47 with q | q
      · exact Or.inl (by rw [g _ _ _ (by omega)]; exact q)
      · exact Or.inr (okc_cg (g _ _ _ (by omega)) q)
  exact ⟨SSh_of (iv_S h) h2, hMO, Cp0_cg' (fun t k i ht => g t k i (by omega)) (iv_0 h), IvN_cg h2 (g _ _ _ (by omega)) (g _ _ _ (by omega)) (iv_N h), IvQ_cg h2 (iv_M h).2.2.2.2.1 (fun t k i ht => g t k i (by omega)) (iv_Q h), fun j' hj => LtI_cg (Exw_2 h2) (Nat.le_succ c) (by omega) (by omega) (fun t k i ht => g t k i (by omega)) (iv_L h (by omega)), IvY_cg (Exw_2 h2) hM (fun t k i ht => g t k i (by omega)) (iv_Y h), IvE_cg (Exw_2 h2) (Nat.le_succ c) (fun t k i ht => g t k i (by omega)) (iv_E h), IvP_cg (fun t k i ht => g t k i (by omega)) (iv_P h), hW, IvT_cg (Nat.le_succ c) (g _ _ _ (by omega)) (g _ _ _ (by omega)) (iv_T h), IvK_cg (g _ _ _ (by omega)) (fun i => g _ _ _ (by omega)) (iv_K h)⟩
section
variable {l : Launch} {G : Gc} {c : Nat} {w : Wd}
set_option maxRecDepth 100000 in
set_option maxHeartbeats 4000000 in
theorem ca_near (h : Inv c w) (k : Int32) : Cok l G c w mS_near mM_near [.inl k] := by
  have hS := iv_S h
  have hM := iv_M h
  have r1 := ruK_countNear (m := k) (iv_l h)
  have e : ∀ w, fsM_near [.inr (.inr (some (13, 0))), .inl k] w = fsP (MOk w) (some (.inl (if inR k 0 9999 = false then -7 else cntN (nrF w k) (cn w 63))), if inR k 0 9999 = false then rfz w 7 else w) := fun _ => rfl
  refine ⟨8, by decide, Sem_of (by decide) rfl (Nat.le_of_ble_eq_true rfl) ?_⟩
  refine wpn_ok (M := mS_near) (C := cenS) (X := (alk [(126, lvS_isMark, fsS_isMark), (79, lvS_refuse, fsS_refuse), (337, lvK_countNear, fsK_countNear)])) (tb := tS_near) (st := []) eoS (XOk_cons qmS_126 (okS_isMark l G) (XOk_cons qmS_79 (okS_refuse l G) (XOk_cons qmS_337 (okK_countNear l G) XOk_nil))) kS_near 60 _ _ _ _ _ _ ?_
  cases hk : inR k 0 9999 with
  | false =>
    simp only [reduceCtorEq, fv0, fv1, fv2, fv3, bI_0, bI_1, bft, MSh_sI_eq, fsP_T, inL_0, inL_s, pad_0, pad_n, pad_s, wpn_s, wp1_s, lg_0, lg_s, lset_0, lset_s, kil_0, kil_s, st1_s, st2_s, isL_i, isL_l, isL_r, isL_n, spl_0, spl_s, cll_n, cll_s, catS_0, catS_s, jmp_s, alk_0, alk_s, otl_n, otl_s, List.nil_append, List.cons_append, List.contains_cons, List.contains_nil, Nat.reduceBEq, Bool.or_false, Bool.false_or, Bool.or_self, Bool.false_eq_true, Bool.true_or, Bool.or_true, if_true, if_false, ite_true, ite_false, ↓reduceIte, List.length_cons, List.length_nil, Nat.reduceAdd, Nat.reduceLT, Nat.reduceLeDiff, Nat.reduceEqDiff, Int.reduceAdd, Int.reduceLE, Int.toNat_natCast, Int.reduceToNat, Int.cast_ofNat_Int, true_and, and_true, false_and, and_false, true_implies, forall_const, eq_self, and_self, or_true, true_or, or_self, false_or, or_false, yI_sI, yR_sI, yC_sI, yN_sI, yI_sR, yR_sR, yC_sR, yN_sR, not_true_eq_false, not_false_eq_true, false_implies, implies_true, Nat.zero_add, Nat.add_zero, Nat.le_refl, Nat.reduceSub, Int.reduceSub, Int.reduceLT, Int.sub_zero, Int.sub_self, List.getElem?_toArray, List.getElem?_cons_zero, List.getElem?_cons_succ, Int.toNat_zero, Int.toNat_one, Int.lt_irrefl, yI_sB, yR_sB, yC_sB, yN_sB, MSh_sB_eq, pS_near_0, stp_iload_n, pS_near_1, stp_invokestatic, qmS_126, cy_S_isMark, pS_near_4, stp_ifCond_eq, pS_near_7, stp_aload_n, pS_near_8, stp_getfield, qfS_40, rp_0_4, ss_C0 hS, ss_R0_4 hS, ss_C5 hS, pS_near_11, pS_near_12, stp_invokevirtual, qmS_337, cy_K_countNear, pS_near_15, stp_goto, pS_near_18, pS_near_19, stp_bipush, pS_near_21, qmS_79, cy_S_refuse, pS_near_24, stp_ireturn, bp_m7, nv_S_near, ml_S_near, fsS_isMark, hk, rfS_7 hS, lvS_isMark, lvS_refuse, lvK_countNear]
    have e2 : fsM_near [.inr (.inr (some (13, 0))), .inl k] (rfs w 7) = some (some (.inl (-7)), rfz (rfs w 7) 7) := by
      rw [e, fsP_t (rfs_M hM)]
      simp only [hk, if_true]
    have e3 : Inv (c + 1) (rfz (rfs w 7) 7) := Inv_rf (b := 7) h
    exact Pst_fs (okM_near l G) (by decide) e2 e3
  | true =>
    simp only [reduceCtorEq, fv0, fv1, fv2, fv3, bI_0, bI_1, bft, MSh_sI_eq, fsP_T, inL_0, inL_s, pad_0, pad_n, pad_s, wpn_s, wp1_s, lg_0, lg_s, lset_0, lset_s, kil_0, kil_s, st1_s, st2_s, isL_i, isL_l, isL_r, isL_n, spl_0, spl_s, cll_n, cll_s, catS_0, catS_s, jmp_s, alk_0, alk_s, otl_n, otl_s, List.nil_append, List.cons_append, List.contains_cons, List.contains_nil, Nat.reduceBEq, Bool.or_false, Bool.false_or, Bool.or_self, Bool.false_eq_true, Bool.true_or, Bool.or_true, if_true, if_false, ite_true, ite_false, ↓reduceIte, List.length_cons, List.length_nil, Nat.reduceAdd, Nat.reduceLT, Nat.reduceLeDiff, Nat.reduceEqDiff, Int.reduceAdd, Int.reduceLE, Int.toNat_natCast, Int.reduceToNat, Int.cast_ofNat_Int, true_and, and_true, false_and, and_false, true_implies, forall_const, eq_self, and_self, or_true, true_or, or_self, false_or, or_false, yI_sI, yR_sI, yC_sI, yN_sI, yI_sR, yR_sR, yC_sR, yN_sR, not_true_eq_false, not_false_eq_true, false_implies, implies_true, Nat.zero_add, Nat.add_zero, Nat.le_refl, Nat.reduceSub, Int.reduceSub, Int.reduceLT, Int.sub_zero, Int.sub_self, List.getElem?_toArray, List.getElem?_cons_zero, List.getElem?_cons_succ, Int.toNat_zero, Int.toNat_one, Int.lt_irrefl, yI_sB, yR_sB, yC_sB, yN_sB, MSh_sB_eq, pS_near_0, stp_iload_n, pS_near_1, stp_invokestatic, qmS_126, cy_S_isMark, pS_near_4, stp_ifCond_eq, pS_near_7, stp_aload_n, pS_near_8, stp_getfield, qfS_40, rp_0_4, ss_C0 hS, ss_R0_4 hS, ss_C5 hS, pS_near_11, pS_near_12, stp_invokevirtual, qmS_337, cy_K_countNear, pS_near_15, stp_goto, pS_near_18, pS_near_19, stp_bipush, pS_near_21, qmS_79, cy_S_refuse, pS_near_24, stp_ireturn, bp_m7, nv_S_near, ml_S_near, fsS_isMark, hk, r1, lvS_isMark, lvS_refuse, lvK_countNear]
    have e2 : fsM_near [.inr (.inr (some (13, 0))), .inl k] w = some (some (.inl (cntN (nrF w k) (cn w 63))), w) := by
      rw [e, fsP_t hM, if_neg (by rw [hk]; decide), if_neg (by rw [hk]; decide)]
    exact Pst_fs (okM_near l G) (by decide) e2 (Inv_up h)
set_option maxRecDepth 100000 in
set_option maxHeartbeats 4000000 in
theorem ca_status (h : Inv c w) (k : Int32) : Cok l G c w mS_status mM_status [.inl k] := by
  have hS := iv_S h
  have hM := iv_M h
  have e : ∀ w, fsM_status [.inr (.inr (some (13, 0))), .inl k] w = fsP (MSh w) (some (.inl (if inR k (-8) (-2) = true then wI w 101 0 (-k).toNatClampNeg else -7)), if inR k (-8) (-2) = true then w else rfz w 7) := fun _ => rfl
  refine ⟨8, by decide, Sem_of (by decide) rfl (Nat.le_of_ble_eq_true rfl) ?_⟩
  refine wpn_ok (M := mS_status) (C := cenS) (X := (alk [(75, lvS_within, fsS_within), (79, lvS_refuse, fsS_refuse)])) (tb := tS_status) (st := []) eoS (XOk_cons qmS_75 (okS_within l G) (XOk_cons qmS_79 (okS_refuse l G) XOk_nil)) kS_status 60 _ _ _ _ _ _ ?_
  cases hk : inR k (-8) (-2) with
  | false =>
    simp only [reduceCtorEq, fv0, fv1, fv2, fv3, bI_0, bI_1, bft, MSh_sI_eq, fsP_T, inL_0, inL_s, pad_0, pad_n, pad_s, wpn_s, wp1_s, lg_0, lg_s, lset_0, lset_s, kil_0, kil_s, st1_s, st2_s, isL_i, isL_l, isL_r, isL_n, spl_0, spl_s, cll_n, cll_s, catS_0, catS_s, jmp_s, alk_0, alk_s, otl_n, otl_s, List.nil_append, List.cons_append, List.contains_cons, List.contains_nil, Nat.reduceBEq, Bool.or_false, Bool.false_or, Bool.or_self, Bool.false_eq_true, Bool.true_or, Bool.or_true, if_true, if_false, ite_true, ite_false, ↓reduceIte, List.length_cons, List.length_nil, Nat.reduceAdd, Nat.reduceLT, Nat.reduceLeDiff, Nat.reduceEqDiff, Int.reduceAdd, Int.reduceLE, Int.toNat_natCast, Int.reduceToNat, Int.cast_ofNat_Int, true_and, and_true, false_and, and_false, true_implies, forall_const, eq_self, and_self, or_true, true_or, or_self, false_or, or_false, yI_sI, yR_sI, yC_sI, yN_sI, yI_sR, yR_sR, yC_sR, yN_sR, not_true_eq_false, not_false_eq_true, false_implies, implies_true, Nat.zero_add, Nat.add_zero, Nat.le_refl, Nat.reduceSub, Int.reduceSub, Int.reduceLT, Int.sub_zero, Int.sub_self, List.getElem?_toArray, List.getElem?_cons_zero, List.getElem?_cons_succ, Int.toNat_zero, Int.toNat_one, Int.lt_irrefl, yI_sB, yR_sB, yC_sB, yN_sB, MSh_sB_eq, pS_status_0, stp_iload_n, pS_status_1, stp_bipush, pS_status_3, pS_status_5, stp_invokestatic, qmS_75, cy_S_within, pS_status_8, stp_ifCond_eq, pS_status_11, stp_aload_n, pS_status_12, stp_getfield, qfS_67, rp_0_8, ss_C0 hS, ss_R0_8 hS, ss_C170 hS, ss_N170 hS, pS_status_15, pS_status_16, stp_ineg, pS_status_17, stp_iaload, pS_status_18, stp_goto, pS_status_21, pS_status_22, pS_status_24, stp_invokevirtual, qmS_79, cy_S_refuse, pS_status_27, stp_ireturn, bp_m8, bp_m2, bp_m7, nv_S_status, ml_S_status, fsS_within, hk, rfS_7 hS, lvS_within, lvS_refuse]
    have e2 : fsM_status [.inr (.inr (some (13, 0))), .inl k] (rfs w 7) = some (some (.inl (-7)), rfz (rfs w 7) 7) := by
      rw [e, fsP_t (rfs_M hM).1, if_neg (by rw [hk]; decide), if_neg (by rw [hk]; decide)]
    have e3 : Inv (c + 1) (rfz (rfs w 7) 7) := Inv_rf (b := 7) h
    exact Pst_fs (okM_status l G) (by decide) e2 e3
  | true =>
    have hn := neg_in hk
    simp only [reduceCtorEq, fv0, fv1, fv2, fv3, bI_0, bI_1, bft, MSh_sI_eq, fsP_T, inL_0, inL_s, pad_0, pad_n, pad_s, wpn_s, wp1_s, lg_0, lg_s, lset_0, lset_s, kil_0, kil_s, st1_s, st2_s, isL_i, isL_l, isL_r, isL_n, spl_0, spl_s, cll_n, cll_s, catS_0, catS_s, jmp_s, alk_0, alk_s, otl_n, otl_s, List.nil_append, List.cons_append, List.contains_cons, List.contains_nil, Nat.reduceBEq, Bool.or_false, Bool.false_or, Bool.or_self, Bool.false_eq_true, Bool.true_or, Bool.or_true, if_true, if_false, ite_true, ite_false, ↓reduceIte, List.length_cons, List.length_nil, Nat.reduceAdd, Nat.reduceLT, Nat.reduceLeDiff, Nat.reduceEqDiff, Int.reduceAdd, Int.reduceLE, Int.toNat_natCast, Int.reduceToNat, Int.cast_ofNat_Int, true_and, and_true, false_and, and_false, true_implies, forall_const, eq_self, and_self, or_true, true_or, or_self, false_or, or_false, yI_sI, yR_sI, yC_sI, yN_sI, yI_sR, yR_sR, yC_sR, yN_sR, not_true_eq_false, not_false_eq_true, false_implies, implies_true, Nat.zero_add, Nat.add_zero, Nat.le_refl, Nat.reduceSub, Int.reduceSub, Int.reduceLT, Int.sub_zero, Int.sub_self, List.getElem?_toArray, List.getElem?_cons_zero, List.getElem?_cons_succ, Int.toNat_zero, Int.toNat_one, Int.lt_irrefl, yI_sB, yR_sB, yC_sB, yN_sB, MSh_sB_eq, pS_status_0, stp_iload_n, pS_status_1, stp_bipush, pS_status_3, pS_status_5, stp_invokestatic, qmS_75, cy_S_within, pS_status_8, stp_ifCond_eq, pS_status_11, stp_aload_n, pS_status_12, stp_getfield, qfS_67, rp_0_8, ss_C0 hS, ss_R0_8 hS, ss_C170 hS, ss_N170 hS, pS_status_15, pS_status_16, stp_ineg, pS_status_17, stp_iaload, pS_status_18, stp_goto, pS_status_21, pS_status_22, pS_status_24, stp_invokevirtual, qmS_79, cy_S_refuse, pS_status_27, stp_ireturn, bp_m8, bp_m2, bp_m7, nv_S_status, ml_S_status, fsS_within, hk, hn, lvS_within, lvS_refuse, show ¬ (1 : Int32) = 0 by decide]
    have e2 : fsM_status [.inr (.inr (some (13, 0))), .inl k] w = some (some (.inl (wI w 170 0 (-k).toNatClampNeg)), w) := by
      rw [e, fsP_t hM.1, if_pos hk, if_pos hk, (iv_0 h).2.2.2.2.1 _ (show (-k).toNatClampNeg < 9 by have h1 := hn; unfold vp_in at h1; omega)]
    exact Pst_fs (okM_status l G) (by decide) e2 (Inv_up h)
theorem wi_inv (h : Inv c w) : Inv (c + 1) (sI (sI w 3 0 1 0) 13 0 58 0) := by
  have g : ∀ t k i, ¬ ((t = 3 ∧ i = 1) ∨ (t = 13 ∧ i = 58)) → wI (sI (sI w 3 0 1 0) 13 0 58 0) t k i = wI w t k i := fun t k i n => by
    rw [yI_sI, yI_sI, if_neg (by omega), if_neg (by omega)]
  have e58 : wI (sI (sI w 3 0 1 0) 13 0 58 0) 13 0 58 = 0 := by rw [yI_sI, if_pos ⟨rfl, rfl, rfl⟩]
  have c58 : cn (sI (sI w 3 0 1 0) 13 0 58 0) 58 = 0 := by unfold cn; rw [e58]; rfl
  have m3 := cn_cg (w := w) (w' := sI (sI w 3 0 1 0) 13 0 58 0) (g 13 0 3 (by omega))
  have m63 := cn_cg (w := w) (w' := sI (sI w 3 0 1 0) 13 0 58 0) (g 13 0 63 (by omega))
  refine Inv_cg2 (c := c) (w := w) (Nat.le_succ c) rfl (MOk_58 (iv_M h).1 ⟨by rw [c58, e58]; rfl, by rw [c58]; omega⟩ (fun t k i ht => g t k i (by omega)) (iv_M h)) ?_ (IvK_cg (g _ _ _ (by omega)) (fun i => g _ _ _ (by omega)) (iv_K h)) (fun k i _ => g _ _ _ (by omega)) (fun t k i ht => g t k i ?_) h
  · obtain ⟨c1, c2, c3, c4, c5, c6, c7, c8⟩ := iv_0 h
    refine ⟨?_, ?_, ?_, ?_, fun b hb => ?_, fun p hp => ?_, fun i hi => ?_, fun i hi => ?_⟩
    · rw [g _ _ _ (by omega), g _ _ _ (by omega)]; exact c1
    · rw [g _ _ _ (by omega), g _ _ _ (by omega)]; exact c2
    · rw [e58, yI_sI, yI_sI, if_neg (by omega), if_pos ⟨rfl, rfl, rfl⟩]
    · rw [g _ _ _ (by omega), g _ _ _ (by omega)]; exact c4
    · rw [g _ _ _ (by omega), g _ _ _ (by omega)]; exact c5 b hb
    · rw [m3] at hp
      rw [g _ _ _ (by omega), g _ _ _ (by omega), g _ _ _ (by omega), g _ _ _ (by omega)]; exact c6 p hp
    · rw [c58] at hi; omega
    · rw [m63] at hi
      rw [g _ _ _ (by omega), g _ _ _ (by omega), g _ _ _ (by omega), g _ _ _ (by omega)]; exact c8 i hi
  · unfold Kp K1 K2 K3 K4 K5 at ht
    omega
set_option maxRecDepth 100000 in
set_option maxHeartbeats 4000000 in
theorem ca_wipe (h : Inv c w) : Cok l G c w mS_wipe mM_wipe [] := by
  have hS := iv_S h
  have hM := iv_M h
  refine ⟨8, by decide, Sem_of (by decide) rfl (Nat.le_of_ble_eq_true rfl) ?_⟩
  refine wpn_ok (M := mS_wipe) (C := cenS) (X := (alk [])) (tb := tS_wipe) (st := []) eoS XOk_nil kS_wipe 60 _ _ _ _ _ _ ?_
  simp only [reduceCtorEq, fv0, fv1, fv2, fv3, bI_0, bI_1, bft, MSh_sI_eq, fsP_T, inL_0, inL_s, pad_0, pad_n, pad_s, wpn_s, wp1_s, lg_0, lg_s, lset_0, lset_s, kil_0, kil_s, st1_s, st2_s, isL_i, isL_l, isL_r, isL_n, spl_0, spl_s, cll_n, cll_s, catS_0, catS_s, jmp_s, alk_0, alk_s, otl_n, otl_s, List.nil_append, List.cons_append, List.contains_cons, List.contains_nil, Nat.reduceBEq, Bool.or_false, Bool.false_or, Bool.or_self, Bool.false_eq_true, Bool.true_or, Bool.or_true, if_true, if_false, ite_true, ite_false, ↓reduceIte, List.length_cons, List.length_nil, Nat.reduceAdd, Nat.reduceLT, Nat.reduceLeDiff, Nat.reduceEqDiff, Int.reduceAdd, Int.reduceLE, Int.toNat_natCast, Int.reduceToNat, Int.cast_ofNat_Int, true_and, and_true, false_and, and_false, true_implies, forall_const, eq_self, and_self, or_true, true_or, or_self, false_or, or_false, yI_sI, yR_sI, yC_sI, yN_sI, yI_sR, yR_sR, yC_sR, yN_sR, not_true_eq_false, not_false_eq_true, false_implies, implies_true, Nat.zero_add, Nat.add_zero, Nat.le_refl, Nat.reduceSub, Int.reduceSub, Int.reduceLT, Int.sub_zero, Int.sub_self, List.getElem?_toArray, List.getElem?_cons_zero, List.getElem?_cons_succ, Int.toNat_zero, Int.toNat_one, Int.lt_irrefl, yI_sB, yR_sB, yC_sB, yN_sB, MSh_sB_eq, pS_wipe_0, stp_aload_n, pS_wipe_1, stp_getfield, qfS_26, rp_0_2, ss_C0 hS, ss_R0_2 hS, ss_C3 hS, pS_wipe_4, qfS_253, rp_3_1, pS_wipe_7, stp_istore_n, pS_wipe_8, pS_wipe_9, pS_wipe_12, stp_iconst, pS_wipe_13, stp_putfield, fi_3_1, nr_3_1, pS_wipe_16, stp_iload_n, pS_wipe_17, stp_ireturn, ic_0, nv_S_wipe, ml_S_wipe, (iv_0 h).2.2.1]
  have e2 : fsM_wipe [.inr (.inr (some (13, 0)))] (sI w 3 0 1 0) = some (some (.inl (wI (sI w 3 0 1 0) 13 0 58)), sI (sI w 3 0 1 0) 13 0 58 0) := fsP_t hM.1
  rw [yI_sI, if_neg (by omega)] at e2
  exact Pst_fs (okM_wipe l G) (by decide) e2 (wi_inv h)
theorem te_inv (h : Inv c w) : Inv (c + 1) (sI (sI w 7 0 2 0) 13 0 66 0) := by
  obtain ⟨w1, w2, w3, w4⟩ := iv_W h
  have g : ∀ t k i, ¬ ((t = 7 ∧ i = 2) ∨ (t = 13 ∧ i = 66)) → wI (sI (sI w 7 0 2 0) 13 0 66 0) t k i = wI w t k i := fun t k i n => by
    rw [yI_sI, yI_sI, if_neg (by omega), if_neg (by omega)]
  refine Inv_W (w := w) rfl (okc_cg (g _ _ _ (by omega)) (iv_M h).2.2.2.2.2.2.2.2.1) ⟨?_, ?_, ?_, fun i hi => ?_⟩ (fun t k i n => g t k i (by omega)) h
  · simp only [yI_sI, Nat.reduceEqDiff, Nat.reduceAdd, Nat.reduceMul, reduceCtorEq, false_and, and_false, true_and, and_true, if_false, if_true, ite_false, ite_true, ↓reduceIte, eq_self, and_self, or_true, true_or, not_true_eq_false, false_implies, implies_true]
  · simp only [yI_sI, Nat.reduceEqDiff, Nat.reduceAdd, Nat.reduceMul, reduceCtorEq, false_and, and_false, true_and, and_true, if_false, if_true, ite_false, ite_true, ↓reduceIte, eq_self, and_self, or_true, true_or, not_true_eq_false, false_implies, implies_true]
  · rw [g _ _ _ (by omega), g _ _ _ (by omega)]; exact w3
  · rw [cn_cg (g _ _ _ (by omega))] at hi
    rw [g _ _ _ (by omega), g _ _ _ (by omega)]; exact w4 i hi
set_option maxRecDepth 100000 in
set_option maxHeartbeats 4000000 in
theorem ca_tear (h : Inv c w) : Cok l G c w mS_tear mM_tear [] := by
  have hS := iv_S h
  have hM := iv_M h
  obtain ⟨w1, w2, w3, w4⟩ := iv_W h
  have e2 : fsM_tear [.inr (.inr (some (13, 0)))] (sI w 7 0 2 0) = some (some (.inl (bI (!decide (wI (sI w 7 0 2 0) 13 0 66 = 0)))), sI (sI w 7 0 2 0) 13 0 66 0) := fsP_t hM.1
  rw [yI_sI, if_neg (by omega)] at e2
  refine ⟨8, by decide, Sem_of (by decide) rfl (Nat.le_of_ble_eq_true rfl) ?_⟩
  refine wpn_ok (M := mS_tear) (C := cenS) (X := (alk [])) (tb := tS_tear) (st := []) eoS XOk_nil kS_tear 60 _ _ _ _ _ _ ?_
  rcases w2 with q | q
  · rw [q] at e2
    simp only [reduceCtorEq, fv0, fv1, fv2, fv3, bI_0, bI_1, bft, MSh_sI_eq, fsP_T, inL_0, inL_s, pad_0, pad_n, pad_s, wpn_s, wp1_s, lg_0, lg_s, lset_0, lset_s, kil_0, kil_s, st1_s, st2_s, isL_i, isL_l, isL_r, isL_n, spl_0, spl_s, cll_n, cll_s, catS_0, catS_s, jmp_s, alk_0, alk_s, otl_n, otl_s, List.nil_append, List.cons_append, List.contains_cons, List.contains_nil, Nat.reduceBEq, Bool.or_false, Bool.false_or, Bool.or_self, Bool.false_eq_true, Bool.true_or, Bool.or_true, if_true, if_false, ite_true, ite_false, ↓reduceIte, List.length_cons, List.length_nil, Nat.reduceAdd, Nat.reduceLT, Nat.reduceLeDiff, Nat.reduceEqDiff, Int.reduceAdd, Int.reduceLE, Int.toNat_natCast, Int.reduceToNat, Int.cast_ofNat_Int, true_and, and_true, false_and, and_false, true_implies, forall_const, eq_self, and_self, or_true, true_or, or_self, false_or, or_false, yI_sI, yR_sI, yC_sI, yN_sI, yI_sR, yR_sR, yC_sR, yN_sR, not_true_eq_false, not_false_eq_true, false_implies, implies_true, Nat.zero_add, Nat.add_zero, Nat.le_refl, Nat.reduceSub, Int.reduceSub, Int.reduceLT, Int.sub_zero, Int.sub_self, List.getElem?_toArray, List.getElem?_cons_zero, List.getElem?_cons_succ, Int.toNat_zero, Int.toNat_one, Int.lt_irrefl, yI_sB, yR_sB, yC_sB, yN_sB, MSh_sB_eq, pS_tear_0, stp_aload_n, pS_tear_1, stp_getfield, qfS_56, rp_0_6, ss_C0 hS, ss_R0_6 hS, ss_C7 hS, pS_tear_4, qfS_367, rp_7_2, pS_tear_7, stp_ifCond_eq, pS_tear_10, stp_iconst, pS_tear_11, stp_goto, pS_tear_14, pS_tear_15, stp_istore_n, pS_tear_16, pS_tear_17, pS_tear_20, pS_tear_21, stp_putfield, fi_7_2, nr_7_2, pS_tear_24, stp_iload_n, pS_tear_25, stp_ireturn, ic_1, ic_0, nv_S_tear, ml_S_tear, w1, q]
    exact Pst_fs (okM_tear l G) (by decide) e2 (te_inv h)
  · rw [q] at e2
    simp only [reduceCtorEq, fv0, fv1, fv2, fv3, bI_0, bI_1, bft, MSh_sI_eq, fsP_T, inL_0, inL_s, pad_0, pad_n, pad_s, wpn_s, wp1_s, lg_0, lg_s, lset_0, lset_s, kil_0, kil_s, st1_s, st2_s, isL_i, isL_l, isL_r, isL_n, spl_0, spl_s, cll_n, cll_s, catS_0, catS_s, jmp_s, alk_0, alk_s, otl_n, otl_s, List.nil_append, List.cons_append, List.contains_cons, List.contains_nil, Nat.reduceBEq, Bool.or_false, Bool.false_or, Bool.or_self, Bool.false_eq_true, Bool.true_or, Bool.or_true, if_true, if_false, ite_true, ite_false, ↓reduceIte, List.length_cons, List.length_nil, Nat.reduceAdd, Nat.reduceLT, Nat.reduceLeDiff, Nat.reduceEqDiff, Int.reduceAdd, Int.reduceLE, Int.toNat_natCast, Int.reduceToNat, Int.cast_ofNat_Int, true_and, and_true, false_and, and_false, true_implies, forall_const, eq_self, and_self, or_true, true_or, or_self, false_or, or_false, yI_sI, yR_sI, yC_sI, yN_sI, yI_sR, yR_sR, yC_sR, yN_sR, not_true_eq_false, not_false_eq_true, false_implies, implies_true, Nat.zero_add, Nat.add_zero, Nat.le_refl, Nat.reduceSub, Int.reduceSub, Int.reduceLT, Int.sub_zero, Int.sub_self, List.getElem?_toArray, List.getElem?_cons_zero, List.getElem?_cons_succ, Int.toNat_zero, Int.toNat_one, Int.lt_irrefl, yI_sB, yR_sB, yC_sB, yN_sB, MSh_sB_eq, pS_tear_0, stp_aload_n, pS_tear_1, stp_getfield, qfS_56, rp_0_6, ss_C0 hS, ss_R0_6 hS, ss_C7 hS, pS_tear_4, qfS_367, rp_7_2, pS_tear_7, stp_ifCond_eq, pS_tear_10, stp_iconst, pS_tear_11, stp_goto, pS_tear_14, pS_tear_15, stp_istore_n, pS_tear_16, pS_tear_17, pS_tear_20, pS_tear_21, stp_putfield, fi_7_2, nr_7_2, pS_tear_24, stp_iload_n, pS_tear_25, stp_ireturn, ic_1, ic_0, nv_S_tear, ml_S_tear, w1, q, show ¬ (1 : Int32) = 0 by decide]
    exact Pst_fs (okM_tear l G) (by decide) e2 (te_inv h)
set_option maxRecDepth 100000 in
set_option maxHeartbeats 4000000 in
theorem ca_count (h : Inv c w) (k : Int32) : Cok l G c w mS_count mM_count [.inl k] := by
  have hS := iv_S h
  have hM := iv_M h
  have hl := iv_l h
  have h0 := iv_0 h
  obtain ⟨-, h3, h6, h17, hR, h63, h58, -⟩ := id hM
  obtain ⟨q1, q2, ⟨ρ, q3, -⟩, -⟩ := iv_Q h
  have l0 := ruL_size (LiA_S q1)
  have l1 := ruL_size (LiA_S q2)
  have l2 := ruL_size (LiA_S q3)
  rw [← h6.1] at l0
  rw [← h17.1] at l1
  rw [← hR.1.1] at l2
  refine ⟨18, by decide, Sem_of (by decide) rfl (Nat.le_of_ble_eq_true rfl) ?_⟩
  cases hk : inR k 0 10 with
  | false =>
    have ho := inR_out (n := 10) (by omega) hk
    have ho2 : k.toInt < 0 ∨ 10 < k.toInt := ho
    refine wpn_ok (M := mS_count) (C := cenS) (X := (alk [(79, lvS_refuse, fsS_refuse)])) (tb := tS_count) (st := []) eoS (XOk_cons qmS_79 (okS_refuse l G) XOk_nil) kS_count 60 _ _ _ _ _ _ ?_
    simp only [reduceCtorEq, fv0, fv1, fv2, fv3, bI_0, bI_1, bft, MSh_sI_eq, fsP_T, inL_0, inL_s, pad_0, pad_n, pad_s, wpn_s, wp1_s, lg_0, lg_s, lset_0, lset_s, kil_0, kil_s, st1_s, st2_s, isL_i, isL_l, isL_r, isL_n, spl_0, spl_s, cll_n, cll_s, catS_0, catS_s, jmp_s, alk_0, alk_s, otl_n, otl_s, List.nil_append, List.cons_append, List.contains_cons, List.contains_nil, Nat.reduceBEq, Bool.or_false, Bool.false_or, Bool.or_self, Bool.false_eq_true, Bool.true_or, Bool.or_true, if_true, if_false, ite_true, ite_false, ↓reduceIte, List.length_cons, List.length_nil, Nat.reduceAdd, Nat.reduceLT, Nat.reduceLeDiff, Nat.reduceEqDiff, Int.reduceAdd, Int.reduceLE, Int.toNat_natCast, Int.reduceToNat, Int.cast_ofNat_Int, true_and, and_true, false_and, and_false, true_implies, forall_const, eq_self, and_self, or_true, true_or, or_self, false_or, or_false, yI_sI, yR_sI, yC_sI, yN_sI, yI_sR, yR_sR, yC_sR, yN_sR, not_true_eq_false, not_false_eq_true, false_implies, implies_true, Nat.zero_add, Nat.add_zero, Nat.le_refl, Nat.reduceSub, Int.reduceSub, Int.reduceLT, Int.sub_zero, Int.sub_self, List.getElem?_toArray, List.getElem?_cons_zero, List.getElem?_cons_succ, Int.toNat_zero, Int.toNat_one, Int.lt_irrefl, yI_sB, yR_sB, yC_sB, yN_sB, MSh_sB_eq, pS_count_0, stp_iload_n, pS_count_1, stp_tableswitch, pS_count_60, stp_aload_n, pS_count_61, stp_getfield, qfS_71, rp_0_9, ss_C0 hS, pS_count_64, stp_ireturn, pS_count_65, pS_count_66, qfS_12, rp_0_0, ss_R0_0 hS, ss_C1 hS, pS_count_69, qfS_83, rp_1_4, pS_count_72, pS_count_73, pS_count_74, pS_count_77, qfS_93, rp_1_0, ss_R1_0 hS, ss_C2 hS, pS_count_80, stp_invokevirtual, qmS_96, cy_L_size, pS_count_83, pS_count_84, pS_count_85, qfS_19, rp_0_1, ss_R0_1 hS, pS_count_88, pS_count_91, pS_count_92, pS_count_93, qfS_33, rp_0_3, ss_R0_3 hS, ss_C4 hS, pS_count_96, qfS_260, rp_4_0, ss_R4_0 hS, pS_count_99, pS_count_102, pS_count_103, pS_count_104, qmS_349, cy_S_lotsOnWay, pS_count_107, pS_count_108, pS_count_109, qmS_352, cy_S_dryLots, pS_count_112, pS_count_113, pS_count_114, qmS_355, cy_S_soldLots, pS_count_117, pS_count_118, pS_count_119, qmS_358, cy_S_headsAtHooks, pS_count_122, pS_count_123, pS_count_124, qfS_26, rp_0_2, ss_R0_2 hS, ss_C3 hS, pS_count_127, qfS_253, rp_3_1, pS_count_130, pS_count_131, pS_count_132, qfS_40, rp_0_4, ss_R0_4 hS, ss_C5 hS, pS_count_135, qfS_334, rp_5_2, pS_count_138, pS_count_139, pS_count_140, stp_bipush, pS_count_142, qmS_79, cy_S_refuse, pS_count_145, bp_m7, nv_S_count, ml_S_count, ho2, rfS_7 hS, lvS_refuse]
    refine Pst_rf (d := fun w => ctE w k) (v := fun w => ctV w k.toNatClampNeg) (W := fun w => w) (okM_count l G) (by decide) (fun _ => rfl) h (b := 7) (by decide) rfl ?_
    show ctE w k = _
    simp only [ctE, hk, if_true]
    rfl
  | true =>
    obtain ⟨i, hi, rfl⟩ := inR_nat 10 (by omega) hk
    have ei : (nI i).toNatClampNeg = i := nI_clamp (by omega)
    have key : Pst l G c mM_count [.inl (nI i)] (some (.inl (ctV w i))) w := Pst_ok2 (d := fun w => ctE w (nI i)) (v := fun w => ctV w (nI i).toNatClampNeg) (W := fun w => w) (okM_count l G) (by decide) (fun _ => rfl) (fun _ => rfl) (fun _ => rfl) rfl hM (by simp only [ctE, hk, Bool.true_eq_false, if_false]) (by rw [ei]) (Inv_up h)
    clear hk
    refine wpn_ok (M := mS_count) (C := cenS) (X := (alk [(79, lvS_refuse, fsS_refuse), (96, lvL_size, fsL_size), (349, lvS_lotsOnWay, fsS_lotsOnWay), (352, lvS_dryLots, fsS_dryLots), (355, lvS_soldLots, fsS_soldLots), (358, lvS_headsAtHooks, fsS_headsAtHooks)])) (tb := tS_count) (st := []) eoS (XOk_cons qmS_79 (okS_refuse l G) (XOk_cons qmS_96 (okL_size l G) (XOk_cons qmS_349 (okS_lotsOnWay l G) (XOk_cons qmS_352 (okS_dryLots l G) (XOk_cons qmS_355 (okS_soldLots l G) (XOk_cons qmS_358 (okS_headsAtHooks l G) XOk_nil)))))) kS_count 60 _ _ _ _ _ _ ?_
    have : i = 0 ∨ i = 1 ∨ i = 2 ∨ i = 3 ∨ i = 4 ∨ i = 5 ∨ i = 6 ∨ i = 7 ∨ i = 8 ∨ i = 9 ∨ i = 10 := by omega
    rcases this with rfl | rfl | rfl | rfl | rfl | rfl | rfl | rfl | rfl | rfl | rfl <;> simp only [reduceCtorEq, fv0, fv1, fv2, fv3, bI_0, bI_1, bft, MSh_sI_eq, fsP_T, inL_0, inL_s, pad_0, pad_n, pad_s, wpn_s, wp1_s, lg_0, lg_s, lset_0, lset_s, kil_0, kil_s, st1_s, st2_s, isL_i, isL_l, isL_r, isL_n, spl_0, spl_s, cll_n, cll_s, catS_0, catS_s, jmp_s, alk_0, alk_s, otl_n, otl_s, List.nil_append, List.cons_append, List.contains_cons, List.contains_nil, Nat.reduceBEq, Bool.or_false, Bool.false_or, Bool.or_self, Bool.false_eq_true, Bool.true_or, Bool.or_true, if_true, if_false, ite_true, ite_false, ↓reduceIte, List.length_cons, List.length_nil, Nat.reduceAdd, Nat.reduceLT, Nat.reduceLeDiff, Nat.reduceEqDiff, Int.reduceAdd, Int.reduceLE, Int.toNat_natCast, Int.reduceToNat, Int.cast_ofNat_Int, true_and, and_true, false_and, and_false, true_implies, forall_const, eq_self, and_self, or_true, true_or, or_self, false_or, or_false, yI_sI, yR_sI, yC_sI, yN_sI, yI_sR, yR_sR, yC_sR, yN_sR, not_true_eq_false, not_false_eq_true, false_implies, implies_true, Nat.zero_add, Nat.add_zero, Nat.le_refl, Nat.reduceSub, Int.reduceSub, Int.reduceLT, Int.sub_zero, Int.sub_self, List.getElem?_toArray, List.getElem?_cons_zero, List.getElem?_cons_succ, Int.toNat_zero, Int.toNat_one, Int.lt_irrefl, yI_sB, yR_sB, yC_sB, yN_sB, MSh_sB_eq, pS_count_0, stp_iload_n, pS_count_1, stp_tableswitch, pS_count_60, stp_aload_n, pS_count_61, stp_getfield, qfS_71, rp_0_9, ss_C0 hS, pS_count_64, stp_ireturn, pS_count_65, pS_count_66, qfS_12, rp_0_0, ss_R0_0 hS, ss_C1 hS, pS_count_69, qfS_83, rp_1_4, pS_count_72, pS_count_73, pS_count_74, pS_count_77, qfS_93, rp_1_0, ss_R1_0 hS, ss_C2 hS, pS_count_80, stp_invokevirtual, qmS_96, cy_L_size, pS_count_83, pS_count_84, pS_count_85, qfS_19, rp_0_1, ss_R0_1 hS, pS_count_88, pS_count_91, pS_count_92, pS_count_93, qfS_33, rp_0_3, ss_R0_3 hS, ss_C4 hS, pS_count_96, qfS_260, rp_4_0, ss_R4_0 hS, pS_count_99, pS_count_102, pS_count_103, pS_count_104, qmS_349, cy_S_lotsOnWay, pS_count_107, pS_count_108, pS_count_109, qmS_352, cy_S_dryLots, pS_count_112, pS_count_113, pS_count_114, qmS_355, cy_S_soldLots, pS_count_117, pS_count_118, pS_count_119, qmS_358, cy_S_headsAtHooks, pS_count_122, pS_count_123, pS_count_124, qfS_26, rp_0_2, ss_R0_2 hS, ss_C3 hS, pS_count_127, qfS_253, rp_3_1, pS_count_130, pS_count_131, pS_count_132, qfS_40, rp_0_4, ss_R0_4 hS, ss_C5 hS, pS_count_135, qfS_334, rp_5_2, pS_count_138, pS_count_139, pS_count_140, stp_bipush, pS_count_142, qmS_79, cy_S_refuse, pS_count_145, bp_m7, nv_S_count, ml_S_count, tn0, tn1, tn2, tn3, tn4, tn5, tn6, tn7, tn8, tn9, tn10, lvS_refuse, lvL_size, lvS_lotsOnWay, lvS_dryLots, lvS_soldLots, lvS_headsAtHooks, h0.1, h0.2.1, h0.2.2.1, h0.2.2.2.1, l0, l1, l2, ruS_lotsOnWay hl, ruS_dryLots (iv_r h), ruS_soldLots hl, ruS_headsAtHooks hl] <;> exact key
end
