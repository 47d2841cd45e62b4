/-! counting lots -/
section
variable {l : Launch} {G : Gc} {n : Nat} {Q : Option AV → Wd → Prop} {w : Wd}
set_option maxRecDepth 100000 in
set_option maxHeartbeats 4000000 in
theorem stS_lotsOnWay {i : Nat} (hl : 4 ≤ n) (hC : Cpl w) (hi : i < cn w 17) (ih : WP l G mS_lotsOnWay n 0 0 Q 4 [some (.inr (.inr (some (0, 0)))), some (.inl (cntN (ctA w) (i + 1))), some (.inl (nI (i + 1)))] [] w 0 0) : WP l G mS_lotsOnWay n 0 0 Q 4 [some (.inr (.inr (some (0, 0)))), some (.inl (cntN (ctA w) i)), some (.inl (nI i))] [] w 0 0 := by
  have hP : Cpl w := hC
  have hS := hP.1
  have h24 := hP.2.1.2.2.2.1.2
  have rs := ruL_size hP.2.2.2.1
  have rg : fsL_get [.inr (.inr (some (2, 1))), .inl (nI i)] w = some (some (.inr (.inr (some (10, i)))), w) := ruL_get hP.2.2.2.1 hi
  obtain ⟨hs, hc⟩ := Cpl_lot hP hi
  have q1 : ¬ nI (cn w 17) ≤ nI i := nI_ge hi (by omega)
  have t1 : ¬ (1 : Int32) = 0 := by decide
  have ew := hc.2.2.2.2.2.2.2.2.2.2.2.2.2.2.2.2.2.2.2.2.2.2.1
  have e8 := hc.2.2.2.2.2.2.2.1
  have ru : fsO_isOnWay [.inr (.inr (some (10, i)))] w = some (some (.inl (bI (ctA w i))), w) := by
    have : fsO_isOnWay [.inr (.inr (some (10, i)))] w = fsP (i < wC w 10) (some (.inl (bI (!decide (wI w 10 i 8 = -1)))), w) := rfl
    rw [this, e8, fsP_t hs.1]
    by_cases q : wI w 123 0 i = -1
    · have := ew.mp q
      simp [ctA, q, this]
    · have : wI w 124 0 i = -1 := Classical.byContradiction fun z => q (ew.mpr z)
      simp [ctA, q, this]
  have hl1 : lvL_size < n := by show 1 < n; omega
  have hl2 : lvL_get < n := by show 3 < n; omega
  have hl3 : lvO_isOnWay < n := by unfold lvO_isOnWay; omega
  refine wpn_ok (M := mS_lotsOnWay) (C := cenS) (X := (alk [(96, lvL_size, fsL_size), (277, lvL_get, fsL_get), (380, lvO_isOnWay, fsO_isOnWay)])) (tb := tS_lotsOnWay) (st := [4]) eoS (XOk_cons qmS_96 (okL_size l G) (XOk_cons qmS_277 (okL_get l G) (XOk_cons qmS_380 (okO_isOnWay l G) XOk_nil))) kS_lotsOnWay 60 _ _ _ _ _ _ ?_
  cases hb : ctA w i
  · simp only [cntN, hb, bI_0] at ih
    rw [hb] at ru
    simp only [reduceCtorEq, fv0, fv1, fv2, fv3, bI_0, bI_1, bft, MSh_sI_eq, fsP_T, inL_0, inL_s, pad_0, pad_n, pad_s, wpn_s, wp1_s, lg_0, lg_s, lset_0, lset_s, kil_0, kil_s, st1_s, st2_s, isL_i, isL_l, isL_r, isL_n, spl_0, spl_s, cll_n, cll_s, catS_0, catS_s, jmp_s, alk_0, alk_s, otl_n, otl_s, List.nil_append, List.cons_append, List.contains_cons, List.contains_nil, Nat.reduceBEq, Bool.or_false, Bool.false_or, Bool.or_self, Bool.false_eq_true, Bool.true_or, Bool.or_true, if_true, if_false, ite_true, ite_false, ↓reduceIte, List.length_cons, List.length_nil, Nat.reduceAdd, Nat.reduceLT, Nat.reduceLeDiff, Nat.reduceEqDiff, Int.reduceAdd, Int.reduceLE, Int.toNat_natCast, Int.reduceToNat, Int.cast_ofNat_Int, true_and, and_true, false_and, and_false, true_implies, forall_const, eq_self, and_self, or_true, true_or, or_self, false_or, or_false, yI_sI, yR_sI, yC_sI, yN_sI, yI_sR, yR_sR, yC_sR, yN_sR, not_true_eq_false, not_false_eq_true, false_implies, implies_true, Nat.zero_add, Nat.add_zero, Nat.le_refl, Nat.reduceSub, Int.reduceSub, Int.reduceLT, Int.sub_zero, Int.sub_self, List.getElem?_toArray, List.getElem?_cons_zero, List.getElem?_cons_succ, Int.toNat_zero, Int.toNat_one, Int.lt_irrefl, yI_sB, yR_sB, yC_sB, yN_sB, MSh_sB_eq, pS_lotsOnWay_0, stp_iconst, pS_lotsOnWay_1, stp_istore_n, pS_lotsOnWay_2, pS_lotsOnWay_3, pS_lotsOnWay_4, stp_iload_n, pS_lotsOnWay_5, stp_aload_n, pS_lotsOnWay_6, stp_getfield, qfS_19, rp_0_1, ss_C0 hS, ss_R0_1 hS, ss_C2 hS, pS_lotsOnWay_9, stp_invokevirtual, qmS_96, cy_L_size, pS_lotsOnWay_12, stp_if_icmp_ge, pS_lotsOnWay_15, pS_lotsOnWay_16, pS_lotsOnWay_17, pS_lotsOnWay_20, pS_lotsOnWay_21, qmS_277, cy_L_get, pS_lotsOnWay_24, stp_checkcast, qtS_132, pS_lotsOnWay_27, qmS_380, cy_O_isOnWay, pS_lotsOnWay_30, stp_ifCond_eq, pS_lotsOnWay_33, pS_lotsOnWay_34, stp_goto, pS_lotsOnWay_37, pS_lotsOnWay_38, stp_iadd, pS_lotsOnWay_39, pS_lotsOnWay_40, stp_iinc, pS_lotsOnWay_43, pS_lotsOnWay_46, pS_lotsOnWay_47, stp_ireturn, ic_0, ic_1, nv_S_lotsOnWay, ml_S_lotsOnWay, hs.1, hs.2.1, hs.2.2.1, rs, rg, ru, q1, hl1, hl2, hl3, nI_1]
    exact ih
  · simp only [cntN, hb, bI_1] at ih
    rw [hb] at ru
    simp only [reduceCtorEq, fv0, fv1, fv2, fv3, bI_0, bI_1, bft, MSh_sI_eq, fsP_T, inL_0, inL_s, pad_0, pad_n, pad_s, wpn_s, wp1_s, lg_0, lg_s, lset_0, lset_s, kil_0, kil_s, st1_s, st2_s, isL_i, isL_l, isL_r, isL_n, spl_0, spl_s, cll_n, cll_s, catS_0, catS_s, jmp_s, alk_0, alk_s, otl_n, otl_s, List.nil_append, List.cons_append, List.contains_cons, List.contains_nil, Nat.reduceBEq, Bool.or_false, Bool.false_or, Bool.or_self, Bool.false_eq_true, Bool.true_or, Bool.or_true, if_true, if_false, ite_true, ite_false, ↓reduceIte, List.length_cons, List.length_nil, Nat.reduceAdd, Nat.reduceLT, Nat.reduceLeDiff, Nat.reduceEqDiff, Int.reduceAdd, Int.reduceLE, Int.toNat_natCast, Int.reduceToNat, Int.cast_ofNat_Int, true_and, and_true, false_and, and_false, true_implies, forall_const, eq_self, and_self, or_true, true_or, or_self, false_or, or_false, yI_sI, yR_sI, yC_sI, yN_sI, yI_sR, yR_sR, yC_sR, yN_sR, not_true_eq_false, not_false_eq_true, false_implies, implies_true, Nat.zero_add, Nat.add_zero, Nat.le_refl, Nat.reduceSub, Int.reduceSub, Int.reduceLT, Int.sub_zero, Int.sub_self, List.getElem?_toArray, List.getElem?_cons_zero, List.getElem?_cons_succ, Int.toNat_zero, Int.toNat_one, Int.lt_irrefl, yI_sB, yR_sB, yC_sB, yN_sB, MSh_sB_eq, pS_lotsOnWay_0, stp_iconst, pS_lotsOnWay_1, stp_istore_n, pS_lotsOnWay_2, pS_lotsOnWay_3, pS_lotsOnWay_4, stp_iload_n, pS_lotsOnWay_5, stp_aload_n, pS_lotsOnWay_6, stp_getfield, qfS_19, rp_0_1, ss_C0 hS, ss_R0_1 hS, ss_C2 hS, pS_lotsOnWay_9, stp_invokevirtual, qmS_96, cy_L_size, pS_lotsOnWay_12, stp_if_icmp_ge, pS_lotsOnWay_15, pS_lotsOnWay_16, pS_lotsOnWay_17, pS_lotsOnWay_20, pS_lotsOnWay_21, qmS_277, cy_L_get, pS_lotsOnWay_24, stp_checkcast, qtS_132, pS_lotsOnWay_27, qmS_380, cy_O_isOnWay, pS_lotsOnWay_30, stp_ifCond_eq, pS_lotsOnWay_33, pS_lotsOnWay_34, stp_goto, pS_lotsOnWay_37, pS_lotsOnWay_38, stp_iadd, pS_lotsOnWay_39, pS_lotsOnWay_40, stp_iinc, pS_lotsOnWay_43, pS_lotsOnWay_46, pS_lotsOnWay_47, stp_ireturn, ic_0, ic_1, nv_S_lotsOnWay, ml_S_lotsOnWay, hs.1, hs.2.1, hs.2.2.1, rs, rg, ru, q1, t1, hl1, hl2, hl3, nI_1]
    exact ih
set_option maxRecDepth 100000 in
set_option maxHeartbeats 4000000 in
theorem lpS_lotsOnWay (hl : 4 ≤ n) (hC : Cpl w) (hQ : Q (some (.inl (cntN (ctA w) (cn w 17)))) w) : ∀ c i, i + c = cn w 17 → WP l G mS_lotsOnWay n 0 0 Q 4 [some (.inr (.inr (some (0, 0)))), some (.inl (cntN (ctA w) i)), some (.inl (nI i))] [] w 0 0
  | 0, i, hi => by
    have e : i = cn w 17 := hi
    subst e
    have hP : Cpl w := hC
    have hS := hP.1
    have rs := ruL_size hP.2.2.2.1
    have hl3 : lvL_size < n := by show 1 < n; omega
    refine wpn_ok (M := mS_lotsOnWay) (C := cenS) (X := (alk [(96, lvL_size, fsL_size)])) (tb := tS_lotsOnWay) (st := [4]) eoS (XOk_cons qmS_96 (okL_size l G) XOk_nil) kS_lotsOnWay 60 _ _ _ _ _ _ ?_
    simp only [reduceCtorEq, fv0, fv1, fv2, fv3, bI_0, bI_1, bft, MSh_sI_eq, fsP_T, inL_0, inL_s, pad_0, pad_n, pad_s, wpn_s, wp1_s, lg_0, lg_s, lset_0, lset_s, kil_0, kil_s, st1_s, st2_s, isL_i, isL_l, isL_r, isL_n, spl_0, spl_s, cll_n, cll_s, catS_0, catS_s, jmp_s, alk_0, alk_s, otl_n, otl_s, List.nil_append, List.cons_append, List.contains_cons, List.contains_nil, Nat.reduceBEq, Bool.or_false, Bool.false_or, Bool.or_self, Bool.false_eq_true, Bool.true_or, Bool.or_true, if_true, if_false, ite_true, ite_false, ↓reduceIte, List.length_cons, List.length_nil, Nat.reduceAdd, Nat.reduceLT, Nat.reduceLeDiff, Nat.reduceEqDiff, Int.reduceAdd, Int.reduceLE, Int.toNat_natCast, Int.reduceToNat, Int.cast_ofNat_Int, true_and, and_true, false_and, and_false, true_implies, forall_const, eq_self, and_self, or_true, true_or, or_self, false_or, or_false, yI_sI, yR_sI, yC_sI, yN_sI, yI_sR, yR_sR, yC_sR, yN_sR, not_true_eq_false, not_false_eq_true, false_implies, implies_true, Nat.zero_add, Nat.add_zero, Nat.le_refl, Nat.reduceSub, Int.reduceSub, Int.reduceLT, Int.sub_zero, Int.sub_self, List.getElem?_toArray, List.getElem?_cons_zero, List.getElem?_cons_succ, Int.toNat_zero, Int.toNat_one, Int.lt_irrefl, yI_sB, yR_sB, yC_sB, yN_sB, MSh_sB_eq, pS_lotsOnWay_0, stp_iconst, pS_lotsOnWay_1, stp_istore_n, pS_lotsOnWay_2, pS_lotsOnWay_3, pS_lotsOnWay_4, stp_iload_n, pS_lotsOnWay_5, stp_aload_n, pS_lotsOnWay_6, stp_getfield, qfS_19, rp_0_1, ss_C0 hS, ss_R0_1 hS, ss_C2 hS, pS_lotsOnWay_9, stp_invokevirtual, qmS_96, cy_L_size, pS_lotsOnWay_12, stp_if_icmp_ge, pS_lotsOnWay_15, pS_lotsOnWay_16, pS_lotsOnWay_17, pS_lotsOnWay_20, pS_lotsOnWay_21, qmS_277, cy_L_get, pS_lotsOnWay_24, stp_checkcast, qtS_132, pS_lotsOnWay_27, qmS_380, cy_O_isOnWay, pS_lotsOnWay_30, stp_ifCond_eq, pS_lotsOnWay_33, pS_lotsOnWay_34, stp_goto, pS_lotsOnWay_37, pS_lotsOnWay_38, stp_iadd, pS_lotsOnWay_39, pS_lotsOnWay_40, stp_iinc, pS_lotsOnWay_43, pS_lotsOnWay_46, pS_lotsOnWay_47, stp_ireturn, ic_0, ic_1, nv_S_lotsOnWay, ml_S_lotsOnWay, rs, hl3, Int32.le_refl]
    exact hQ
  | c + 1, i, hi => stS_lotsOnWay hl hC (by omega) (lpS_lotsOnWay hl hC hQ c (i + 1) (by omega))
end
abbrev lvS_lotsOnWay : Nat := 4
noncomputable def fsS_lotsOnWay : FS := fun as w => match as with
  | [.inr (.inr (some (0, 0)))] => fsP (Cpl w) (some (.inl (cntN (ctA w) (cn w 17))), w)
  | _ => none
set_option maxRecDepth 100000 in
set_option maxHeartbeats 4000000 in
theorem okS_lotsOnWay (l : Launch) (G : Gc) : FsOk l G mS_lotsOnWay lvS_lotsOnWay fsS_lotsOnWay := by
  intro as w r w' h
  simp only [fsS_lotsOnWay] at h
  split at h
  · obtain ⟨hC, h⟩ := fsP_s h
    cases h
    have hP : Cpl w := hC
    have hS := hP.1
    refine Sem_of (by decide) rfl (Nat.le_of_ble_eq_true rfl) ?_
    refine wpn_ok (M := mS_lotsOnWay) (C := cenS) (X := (alk [])) (tb := tS_lotsOnWay) (st := [4]) eoS XOk_nil kS_lotsOnWay 60 _ _ _ _ _ _ ?_
    simp only [reduceCtorEq, fv0, fv1, fv2, fv3, bI_0, bI_1, bft, MSh_sI_eq, fsP_T, inL_0, inL_s, pad_0, pad_n, pad_s, wpn_s, wp1_s, lg_0, lg_s, lset_0, lset_s, kil_0, kil_s, st1_s, st2_s, isL_i, isL_l, isL_r, isL_n, spl_0, spl_s, cll_n, cll_s, catS_0, catS_s, jmp_s, alk_0, alk_s, otl_n, otl_s, List.nil_append, List.cons_append, List.contains_cons, List.contains_nil, Nat.reduceBEq, Bool.or_false, Bool.false_or, Bool.or_self, Bool.false_eq_true, Bool.true_or, Bool.or_true, if_true, if_false, ite_true, ite_false, ↓reduceIte, List.length_cons, List.length_nil, Nat.reduceAdd, Nat.reduceLT, Nat.reduceLeDiff, Nat.reduceEqDiff, Int.reduceAdd, Int.reduceLE, Int.toNat_natCast, Int.reduceToNat, Int.cast_ofNat_Int, true_and, and_true, false_and, and_false, true_implies, forall_const, eq_self, and_self, or_true, true_or, or_self, false_or, or_false, yI_sI, yR_sI, yC_sI, yN_sI, yI_sR, yR_sR, yC_sR, yN_sR, not_true_eq_false, not_false_eq_true, false_implies, implies_true, Nat.zero_add, Nat.add_zero, Nat.le_refl, Nat.reduceSub, Int.reduceSub, Int.reduceLT, Int.sub_zero, Int.sub_self, List.getElem?_toArray, List.getElem?_cons_zero, List.getElem?_cons_succ, Int.toNat_zero, Int.toNat_one, Int.lt_irrefl, yI_sB, yR_sB, yC_sB, yN_sB, MSh_sB_eq, pS_lotsOnWay_0, stp_iconst, pS_lotsOnWay_1, stp_istore_n, pS_lotsOnWay_2, pS_lotsOnWay_3, pS_lotsOnWay_4, stp_iload_n, pS_lotsOnWay_5, stp_aload_n, pS_lotsOnWay_6, stp_getfield, qfS_19, rp_0_1, ss_C0 hS, ss_R0_1 hS, ss_C2 hS, pS_lotsOnWay_9, stp_invokevirtual, qmS_96, cy_L_size, pS_lotsOnWay_12, stp_if_icmp_ge, pS_lotsOnWay_15, pS_lotsOnWay_16, pS_lotsOnWay_17, pS_lotsOnWay_20, pS_lotsOnWay_21, qmS_277, cy_L_get, pS_lotsOnWay_24, stp_checkcast, qtS_132, pS_lotsOnWay_27, qmS_380, cy_O_isOnWay, pS_lotsOnWay_30, stp_ifCond_eq, pS_lotsOnWay_33, pS_lotsOnWay_34, stp_goto, pS_lotsOnWay_37, pS_lotsOnWay_38, stp_iadd, pS_lotsOnWay_39, pS_lotsOnWay_40, stp_iinc, pS_lotsOnWay_43, pS_lotsOnWay_46, pS_lotsOnWay_47, stp_ireturn, ic_0, ic_1, nv_S_lotsOnWay, ml_S_lotsOnWay]
    exact lpS_lotsOnWay (Nat.le_refl _) hC ⟨rfl, rfl⟩ (cn w 17) 0 (by omega)
  · cases h
theorem ruS_lotsOnWay {w : Wd} (h : Cpl w) : fsS_lotsOnWay [.inr (.inr (some (0, 0)))] w = some (some (.inl (cntN (ctA w) (cn w 17))), w) := fsP_t h
section
variable {l : Launch} {G : Gc} {n : Nat} {Q : Option AV → Wd → Prop} {w : Wd}
set_option maxRecDepth 100000 in
set_option maxHeartbeats 4000000 in
theorem stS_soldLots {i : Nat} (hl : 4 ≤ n) (hC : Cpl w) (hi : i < cn w 17) (ih : WP l G mS_soldLots n 0 0 Q 4 [some (.inr (.inr (some (0, 0)))), some (.inl (cntN (ctS w) (i + 1))), some (.inl (nI (i + 1)))] [] w 0 0) : WP l G mS_soldLots n 0 0 Q 4 [some (.inr (.inr (some (0, 0)))), some (.inl (cntN (ctS w) i)), some (.inl (nI i))] [] w 0 0 := by
  have hP : Cpl w := hC
  have hS := hP.1
  have h24 := hP.2.1.2.2.2.1.2
  have rs := ruL_size hP.2.2.2.1
  have rg : fsL_get [.inr (.inr (some (2, 1))), .inl (nI i)] w = some (some (.inr (.inr (some (10, i)))), w) := ruL_get hP.2.2.2.1 hi
  obtain ⟨hs, hc⟩ := Cpl_lot hP hi
  have q1 : ¬ nI (cn w 17) ≤ nI i := nI_ge hi (by omega)
  have t1 : ¬ (1 : Int32) = 0 := by decide
  have e7 := hc.2.2.2.2.2.2.2.2.2.2.1
  have ru : fsE_isSold [.inr (.inr (some (11, i)))] w = some (some (.inl (bI (ctS w i))), w) := by
    have : fsE_isSold [.inr (.inr (some (11, i)))] w = fsP (i < wC w 11) (some (.inl (bI (!decide (wI w 11 i 7 = -1)))), w) := rfl
    rw [this, e7, fsP_t hs.2.2.1]
    rfl
  have hl1 : lvL_size < n := by show 1 < n; omega
  have hl2 : lvL_get < n := by show 3 < n; omega
  have hl3 : lvE_isSold < n := by unfold lvE_isSold; omega
  refine wpn_ok (M := mS_soldLots) (C := cenS) (X := (alk [(96, lvL_size, fsL_size), (277, lvL_get, fsL_get), (217, lvE_isSold, fsE_isSold)])) (tb := tS_soldLots) (st := [4]) eoS (XOk_cons qmS_96 (okL_size l G) (XOk_cons qmS_277 (okL_get l G) (XOk_cons qmS_217 (okE_isSold l G) XOk_nil))) kS_soldLots 60 _ _ _ _ _ _ ?_
  cases hb : ctS w i
  · simp only [cntN, hb, bI_0] at ih
    rw [hb] at ru
    simp only [reduceCtorEq, fv0, fv1, fv2, fv3, bI_0, bI_1, bft, MSh_sI_eq, fsP_T, inL_0, inL_s, pad_0, pad_n, pad_s, wpn_s, wp1_s, lg_0, lg_s, lset_0, lset_s, kil_0, kil_s, st1_s, st2_s, isL_i, isL_l, isL_r, isL_n, spl_0, spl_s, cll_n, cll_s, catS_0, catS_s, jmp_s, alk_0, alk_s, otl_n, otl_s, List.nil_append, List.cons_append, List.contains_cons, List.contains_nil, Nat.reduceBEq, Bool.or_false, Bool.false_or, Bool.or_self, Bool.false_eq_true, Bool.true_or, Bool.or_true, if_true, if_false, ite_true, ite_false, ↓reduceIte, List.length_cons, List.length_nil, Nat.reduceAdd, Nat.reduceLT, Nat.reduceLeDiff, Nat.reduceEqDiff, Int.reduceAdd, Int.reduceLE, Int.toNat_natCast, Int.reduceToNat, Int.cast_ofNat_Int, true_and, and_true, false_and, and_false, true_implies, forall_const, eq_self, and_self, or_true, true_or, or_self, false_or, or_false, yI_sI, yR_sI, yC_sI, yN_sI, yI_sR, yR_sR, yC_sR, yN_sR, not_true_eq_false, not_false_eq_true, false_implies, implies_true, Nat.zero_add, Nat.add_zero, Nat.le_refl, Nat.reduceSub, Int.reduceSub, Int.reduceLT, Int.sub_zero, Int.sub_self, List.getElem?_toArray, List.getElem?_cons_zero, List.getElem?_cons_succ, Int.toNat_zero, Int.toNat_one, Int.lt_irrefl, yI_sB, yR_sB, yC_sB, yN_sB, MSh_sB_eq, pS_soldLots_0, stp_iconst, pS_soldLots_1, stp_istore_n, pS_soldLots_2, pS_soldLots_3, pS_soldLots_4, stp_iload_n, pS_soldLots_5, stp_aload_n, pS_soldLots_6, stp_getfield, qfS_19, rp_0_1, ss_C0 hS, ss_R0_1 hS, ss_C2 hS, pS_soldLots_9, stp_invokevirtual, qmS_96, cy_L_size, pS_soldLots_12, stp_if_icmp_ge, pS_soldLots_15, pS_soldLots_16, pS_soldLots_17, pS_soldLots_20, pS_soldLots_21, qmS_277, cy_L_get, pS_soldLots_24, stp_checkcast, qtS_132, pS_soldLots_27, qfS_186, rp_10_2, pS_soldLots_30, qmS_217, cy_E_isSold, pS_soldLots_33, stp_ifCond_eq, pS_soldLots_36, pS_soldLots_37, stp_goto, pS_soldLots_40, pS_soldLots_41, stp_iadd, pS_soldLots_42, pS_soldLots_43, stp_iinc, pS_soldLots_46, pS_soldLots_49, pS_soldLots_50, stp_ireturn, ic_0, ic_1, nv_S_soldLots, ml_S_soldLots, hs.1, hs.2.1, hs.2.2.1, rs, rg, ru, q1, hl1, hl2, hl3, nI_1]
    exact ih
  · simp only [cntN, hb, bI_1] at ih
    rw [hb] at ru
    simp only [reduceCtorEq, fv0, fv1, fv2, fv3, bI_0, bI_1, bft, MSh_sI_eq, fsP_T, inL_0, inL_s, pad_0, pad_n, pad_s, wpn_s, wp1_s, lg_0, lg_s, lset_0, lset_s, kil_0, kil_s, st1_s, st2_s, isL_i, isL_l, isL_r, isL_n, spl_0, spl_s, cll_n, cll_s, catS_0, catS_s, jmp_s, alk_0, alk_s, otl_n, otl_s, List.nil_append, List.cons_append, List.contains_cons, List.contains_nil, Nat.reduceBEq, Bool.or_false, Bool.false_or, Bool.or_self, Bool.false_eq_true, Bool.true_or, Bool.or_true, if_true, if_false, ite_true, ite_false, ↓reduceIte, List.length_cons, List.length_nil, Nat.reduceAdd, Nat.reduceLT, Nat.reduceLeDiff, Nat.reduceEqDiff, Int.reduceAdd, Int.reduceLE, Int.toNat_natCast, Int.reduceToNat, Int.cast_ofNat_Int, true_and, and_true, false_and, and_false, true_implies, forall_const, eq_self, and_self, or_true, true_or, or_self, false_or, or_false, yI_sI, yR_sI, yC_sI, yN_sI, yI_sR, yR_sR, yC_sR, yN_sR, not_true_eq_false, not_false_eq_true, false_implies, implies_true, Nat.zero_add, Nat.add_zero, Nat.le_refl, Nat.reduceSub, Int.reduceSub, Int.reduceLT, Int.sub_zero, Int.sub_self, List.getElem?_toArray, List.getElem?_cons_zero, List.getElem?_cons_succ, Int.toNat_zero, Int.toNat_one, Int.lt_irrefl, yI_sB, yR_sB, yC_sB, yN_sB, MSh_sB_eq, pS_soldLots_0, stp_iconst, pS_soldLots_1, stp_istore_n, pS_soldLots_2, pS_soldLots_3, pS_soldLots_4, stp_iload_n, pS_soldLots_5, stp_aload_n, pS_soldLots_6, stp_getfield, qfS_19, rp_0_1, ss_C0 hS, ss_R0_1 hS, ss_C2 hS, pS_soldLots_9, stp_invokevirtual, qmS_96, cy_L_size, pS_soldLots_12, stp_if_icmp_ge, pS_soldLots_15, pS_soldLots_16, pS_soldLots_17, pS_soldLots_20, pS_soldLots_21, qmS_277, cy_L_get, pS_soldLots_24, stp_checkcast, qtS_132, pS_soldLots_27, qfS_186, rp_10_2, pS_soldLots_30, qmS_217, cy_E_isSold, pS_soldLots_33, stp_ifCond_eq, pS_soldLots_36, pS_soldLots_37, stp_goto, pS_soldLots_40, pS_soldLots_41, stp_iadd, pS_soldLots_42, pS_soldLots_43, stp_iinc, pS_soldLots_46, pS_soldLots_49, pS_soldLots_50, stp_ireturn, ic_0, ic_1, nv_S_soldLots, ml_S_soldLots, hs.1, hs.2.1, hs.2.2.1, rs, rg, ru, q1, t1, hl1, hl2, hl3, nI_1]
    exact ih
set_option maxRecDepth 100000 in
set_option maxHeartbeats 4000000 in
theorem lpS_soldLots (hl : 4 ≤ n) (hC : Cpl w) (hQ : Q (some (.inl (cntN (ctS w) (cn w 17)))) w) : ∀ c i, i + c = cn w 17 → WP l G mS_soldLots n 0 0 Q 4 [some (.inr (.inr (some (0, 0)))), some (.inl (cntN (ctS w) i)), some (.inl (nI i))] [] w 0 0
  | 0, i, hi => by
    have e : i = cn w 17 := hi
    subst e
    have hP : Cpl w := hC
    have hS := hP.1
    have rs := ruL_size hP.2.2.2.1
    have hl3 : lvL_size < n := by show 1 < n; omega
    refine wpn_ok (M := mS_soldLots) (C := cenS) (X := (alk [(96, lvL_size, fsL_size)])) (tb := tS_soldLots) (st := [4]) eoS (XOk_cons qmS_96 (okL_size l G) XOk_nil) kS_soldLots 60 _ _ _ _ _ _ ?_
    simp only [reduceCtorEq, fv0, fv1, fv2, fv3, bI_0, bI_1, bft, MSh_sI_eq, fsP_T, inL_0, inL_s, pad_0, pad_n, pad_s, wpn_s, wp1_s, lg_0, lg_s, lset_0, lset_s, kil_0, kil_s, st1_s, st2_s, isL_i, isL_l, isL_r, isL_n, spl_0, spl_s, cll_n, cll_s, catS_0, catS_s, jmp_s, alk_0, alk_s, otl_n, otl_s, List.nil_append, List.cons_append, List.contains_cons, List.contains_nil, Nat.reduceBEq, Bool.or_false, Bool.false_or, Bool.or_self, Bool.false_eq_true, Bool.true_or, Bool.or_true, if_true, if_false, ite_true, ite_false, ↓reduceIte, List.length_cons, List.length_nil, Nat.reduceAdd, Nat.reduceLT, Nat.reduceLeDiff, Nat.reduceEqDiff, Int.reduceAdd, Int.reduceLE, Int.toNat_natCast, Int.reduceToNat, Int.cast_ofNat_Int, true_and, and_true, false_and, and_false, true_implies, forall_const, eq_self, and_self, or_true, true_or, or_self, false_or, or_false, yI_sI, yR_sI, yC_sI, yN_sI, yI_sR, yR_sR, yC_sR, yN_sR, not_true_eq_false, not_false_eq_true, false_implies, implies_true, Nat.zero_add, Nat.add_zero, Nat.le_refl, Nat.reduceSub, Int.reduceSub, Int.reduceLT, Int.sub_zero, Int.sub_self, List.getElem?_toArray, List.getElem?_cons_zero, List.getElem?_cons_succ, Int.toNat_zero, Int.toNat_one, Int.lt_irrefl, yI_sB, yR_sB, yC_sB, yN_sB, MSh_sB_eq, pS_soldLots_0, stp_iconst, pS_soldLots_1, stp_istore_n, pS_soldLots_2, pS_soldLots_3, pS_soldLots_4, stp_iload_n, pS_soldLots_5, stp_aload_n, pS_soldLots_6, stp_getfield, qfS_19, rp_0_1, ss_C0 hS, ss_R0_1 hS, ss_C2 hS, pS_soldLots_9, stp_invokevirtual, qmS_96, cy_L_size, pS_soldLots_12, stp_if_icmp_ge, pS_soldLots_15, pS_soldLots_16, pS_soldLots_17, pS_soldLots_20, pS_soldLots_21, qmS_277, cy_L_get, pS_soldLots_24, stp_checkcast, qtS_132, pS_soldLots_27, qfS_186, rp_10_2, pS_soldLots_30, qmS_217, cy_E_isSold, pS_soldLots_33, stp_ifCond_eq, pS_soldLots_36, pS_soldLots_37, stp_goto, pS_soldLots_40, pS_soldLots_41, stp_iadd, pS_soldLots_42, pS_soldLots_43, stp_iinc, pS_soldLots_46, pS_soldLots_49, pS_soldLots_50, stp_ireturn, ic_0, ic_1, nv_S_soldLots, ml_S_soldLots, rs, hl3, Int32.le_refl]
    exact hQ
  | c + 1, i, hi => stS_soldLots hl hC (by omega) (lpS_soldLots hl hC hQ c (i + 1) (by omega))
end
abbrev lvS_soldLots : Nat := 4
noncomputable def fsS_soldLots : FS := fun as w => match as with
  | [.inr (.inr (some (0, 0)))] => fsP (Cpl w) (some (.inl (cntN (ctS w) (cn w 17))), w)
  | _ => none
set_option maxRecDepth 100000 in
set_option maxHeartbeats 4000000 in
theorem okS_soldLots (l : Launch) (G : Gc) : FsOk l G mS_soldLots lvS_soldLots fsS_soldLots := by
  intro as w r w' h
  simp only [fsS_soldLots] at h
  split at h
  · obtain ⟨hC, h⟩ := fsP_s h
    cases h
    have hP : Cpl w := hC
    have hS := hP.1
    refine Sem_of (by decide) rfl (Nat.le_of_ble_eq_true rfl) ?_
    refine wpn_ok (M := mS_soldLots) (C := cenS) (X := (alk [])) (tb := tS_soldLots) (st := [4]) eoS XOk_nil kS_soldLots 60 _ _ _ _ _ _ ?_
    simp only [reduceCtorEq, fv0, fv1, fv2, fv3, bI_0, bI_1, bft, MSh_sI_eq, fsP_T, inL_0, inL_s, pad_0, pad_n, pad_s, wpn_s, wp1_s, lg_0, lg_s, lset_0, lset_s, kil_0, kil_s, st1_s, st2_s, isL_i, isL_l, isL_r, isL_n, spl_0, spl_s, cll_n, cll_s, catS_0, catS_s, jmp_s, alk_0, alk_s, otl_n, otl_s, List.nil_append, List.cons_append, List.contains_cons, List.contains_nil, Nat.reduceBEq, Bool.or_false, Bool.false_or, Bool.or_self, Bool.false_eq_true, Bool.true_or, Bool.or_true, if_true, if_false, ite_true, ite_false, ↓reduceIte, List.length_cons, List.length_nil, Nat.reduceAdd, Nat.reduceLT, Nat.reduceLeDiff, Nat.reduceEqDiff, Int.reduceAdd, Int.reduceLE, Int.toNat_natCast, Int.reduceToNat, Int.cast_ofNat_Int, true_and, and_true, false_and, and_false, true_implies, forall_const, eq_self, and_self, or_true, true_or, or_self, false_or, or_false, yI_sI, yR_sI, yC_sI, yN_sI, yI_sR, yR_sR, yC_sR, yN_sR, not_true_eq_false, not_false_eq_true, false_implies, implies_true, Nat.zero_add, Nat.add_zero, Nat.le_refl, Nat.reduceSub, Int.reduceSub, Int.reduceLT, Int.sub_zero, Int.sub_self, List.getElem?_toArray, List.getElem?_cons_zero, List.getElem?_cons_succ, Int.toNat_zero, Int.toNat_one, Int.lt_irrefl, yI_sB, yR_sB, yC_sB, yN_sB, MSh_sB_eq, pS_soldLots_0, stp_iconst, pS_soldLots_1, stp_istore_n, pS_soldLots_2, pS_soldLots_3, pS_soldLots_4, stp_iload_n, pS_soldLots_5, stp_aload_n, pS_soldLots_6, stp_getfield, qfS_19, rp_0_1, ss_C0 hS, ss_R0_1 hS, ss_C2 hS, pS_soldLots_9, stp_invokevirtual, qmS_96, cy_L_size, pS_soldLots_12, stp_if_icmp_ge, pS_soldLots_15, pS_soldLots_16, pS_soldLots_17, pS_soldLots_20, pS_soldLots_21, qmS_277, cy_L_get, pS_soldLots_24, stp_checkcast, qtS_132, pS_soldLots_27, qfS_186, rp_10_2, pS_soldLots_30, qmS_217, cy_E_isSold, pS_soldLots_33, stp_ifCond_eq, pS_soldLots_36, pS_soldLots_37, stp_goto, pS_soldLots_40, pS_soldLots_41, stp_iadd, pS_soldLots_42, pS_soldLots_43, stp_iinc, pS_soldLots_46, pS_soldLots_49, pS_soldLots_50, stp_ireturn, ic_0, ic_1, nv_S_soldLots, ml_S_soldLots]
    exact lpS_soldLots (Nat.le_refl _) hC ⟨rfl, rfl⟩ (cn w 17) 0 (by omega)
  · cases h
theorem ruS_soldLots {w : Wd} (h : Cpl w) : fsS_soldLots [.inr (.inr (some (0, 0)))] w = some (some (.inl (cntN (ctS w) (cn w 17))), w) := fsP_t h
section
variable {l : Launch} {G : Gc} {n : Nat} {Q : Option AV → Wd → Prop} {w : Wd}
set_option maxRecDepth 100000 in
set_option maxHeartbeats 4000000 in
theorem stS_dryLots {i : Nat} (hl : 7 ≤ n) (hC : Cpr w) (hi : i < cn w 17) (ih : WP l G mS_dryLots n 0 0 Q 4 [some (.inr (.inr (some (0, 0)))), some (.inl (cntN (ctD w) (i + 1))), some (.inl (nI (i + 1)))] [] w 0 0) : WP l G mS_dryLots n 0 0 Q 4 [some (.inr (.inr (some (0, 0)))), some (.inl (cntN (ctD w) i)), some (.inl (nI i))] [] w 0 0 := by
  have hP : Cpl w := hC.1
  have hS := hP.1
  have h24 := hP.2.1.2.2.2.1.2
  have rs := ruL_size hP.2.2.2.1
  have rg : fsL_get [.inr (.inr (some (2, 1))), .inl (nI i)] w = some (some (.inr (.inr (some (10, i)))), w) := ruL_get hP.2.2.2.1 hi
  obtain ⟨hs, hc⟩ := Cpl_lot hP hi
  have q1 : ¬ nI (cn w 17) ≤ nI i := nI_ge hi (by omega)
  have t1 : ¬ (1 : Int32) = 0 := by decide
  have e9 := hP.2.2.1.1
  have ru : fsB_isDry [.inr (.inr (some (4, 0))), .inr (.inr (some (10, i))), .inl (wI w 13 0 2)] w = some (some (.inl (bI (ctD w i))), w) := ruB_isDry hC hi
  have hl1 : lvL_size < n := by show 1 < n; omega
  have hl2 : lvL_get < n := by show 3 < n; omega
  have hl3 : lvB_isDry < n := by unfold lvB_isDry; omega
  refine wpn_ok (M := mS_dryLots) (C := cenS) (X := (alk [(96, lvL_size, fsL_size), (277, lvL_get, fsL_get), (179, lvB_isDry, fsB_isDry)])) (tb := tS_dryLots) (st := [4]) eoS (XOk_cons qmS_96 (okL_size l G) (XOk_cons qmS_277 (okL_get l G) (XOk_cons qmS_179 (okB_isDry l G) XOk_nil))) kS_dryLots 60 _ _ _ _ _ _ ?_
  cases hb : ctD w i
  · simp only [cntN, hb, bI_0] at ih
    rw [hb] at ru
    simp only [reduceCtorEq, fv0, fv1, fv2, fv3, bI_0, bI_1, bft, MSh_sI_eq, fsP_T, inL_0, inL_s, pad_0, pad_n, pad_s, wpn_s, wp1_s, lg_0, lg_s, lset_0, lset_s, kil_0, kil_s, st1_s, st2_s, isL_i, isL_l, isL_r, isL_n, spl_0, spl_s, cll_n, cll_s, catS_0, catS_s, jmp_s, alk_0, alk_s, otl_n, otl_s, List.nil_append, List.cons_append, List.contains_cons, List.contains_nil, Nat.reduceBEq, Bool.or_false, Bool.false_or, Bool.or_self, Bool.false_eq_true, Bool.true_or, Bool.or_true, if_true, if_false, ite_true, ite_false, ↓reduceIte, List.length_cons, List.length_nil, Nat.reduceAdd, Nat.reduceLT, Nat.reduceLeDiff, Nat.reduceEqDiff, Int.reduceAdd, Int.reduceLE, Int.toNat_natCast, Int.reduceToNat, Int.cast_ofNat_Int, true_and, and_true, false_and, and_false, true_implies, forall_const, eq_self, and_self, or_true, true_or, or_self, false_or, or_false, yI_sI, yR_sI, yC_sI, yN_sI, yI_sR, yR_sR, yC_sR, yN_sR, not_true_eq_false, not_false_eq_true, false_implies, implies_true, Nat.zero_add, Nat.add_zero, Nat.le_refl, Nat.reduceSub, Int.reduceSub, Int.reduceLT, Int.sub_zero, Int.sub_self, List.getElem?_toArray, List.getElem?_cons_zero, List.getElem?_cons_succ, Int.toNat_zero, Int.toNat_one, Int.lt_irrefl, yI_sB, yR_sB, yC_sB, yN_sB, MSh_sB_eq, pS_dryLots_0, stp_iconst, pS_dryLots_1, stp_istore_n, pS_dryLots_2, pS_dryLots_3, pS_dryLots_4, stp_iload_n, pS_dryLots_5, stp_aload_n, pS_dryLots_6, stp_getfield, qfS_19, rp_0_1, ss_C0 hS, ss_R0_1 hS, ss_C2 hS, pS_dryLots_9, stp_invokevirtual, qmS_96, cy_L_size, pS_dryLots_12, stp_if_icmp_ge, pS_dryLots_15, pS_dryLots_16, pS_dryLots_17, qfS_33, rp_0_3, ss_R0_3 hS, ss_C4 hS, pS_dryLots_20, pS_dryLots_21, pS_dryLots_24, pS_dryLots_25, qmS_277, cy_L_get, pS_dryLots_28, stp_checkcast, qtS_132, pS_dryLots_31, pS_dryLots_32, qfS_71, rp_0_9, pS_dryLots_35, qmS_179, cy_B_isDry, pS_dryLots_38, stp_ifCond_eq, pS_dryLots_41, pS_dryLots_42, stp_goto, pS_dryLots_45, pS_dryLots_46, stp_iadd, pS_dryLots_47, pS_dryLots_48, stp_iinc, pS_dryLots_51, pS_dryLots_54, pS_dryLots_55, stp_ireturn, ic_0, ic_1, nv_S_dryLots, ml_S_dryLots, hs.1, hs.2.1, hs.2.2.1, rs, rg, ru, q1, hl1, hl2, hl3, e9, nI_1]
    exact ih
  · simp only [cntN, hb, bI_1] at ih
    rw [hb] at ru
    simp only [reduceCtorEq, fv0, fv1, fv2, fv3, bI_0, bI_1, bft, MSh_sI_eq, fsP_T, inL_0, inL_s, pad_0, pad_n, pad_s, wpn_s, wp1_s, lg_0, lg_s, lset_0, lset_s, kil_0, kil_s, st1_s, st2_s, isL_i, isL_l, isL_r, isL_n, spl_0, spl_s, cll_n, cll_s, catS_0, catS_s, jmp_s, alk_0, alk_s, otl_n, otl_s, List.nil_append, List.cons_append, List.contains_cons, List.contains_nil, Nat.reduceBEq, Bool.or_false, Bool.false_or, Bool.or_self, Bool.false_eq_true, Bool.true_or, Bool.or_true, if_true, if_false, ite_true, ite_false, ↓reduceIte, List.length_cons, List.length_nil, Nat.reduceAdd, Nat.reduceLT, Nat.reduceLeDiff, Nat.reduceEqDiff, Int.reduceAdd, Int.reduceLE, Int.toNat_natCast, Int.reduceToNat, Int.cast_ofNat_Int, true_and, and_true, false_and, and_false, true_implies, forall_const, eq_self, and_self, or_true, true_or, or_self, false_or, or_false, yI_sI, yR_sI, yC_sI, yN_sI, yI_sR, yR_sR, yC_sR, yN_sR, not_true_eq_false, not_false_eq_true, false_implies, implies_true, Nat.zero_add, Nat.add_zero, Nat.le_refl, Nat.reduceSub, Int.reduceSub, Int.reduceLT, Int.sub_zero, Int.sub_self, List.getElem?_toArray, List.getElem?_cons_zero, List.getElem?_cons_succ, Int.toNat_zero, Int.toNat_one, Int.lt_irrefl, yI_sB, yR_sB, yC_sB, yN_sB, MSh_sB_eq, pS_dryLots_0, stp_iconst, pS_dryLots_1, stp_istore_n, pS_dryLots_2, pS_dryLots_3, pS_dryLots_4, stp_iload_n, pS_dryLots_5, stp_aload_n, pS_dryLots_6, stp_getfield, qfS_19, rp_0_1, ss_C0 hS, ss_R0_1 hS, ss_C2 hS, pS_dryLots_9, stp_invokevirtual, qmS_96, cy_L_size, pS_dryLots_12, stp_if_icmp_ge, pS_dryLots_15, pS_dryLots_16, pS_dryLots_17, qfS_33, rp_0_3, ss_R0_3 hS, ss_C4 hS, pS_dryLots_20, pS_dryLots_21, pS_dryLots_24, pS_dryLots_25, qmS_277, cy_L_get, pS_dryLots_28, stp_checkcast, qtS_132, pS_dryLots_31, pS_dryLots_32, qfS_71, rp_0_9, pS_dryLots_35, qmS_179, cy_B_isDry, pS_dryLots_38, stp_ifCond_eq, pS_dryLots_41, pS_dryLots_42, stp_goto, pS_dryLots_45, pS_dryLots_46, stp_iadd, pS_dryLots_47, pS_dryLots_48, stp_iinc, pS_dryLots_51, pS_dryLots_54, pS_dryLots_55, stp_ireturn, ic_0, ic_1, nv_S_dryLots, ml_S_dryLots, hs.1, hs.2.1, hs.2.2.1, rs, rg, ru, q1, t1, hl1, hl2, hl3, e9, nI_1]
    exact ih
set_option maxRecDepth 100000 in
set_option maxHeartbeats 4000000 in
theorem lpS_dryLots (hl : 7 ≤ n) (hC : Cpr w) (hQ : Q (some (.inl (cntN (ctD w) (cn w 17)))) w) : ∀ c i, i + c = cn w 17 → WP l G mS_dryLots n 0 0 Q 4 [some (.inr (.inr (some (0, 0)))), some (.inl (cntN (ctD w) i)), some (.inl (nI i))] [] w 0 0
  | 0, i, hi => by
    have e : i = cn w 17 := hi
    subst e
    have hP : Cpl w := hC.1
    have hS := hP.1
    have rs := ruL_size hP.2.2.2.1
    have hl3 : lvL_size < n := by show 1 < n; omega
    refine wpn_ok (M := mS_dryLots) (C := cenS) (X := (alk [(96, lvL_size, fsL_size)])) (tb := tS_dryLots) (st := [4]) eoS (XOk_cons qmS_96 (okL_size l G) XOk_nil) kS_dryLots 60 _ _ _ _ _ _ ?_
    simp only [reduceCtorEq, fv0, fv1, fv2, fv3, bI_0, bI_1, bft, MSh_sI_eq, fsP_T, inL_0, inL_s, pad_0, pad_n, pad_s, wpn_s, wp1_s, lg_0, lg_s, lset_0, lset_s, kil_0, kil_s, st1_s, st2_s, isL_i, isL_l, isL_r, isL_n, spl_0, spl_s, cll_n, cll_s, catS_0, catS_s, jmp_s, alk_0, alk_s, otl_n, otl_s, List.nil_append, List.cons_append, List.contains_cons, List.contains_nil, Nat.reduceBEq, Bool.or_false, Bool.false_or, Bool.or_self, Bool.false_eq_true, Bool.true_or, Bool.or_true, if_true, if_false, ite_true, ite_false, ↓reduceIte, List.length_cons, List.length_nil, Nat.reduceAdd, Nat.reduceLT, Nat.reduceLeDiff, Nat.reduceEqDiff, Int.reduceAdd, Int.reduceLE, Int.toNat_natCast, Int.reduceToNat, Int.cast_ofNat_Int, true_and, and_true, false_and, and_false, true_implies, forall_const, eq_self, and_self, or_true, true_or, or_self, false_or, or_false, yI_sI, yR_sI, yC_sI, yN_sI, yI_sR, yR_sR, yC_sR, yN_sR, not_true_eq_false, not_false_eq_true, false_implies, implies_true, Nat.zero_add, Nat.add_zero, Nat.le_refl, Nat.reduceSub, Int.reduceSub, Int.reduceLT, Int.sub_zero, Int.sub_self, List.getElem?_toArray, List.getElem?_cons_zero, List.getElem?_cons_succ, Int.toNat_zero, Int.toNat_one, Int.lt_irrefl, yI_sB, yR_sB, yC_sB, yN_sB, MSh_sB_eq, pS_dryLots_0, stp_iconst, pS_dryLots_1, stp_istore_n, pS_dryLots_2, pS_dryLots_3, pS_dryLots_4, stp_iload_n, pS_dryLots_5, stp_aload_n, pS_dryLots_6, stp_getfield, qfS_19, rp_0_1, ss_C0 hS, ss_R0_1 hS, ss_C2 hS, pS_dryLots_9, stp_invokevirtual, qmS_96, cy_L_size, pS_dryLots_12, stp_if_icmp_ge, pS_dryLots_15, pS_dryLots_16, pS_dryLots_17, qfS_33, rp_0_3, ss_R0_3 hS, ss_C4 hS, pS_dryLots_20, pS_dryLots_21, pS_dryLots_24, pS_dryLots_25, qmS_277, cy_L_get, pS_dryLots_28, stp_checkcast, qtS_132, pS_dryLots_31, pS_dryLots_32, qfS_71, rp_0_9, pS_dryLots_35, qmS_179, cy_B_isDry, pS_dryLots_38, stp_ifCond_eq, pS_dryLots_41, pS_dryLots_42, stp_goto, pS_dryLots_45, pS_dryLots_46, stp_iadd, pS_dryLots_47, pS_dryLots_48, stp_iinc, pS_dryLots_51, pS_dryLots_54, pS_dryLots_55, stp_ireturn, ic_0, ic_1, nv_S_dryLots, ml_S_dryLots, rs, hl3, Int32.le_refl]
    exact hQ
  | c + 1, i, hi => stS_dryLots hl hC (by omega) (lpS_dryLots hl hC hQ c (i + 1) (by omega))
end
abbrev lvS_dryLots : Nat := 7
noncomputable def fsS_dryLots : FS := fun as w => match as with
  | [.inr (.inr (some (0, 0)))] => fsP (Cpr w) (some (.inl (cntN (ctD w) (cn w 17))), w)
  | _ => none
set_option maxRecDepth 100000 in
set_option maxHeartbeats 4000000 in
theorem okS_dryLots (l : Launch) (G : Gc) : FsOk l G mS_dryLots lvS_dryLots fsS_dryLots := by
  intro as w r w' h
  simp only [fsS_dryLots] at h
  split at h
  · obtain ⟨hC, h⟩ := fsP_s h
    cases h
    have hP : Cpl w := hC.1
    have hS := hP.1
    refine Sem_of (by decide) rfl (Nat.le_of_ble_eq_true rfl) ?_
    refine wpn_ok (M := mS_dryLots) (C := cenS) (X := (alk [])) (tb := tS_dryLots) (st := [4]) eoS XOk_nil kS_dryLots 60 _ _ _ _ _ _ ?_
    simp only [reduceCtorEq, fv0, fv1, fv2, fv3, bI_0, bI_1, bft, MSh_sI_eq, fsP_T, inL_0, inL_s, pad_0, pad_n, pad_s, wpn_s, wp1_s, lg_0, lg_s, lset_0, lset_s, kil_0, kil_s, st1_s, st2_s, isL_i, isL_l, isL_r, isL_n, spl_0, spl_s, cll_n, cll_s, catS_0, catS_s, jmp_s, alk_0, alk_s, otl_n, otl_s, List.nil_append, List.cons_append, List.contains_cons, List.contains_nil, Nat.reduceBEq, Bool.or_false, Bool.false_or, Bool.or_self, Bool.false_eq_true, Bool.true_or, Bool.or_true, if_true, if_false, ite_true, ite_false, ↓reduceIte, List.length_cons, List.length_nil, Nat.reduceAdd, Nat.reduceLT, Nat.reduceLeDiff, Nat.reduceEqDiff, Int.reduceAdd, Int.reduceLE, Int.toNat_natCast, Int.reduceToNat, Int.cast_ofNat_Int, true_and, and_true, false_and, and_false, true_implies, forall_const, eq_self, and_self, or_true, true_or, or_self, false_or, or_false, yI_sI, yR_sI, yC_sI, yN_sI, yI_sR, yR_sR, yC_sR, yN_sR, not_true_eq_false, not_false_eq_true, false_implies, implies_true, Nat.zero_add, Nat.add_zero, Nat.le_refl, Nat.reduceSub, Int.reduceSub, Int.reduceLT, Int.sub_zero, Int.sub_self, List.getElem?_toArray, List.getElem?_cons_zero, List.getElem?_cons_succ, Int.toNat_zero, Int.toNat_one, Int.lt_irrefl, yI_sB, yR_sB, yC_sB, yN_sB, MSh_sB_eq, pS_dryLots_0, stp_iconst, pS_dryLots_1, stp_istore_n, pS_dryLots_2, pS_dryLots_3, pS_dryLots_4, stp_iload_n, pS_dryLots_5, stp_aload_n, pS_dryLots_6, stp_getfield, qfS_19, rp_0_1, ss_C0 hS, ss_R0_1 hS, ss_C2 hS, pS_dryLots_9, stp_invokevirtual, qmS_96, cy_L_size, pS_dryLots_12, stp_if_icmp_ge, pS_dryLots_15, pS_dryLots_16, pS_dryLots_17, qfS_33, rp_0_3, ss_R0_3 hS, ss_C4 hS, pS_dryLots_20, pS_dryLots_21, pS_dryLots_24, pS_dryLots_25, qmS_277, cy_L_get, pS_dryLots_28, stp_checkcast, qtS_132, pS_dryLots_31, pS_dryLots_32, qfS_71, rp_0_9, pS_dryLots_35, qmS_179, cy_B_isDry, pS_dryLots_38, stp_ifCond_eq, pS_dryLots_41, pS_dryLots_42, stp_goto, pS_dryLots_45, pS_dryLots_46, stp_iadd, pS_dryLots_47, pS_dryLots_48, stp_iinc, pS_dryLots_51, pS_dryLots_54, pS_dryLots_55, stp_ireturn, ic_0, ic_1, nv_S_dryLots, ml_S_dryLots]
    exact lpS_dryLots (Nat.le_refl _) hC ⟨rfl, rfl⟩ (cn w 17) 0 (by omega)
  · cases h
theorem ruS_dryLots {w : Wd} (h : Cpr w) : fsS_dryLots [.inr (.inr (some (0, 0)))] w = some (some (.inl (cntN (ctD w) (cn w 17))), w) := fsP_t h
