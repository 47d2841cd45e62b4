/-! heads at the hooks; scales settled -/
section
variable {l : Launch} {G : Gc} {n : Nat} {Q : Option AV → Wd → Prop} {w : Wd}
set_option maxRecDepth 100000 in
set_option maxHeartbeats 4000000 in
theorem stS_headsAtHooks {i : Nat} (hl : 4 ≤ n) (hP : Cpl w) (hi : i < cn w 17) (ih : WP l G mS_headsAtHooks n 0 0 Q 4 [some (.inr (.inr (some (0, 0)))), some (.inl (sumN (ctH w) (i + 1))), some (.inl (nI (i + 1)))] [] w 0 0) : WP l G mS_headsAtHooks n 0 0 Q 4 [some (.inr (.inr (some (0, 0)))), some (.inl (sumN (ctH w) i)), some (.inl (nI i))] [] w 0 0 := by
  have hS := hP.1
  have h24 := hP.2.1.2.2.2.1.2
  have rs := ruL_size hP.2.2.2.1
  have rg : fsL_get [.inr (.inr (some (2, 1))), .inl (nI i)] w = some (some (.inr (.inr (some (10, i)))), w) := ruL_get hP.2.2.2.1 hi
  obtain ⟨hs, hc⟩ := Cpl_lot hP hi
  have q1 : ¬ nI (cn w 17) ≤ nI i := nI_ge hi (by omega)
  have t1 : ¬ (1 : Int32) = 0 := by decide
  have e5 := hc.2.2.2.2.1
  have rk := ruS_isIn (k := 3) hP hi
  rw [kd_at hP.2.1 hi] at rk
  have hl1 : lvL_size < n := by show 1 < n; omega
  have hl2 : lvL_get < n := by show 3 < n; omega
  have hl3 : lvS_isIn < n := by unfold lvS_isIn; omega
  refine wpn_ok (M := mS_headsAtHooks) (C := cenS) (X := (alk [(96, lvL_size, fsL_size), (277, lvL_get, fsL_get), (148, lvS_isIn, fsS_isIn)])) (tb := tS_headsAtHooks) (st := [4]) eoS (XOk_cons qmS_96 (okL_size l G) (XOk_cons qmS_277 (okL_get l G) (XOk_cons qmS_148 (okS_isIn l G) XOk_nil))) kS_headsAtHooks 60 _ _ _ _ _ _ ?_
  by_cases c : ¬ wI w 123 0 i = -1 ∧ wI w 104 0 (wI w 123 0 i).toNatClampNeg = 3
  · rw [if_neg c.1, c.2] at rk
    simp only [decide_true] at rk
    have e : ctH w i = wI w 120 0 i := if_pos c
    rw [sumN, e] at ih
    simp only [reduceCtorEq, fv0, fv1, fv2, fv3, bI_0, bI_1, bft, MSh_sI_eq, fsP_T, inL_0, inL_s, pad_0, pad_n, pad_s, wpn_s, wp1_s, lg_0, lg_s, lset_0, lset_s, kil_0, kil_s, st1_s, st2_s, isL_i, isL_l, isL_r, isL_n, spl_0, spl_s, cll_n, cll_s, catS_0, catS_s, jmp_s, alk_0, alk_s, otl_n, otl_s, List.nil_append, List.cons_append, List.contains_cons, List.contains_nil, Nat.reduceBEq, Bool.or_false, Bool.false_or, Bool.or_self, Bool.false_eq_true, Bool.true_or, Bool.or_true, if_true, if_false, ite_true, ite_false, ↓reduceIte, List.length_cons, List.length_nil, Nat.reduceAdd, Nat.reduceLT, Nat.reduceLeDiff, Nat.reduceEqDiff, Int.reduceAdd, Int.reduceLE, Int.toNat_natCast, Int.reduceToNat, Int.cast_ofNat_Int, true_and, and_true, false_and, and_false, true_implies, forall_const, eq_self, and_self, or_true, true_or, or_self, false_or, or_false, yI_sI, yR_sI, yC_sI, yN_sI, yI_sR, yR_sR, yC_sR, yN_sR, not_true_eq_false, not_false_eq_true, false_implies, implies_true, Nat.zero_add, Nat.add_zero, Nat.le_refl, Nat.reduceSub, Int.reduceSub, Int.reduceLT, Int.sub_zero, Int.sub_self, List.getElem?_toArray, List.getElem?_cons_zero, List.getElem?_cons_succ, Int.toNat_zero, Int.toNat_one, Int.lt_irrefl, yI_sB, yR_sB, yC_sB, yN_sB, MSh_sB_eq, pS_headsAtHooks_0, stp_iconst, pS_headsAtHooks_1, stp_istore_n, pS_headsAtHooks_2, pS_headsAtHooks_3, pS_headsAtHooks_4, stp_iload_n, pS_headsAtHooks_5, stp_aload_n, pS_headsAtHooks_6, stp_getfield, qfS_19, rp_0_1, ss_C0 hS, ss_R0_1 hS, ss_C2 hS, pS_headsAtHooks_9, stp_invokevirtual, qmS_96, cy_L_size, pS_headsAtHooks_12, stp_if_icmp_ge, pS_headsAtHooks_15, pS_headsAtHooks_16, pS_headsAtHooks_17, pS_headsAtHooks_18, pS_headsAtHooks_21, pS_headsAtHooks_22, qmS_277, cy_L_get, pS_headsAtHooks_25, stp_checkcast, qtS_132, pS_headsAtHooks_28, pS_headsAtHooks_29, qmS_148, cy_S_isIn, pS_headsAtHooks_32, stp_ifCond_eq, pS_headsAtHooks_35, pS_headsAtHooks_36, pS_headsAtHooks_39, pS_headsAtHooks_40, pS_headsAtHooks_43, pS_headsAtHooks_46, qfS_152, rp_10_5, pS_headsAtHooks_49, stp_goto, pS_headsAtHooks_52, pS_headsAtHooks_53, stp_iadd, pS_headsAtHooks_54, pS_headsAtHooks_55, stp_iinc, pS_headsAtHooks_58, pS_headsAtHooks_61, pS_headsAtHooks_62, stp_ireturn, ic_0, ic_3, ic_1, nv_S_headsAtHooks, ml_S_headsAtHooks, hs.1, rs, rg, rk, e5, q1, t1, hl1, hl2, hl3, nI_1]
    exact ih
  · have e : ctH w i = 0 := if_neg c
    have z : decide ((if wI w 123 0 i = -1 then -1 else wI w 104 0 (wI w 123 0 i).toNatClampNeg) = 3) = false := by
      rw [decide_eq_false_iff_not]
      by_cases d : wI w 123 0 i = -1
      · rw [if_pos d]; decide
      · rw [if_neg d]; exact fun q => c ⟨d, q⟩
    rw [z] at rk
    rw [sumN, e] at ih
    simp only [reduceCtorEq, fv0, fv1, fv2, fv3, bI_0, bI_1, bft, MSh_sI_eq, fsP_T, inL_0, inL_s, pad_0, pad_n, pad_s, wpn_s, wp1_s, lg_0, lg_s, lset_0, lset_s, kil_0, kil_s, st1_s, st2_s, isL_i, isL_l, isL_r, isL_n, spl_0, spl_s, cll_n, cll_s, catS_0, catS_s, jmp_s, alk_0, alk_s, otl_n, otl_s, List.nil_append, List.cons_append, List.contains_cons, List.contains_nil, Nat.reduceBEq, Bool.or_false, Bool.false_or, Bool.or_self, Bool.false_eq_true, Bool.true_or, Bool.or_true, if_true, if_false, ite_true, ite_false, ↓reduceIte, List.length_cons, List.length_nil, Nat.reduceAdd, Nat.reduceLT, Nat.reduceLeDiff, Nat.reduceEqDiff, Int.reduceAdd, Int.reduceLE, Int.toNat_natCast, Int.reduceToNat, Int.cast_ofNat_Int, true_and, and_true, false_and, and_false, true_implies, forall_const, eq_self, and_self, or_true, true_or, or_self, false_or, or_false, yI_sI, yR_sI, yC_sI, yN_sI, yI_sR, yR_sR, yC_sR, yN_sR, not_true_eq_false, not_false_eq_true, false_implies, implies_true, Nat.zero_add, Nat.add_zero, Nat.le_refl, Nat.reduceSub, Int.reduceSub, Int.reduceLT, Int.sub_zero, Int.sub_self, List.getElem?_toArray, List.getElem?_cons_zero, List.getElem?_cons_succ, Int.toNat_zero, Int.toNat_one, Int.lt_irrefl, yI_sB, yR_sB, yC_sB, yN_sB, MSh_sB_eq, pS_headsAtHooks_0, stp_iconst, pS_headsAtHooks_1, stp_istore_n, pS_headsAtHooks_2, pS_headsAtHooks_3, pS_headsAtHooks_4, stp_iload_n, pS_headsAtHooks_5, stp_aload_n, pS_headsAtHooks_6, stp_getfield, qfS_19, rp_0_1, ss_C0 hS, ss_R0_1 hS, ss_C2 hS, pS_headsAtHooks_9, stp_invokevirtual, qmS_96, cy_L_size, pS_headsAtHooks_12, stp_if_icmp_ge, pS_headsAtHooks_15, pS_headsAtHooks_16, pS_headsAtHooks_17, pS_headsAtHooks_18, pS_headsAtHooks_21, pS_headsAtHooks_22, qmS_277, cy_L_get, pS_headsAtHooks_25, stp_checkcast, qtS_132, pS_headsAtHooks_28, pS_headsAtHooks_29, qmS_148, cy_S_isIn, pS_headsAtHooks_32, stp_ifCond_eq, pS_headsAtHooks_35, pS_headsAtHooks_36, pS_headsAtHooks_39, pS_headsAtHooks_40, pS_headsAtHooks_43, pS_headsAtHooks_46, qfS_152, rp_10_5, pS_headsAtHooks_49, stp_goto, pS_headsAtHooks_52, pS_headsAtHooks_53, stp_iadd, pS_headsAtHooks_54, pS_headsAtHooks_55, stp_iinc, pS_headsAtHooks_58, pS_headsAtHooks_61, pS_headsAtHooks_62, stp_ireturn, ic_0, ic_3, ic_1, nv_S_headsAtHooks, ml_S_headsAtHooks, hs.1, rs, rg, rk, e5, q1, t1, hl1, hl2, hl3, nI_1]
    exact ih
set_option maxRecDepth 100000 in
set_option maxHeartbeats 4000000 in
theorem lpS_headsAtHooks (hl : 4 ≤ n) (hP : Cpl w) (hQ : Q (some (.inl (sumN (ctH w) (cn w 17)))) w) : ∀ c i, i + c = cn w 17 → WP l G mS_headsAtHooks n 0 0 Q 4 [some (.inr (.inr (some (0, 0)))), some (.inl (sumN (ctH w) i)), some (.inl (nI i))] [] w 0 0
  | 0, i, hi => by
    have e : i = cn w 17 := hi
    subst e
    have hS := hP.1
    have rs := ruL_size hP.2.2.2.1
    have hl3 : lvL_size < n := by show 1 < n; omega
    refine wpn_ok (M := mS_headsAtHooks) (C := cenS) (X := (alk [(96, lvL_size, fsL_size)])) (tb := tS_headsAtHooks) (st := [4]) eoS (XOk_cons qmS_96 (okL_size l G) XOk_nil) kS_headsAtHooks 60 _ _ _ _ _ _ ?_
    simp only [reduceCtorEq, fv0, fv1, fv2, fv3, bI_0, bI_1, bft, MSh_sI_eq, fsP_T, inL_0, inL_s, pad_0, pad_n, pad_s, wpn_s, wp1_s, lg_0, lg_s, lset_0, lset_s, kil_0, kil_s, st1_s, st2_s, isL_i, isL_l, isL_r, isL_n, spl_0, spl_s, cll_n, cll_s, catS_0, catS_s, jmp_s, alk_0, alk_s, otl_n, otl_s, List.nil_append, List.cons_append, List.contains_cons, List.contains_nil, Nat.reduceBEq, Bool.or_false, Bool.false_or, Bool.or_self, Bool.false_eq_true, Bool.true_or, Bool.or_true, if_true, if_false, ite_true, ite_false, ↓reduceIte, List.length_cons, List.length_nil, Nat.reduceAdd, Nat.reduceLT, Nat.reduceLeDiff, Nat.reduceEqDiff, Int.reduceAdd, Int.reduceLE, Int.toNat_natCast, Int.reduceToNat, Int.cast_ofNat_Int, true_and, and_true, false_and, and_false, true_implies, forall_const, eq_self, and_self, or_true, true_or, or_self, false_or, or_false, yI_sI, yR_sI, yC_sI, yN_sI, yI_sR, yR_sR, yC_sR, yN_sR, not_true_eq_false, not_false_eq_true, false_implies, implies_true, Nat.zero_add, Nat.add_zero, Nat.le_refl, Nat.reduceSub, Int.reduceSub, Int.reduceLT, Int.sub_zero, Int.sub_self, List.getElem?_toArray, List.getElem?_cons_zero, List.getElem?_cons_succ, Int.toNat_zero, Int.toNat_one, Int.lt_irrefl, yI_sB, yR_sB, yC_sB, yN_sB, MSh_sB_eq, pS_headsAtHooks_0, stp_iconst, pS_headsAtHooks_1, stp_istore_n, pS_headsAtHooks_2, pS_headsAtHooks_3, pS_headsAtHooks_4, stp_iload_n, pS_headsAtHooks_5, stp_aload_n, pS_headsAtHooks_6, stp_getfield, qfS_19, rp_0_1, ss_C0 hS, ss_R0_1 hS, ss_C2 hS, pS_headsAtHooks_9, stp_invokevirtual, qmS_96, cy_L_size, pS_headsAtHooks_12, stp_if_icmp_ge, pS_headsAtHooks_15, pS_headsAtHooks_16, pS_headsAtHooks_17, pS_headsAtHooks_18, pS_headsAtHooks_21, pS_headsAtHooks_22, qmS_277, cy_L_get, pS_headsAtHooks_25, stp_checkcast, qtS_132, pS_headsAtHooks_28, pS_headsAtHooks_29, qmS_148, cy_S_isIn, pS_headsAtHooks_32, stp_ifCond_eq, pS_headsAtHooks_35, pS_headsAtHooks_36, pS_headsAtHooks_39, pS_headsAtHooks_40, pS_headsAtHooks_43, pS_headsAtHooks_46, qfS_152, rp_10_5, pS_headsAtHooks_49, stp_goto, pS_headsAtHooks_52, pS_headsAtHooks_53, stp_iadd, pS_headsAtHooks_54, pS_headsAtHooks_55, stp_iinc, pS_headsAtHooks_58, pS_headsAtHooks_61, pS_headsAtHooks_62, stp_ireturn, ic_0, ic_3, ic_1, nv_S_headsAtHooks, ml_S_headsAtHooks, rs, hl3, Int32.le_refl]
    exact hQ
  | c + 1, i, hi => stS_headsAtHooks hl hP (by omega) (lpS_headsAtHooks hl hP hQ c (i + 1) (by omega))
end
abbrev lvS_headsAtHooks : Nat := 4
noncomputable def fsS_headsAtHooks : FS := fun as w => match as with
  | [.inr (.inr (some (0, 0)))] => fsP (Cpl w) (some (.inl (sumN (ctH w) (cn w 17))), w)
  | _ => none
set_option maxRecDepth 100000 in
set_option maxHeartbeats 4000000 in
theorem okS_headsAtHooks (l : Launch) (G : Gc) : FsOk l G mS_headsAtHooks lvS_headsAtHooks fsS_headsAtHooks := by
  intro as w r w' h
  simp only [fsS_headsAtHooks] at h
  split at h
  · obtain ⟨hP, h⟩ := fsP_s h
    cases h
    have hS := hP.1
    refine Sem_of (by decide) rfl (Nat.le_of_ble_eq_true rfl) ?_
    refine wpn_ok (M := mS_headsAtHooks) (C := cenS) (X := (alk [])) (tb := tS_headsAtHooks) (st := [4]) eoS XOk_nil kS_headsAtHooks 60 _ _ _ _ _ _ ?_
    simp only [reduceCtorEq, fv0, fv1, fv2, fv3, bI_0, bI_1, bft, MSh_sI_eq, fsP_T, inL_0, inL_s, pad_0, pad_n, pad_s, wpn_s, wp1_s, lg_0, lg_s, lset_0, lset_s, kil_0, kil_s, st1_s, st2_s, isL_i, isL_l, isL_r, isL_n, spl_0, spl_s, cll_n, cll_s, catS_0, catS_s, jmp_s, alk_0, alk_s, otl_n, otl_s, List.nil_append, List.cons_append, List.contains_cons, List.contains_nil, Nat.reduceBEq, Bool.or_false, Bool.false_or, Bool.or_self, Bool.false_eq_true, Bool.true_or, Bool.or_true, if_true, if_false, ite_true, ite_false, ↓reduceIte, List.length_cons, List.length_nil, Nat.reduceAdd, Nat.reduceLT, Nat.reduceLeDiff, Nat.reduceEqDiff, Int.reduceAdd, Int.reduceLE, Int.toNat_natCast, Int.reduceToNat, Int.cast_ofNat_Int, true_and, and_true, false_and, and_false, true_implies, forall_const, eq_self, and_self, or_true, true_or, or_self, false_or, or_false, yI_sI, yR_sI, yC_sI, yN_sI, yI_sR, yR_sR, yC_sR, yN_sR, not_true_eq_false, not_false_eq_true, false_implies, implies_true, Nat.zero_add, Nat.add_zero, Nat.le_refl, Nat.reduceSub, Int.reduceSub, Int.reduceLT, Int.sub_zero, Int.sub_self, List.getElem?_toArray, List.getElem?_cons_zero, List.getElem?_cons_succ, Int.toNat_zero, Int.toNat_one, Int.lt_irrefl, yI_sB, yR_sB, yC_sB, yN_sB, MSh_sB_eq, pS_headsAtHooks_0, stp_iconst, pS_headsAtHooks_1, stp_istore_n, pS_headsAtHooks_2, pS_headsAtHooks_3, pS_headsAtHooks_4, stp_iload_n, pS_headsAtHooks_5, stp_aload_n, pS_headsAtHooks_6, stp_getfield, qfS_19, rp_0_1, ss_C0 hS, ss_R0_1 hS, ss_C2 hS, pS_headsAtHooks_9, stp_invokevirtual, qmS_96, cy_L_size, pS_headsAtHooks_12, stp_if_icmp_ge, pS_headsAtHooks_15, pS_headsAtHooks_16, pS_headsAtHooks_17, pS_headsAtHooks_18, pS_headsAtHooks_21, pS_headsAtHooks_22, qmS_277, cy_L_get, pS_headsAtHooks_25, stp_checkcast, qtS_132, pS_headsAtHooks_28, pS_headsAtHooks_29, qmS_148, cy_S_isIn, pS_headsAtHooks_32, stp_ifCond_eq, pS_headsAtHooks_35, pS_headsAtHooks_36, pS_headsAtHooks_39, pS_headsAtHooks_40, pS_headsAtHooks_43, pS_headsAtHooks_46, qfS_152, rp_10_5, pS_headsAtHooks_49, stp_goto, pS_headsAtHooks_52, pS_headsAtHooks_53, stp_iadd, pS_headsAtHooks_54, pS_headsAtHooks_55, stp_iinc, pS_headsAtHooks_58, pS_headsAtHooks_61, pS_headsAtHooks_62, stp_ireturn, ic_0, ic_3, ic_1, nv_S_headsAtHooks, ml_S_headsAtHooks]
    exact lpS_headsAtHooks (Nat.le_refl _) hP ⟨rfl, rfl⟩ (cn w 17) 0 (by omega)
  · cases h
theorem ruS_headsAtHooks {w : Wd} (h : Cpl w) : fsS_headsAtHooks [.inr (.inr (some (0, 0)))] w = some (some (.inl (sumN (ctH w) (cn w 17))), w) := fsP_t h
