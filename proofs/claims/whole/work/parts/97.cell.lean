/-! one cell of the minutes, with an alley more -/
theorem mnN {a b : Nat} (ha : a < 2 ^ 31) (hb : b < 2 ^ 31) : (if nI b < nI a then nI b else nI a) = nI (min a b) := by
  by_cases c : b < a
  · rw [if_pos (nI_lt c ha), Nat.min_eq_right (by omega)]
  · rw [if_neg (nI_nlt (by omega) hb), Nat.min_eq_left (by omega)]
section
variable {l : Launch} {G : Gc} {n : Nat} {mc ms cu su : Nat} {Q : Option AV → Wd → Prop} {w : Wd}
set_option maxRecDepth 100000 in
set_option maxHeartbeats 4000000 in
theorem stY_cell {a b t i j : Nat} {M : Nat → Nat → Nat} {l6 l7 : Option AV} (hl : 2 < n) (hS : SSh w) (h3 : okc w 3 14) (hc : Cp0 w) (ha : a < cn w 3) (hb : b < cn w 3) (hi : i < cn w 3) (hj : j < cn w 3) (ht : t ≤ 30) (hM : ∀ p q, p < cn w 3 → q < cn w 3 → wI w 173 p q = nI (M p q) ∧ M p q ≤ 1000000) (ih : ∀ l6 l7, WP l G mY_addAlley n mc ms Q 33 [some (.inr (.inr (some (1, 0)))), some (.inl (nI a)), some (.inl (nI b)), some (.inl (nI t)), some (.inl (nI i)), some (.inl (nI (j + 1))), l6, l7] [] (sI w 173 i j (nI (min (M i j) (min (M i a + t + M b j) (M i b + t + M a j))))) cu su) : WP l G mY_addAlley n mc ms Q 33 [some (.inr (.inr (some (1, 0)))), some (.inl (nI a)), some (.inl (nI b)), some (.inl (nI t)), some (.inl (nI i)), some (.inl (nI j)), l6, l7] [] w cu su := by
  have h14 := h3.2
  have r4 : wI w 1 0 4 = nI (cn w 3) := hc.2.1.trans h3.1
  have r1 := ruY_minutesBetweenR hS h3 hc hi ha
  have r2 := ruY_minutesBetweenR hS h3 hc hb hj
  have r3 := ruY_minutesBetweenR hS h3 hc hi hb
  have r5 := ruY_minutesBetweenR hS h3 hc ha hj
  obtain ⟨m1, n1⟩ := hM i a hi ha
  obtain ⟨m2, n2⟩ := hM b j hb hj
  obtain ⟨m3, n3⟩ := hM i b hi hb
  obtain ⟨m4, n4⟩ := hM a j ha hj
  obtain ⟨m5, n5⟩ := hM i j hi hj
  rw [m1] at r1
  rw [m2] at r2
  rw [m3] at r3
  rw [m4] at r5
  have q1 : ¬ nI (cn w 3) ≤ nI j := nI_ge hj (by omega)
  have ci : (nI i).toNatClampNeg = i := nI_clamp (by omega)
  have cj : (nI j).toNatClampNeg = j := nI_clamp (by omega)
  have vi : vp_in (nI i) 14 := vp_in_nI (by omega) (by omega)
  have vj : vp_in (nI j) 14 := vp_in_nI (by omega) (by omega)
  have sm := ss_M hS (show i < 14 by omega)
  have sk := ss_K173 hS (show i < 14 by omega)
  have i14 : i < 14 := by omega
  have hl1 : lvY_minutesBetweenR < n := hl
  have ih := ih (some (.inl (nI (M i a + t + M b j)))) (some (.inl (nI (M i b + t + M a j))))
  refine wpn_ok (M := mY_addAlley) (C := cenY) (X := (alk [(48, lvY_minutesBetweenR, fsY_minutesBetweenR)])) (tb := tY_addAlley) (st := [33,103,106]) eoY (XOk_cons qmY_48 (okY_minutesBetweenR l G) XOk_nil) kY_addAlley 60 _ _ _ _ _ _ ?_
  simp only [reduceCtorEq, fv0, fv1, fv2, fv3, bI_0, bI_1, bft, MSh_sI_eq, fsP_T, inL_0, inL_s, pad_0, pad_n, pad_s, wpn_s, wp1_s, lg_0, lg_s, lset_0, lset_s, kil_0, kil_s, st1_s, st2_s, isL_i, isL_l, isL_r, isL_n, spl_0, spl_s, cll_n, cll_s, catS_0, catS_s, jmp_s, alk_0, alk_s, otl_n, otl_s, List.nil_append, List.cons_append, List.contains_cons, List.contains_nil, Nat.reduceBEq, Bool.or_false, Bool.false_or, Bool.or_self, Bool.false_eq_true, Bool.true_or, Bool.or_true, if_true, if_false, ite_true, ite_false, ↓reduceIte, List.length_cons, List.length_nil, Nat.reduceAdd, Nat.reduceLT, Nat.reduceLeDiff, Nat.reduceEqDiff, Int.reduceAdd, Int.reduceLE, Int.toNat_natCast, Int.reduceToNat, Int.cast_ofNat_Int, true_and, and_true, false_and, and_false, true_implies, forall_const, eq_self, and_self, or_true, true_or, or_self, false_or, or_false, yI_sI, yR_sI, yC_sI, yN_sI, yI_sR, yR_sR, yC_sR, yN_sR, not_true_eq_false, not_false_eq_true, false_implies, implies_true, Nat.zero_add, Nat.add_zero, Nat.le_refl, Nat.reduceSub, Int.reduceSub, Int.reduceLT, Int.sub_zero, Int.sub_self, List.getElem?_toArray, List.getElem?_cons_zero, List.getElem?_cons_succ, Int.toNat_zero, Int.toNat_one, Int.lt_irrefl, yI_sB, yR_sB, yC_sB, yN_sB, MSh_sB_eq, pY_addAlley_0, stp_aload_n, pY_addAlley_1, stp_getfield, qfY_12, rp_1_0, ss_C1 hS, ss_R1_0 hS, ss_C2 hS, pY_addAlley_4, pY_addAlley_7, stp_dup, pY_addAlley_8, stp_iload_n, pY_addAlley_9, pY_addAlley_10, pY_addAlley_11, stp_invokespecial, qmY_41, cy_A_init, pY_addAlley_14, stp_invokevirtual, qmY_44, cy_L_add1z, pY_addAlley_17, stp_pop, pY_addAlley_18, stp_iconst, pY_addAlley_19, stp_istore, pY_addAlley_21, stp_iload, pY_addAlley_23, pY_addAlley_24, qfY_30, rp_1_4, pY_addAlley_27, stp_if_icmp_ge, pY_addAlley_30, pY_addAlley_31, pY_addAlley_33, pY_addAlley_35, pY_addAlley_36, pY_addAlley_39, pY_addAlley_42, pY_addAlley_43, pY_addAlley_45, pY_addAlley_46, qmY_48, cy_Y_minutesBetween, pY_addAlley_49, pY_addAlley_50, stp_iadd, pY_addAlley_51, pY_addAlley_52, pY_addAlley_53, pY_addAlley_55, pY_addAlley_58, pY_addAlley_59, pY_addAlley_61, pY_addAlley_62, pY_addAlley_64, pY_addAlley_65, pY_addAlley_68, pY_addAlley_69, pY_addAlley_70, pY_addAlley_71, pY_addAlley_72, pY_addAlley_74, pY_addAlley_77, pY_addAlley_78, pY_addAlley_80, pY_addAlley_81, qfY_27, rp_1_3, ss_R1_3 hS, ss_C302 hS, ss_N302 hS, pY_addAlley_84, pY_addAlley_86, stp_aaload, pY_addAlley_87, pY_addAlley_89, pY_addAlley_90, pY_addAlley_93, pY_addAlley_95, pY_addAlley_96, pY_addAlley_98, stp_iaload, pY_addAlley_99, pY_addAlley_101, pY_addAlley_103, stp_invokestatic, qmY_52, pY_addAlley_106, pY_addAlley_109, stp_iastore, pY_addAlley_110, stp_iinc, pY_addAlley_113, stp_goto, pY_addAlley_116, pY_addAlley_119, pY_addAlley_122, pY_addAlley_123, pY_addAlley_126, qmY_57, cy_L_size, pY_addAlley_129, pY_addAlley_130, stp_isub, pY_addAlley_131, stp_ireturn, ic_0, ic_1, nv_Y_addAlley, ml_Y_addAlley, r4, r1, r2, r3, r5, m5, q1, ci, cj, vi, vj, sm, sk, ss_C173 hS, i14, hl1, nI_add]
  refine wp_min kY_addAlley pY_addAlley_103 wm_min_Y (Nat.le_of_ble_eq_true rfl) (by omega) ?_
  rw [mnN (by omega) (by omega)]
  refine wp_min kY_addAlley pY_addAlley_106 wm_min_Y (Nat.le_of_ble_eq_true rfl) (by omega) ?_
  rw [mnN (by omega) (by omega)]
  refine wpn_ok (M := mY_addAlley) (C := cenY) (X := (alk [])) (tb := tY_addAlley) (st := [33]) eoY XOk_nil kY_addAlley 60 _ _ _ _ _ _ ?_
  simp only [reduceCtorEq, fv0, fv1, fv2, fv3, bI_0, bI_1, bft, MSh_sI_eq, fsP_T, inL_0, inL_s, pad_0, pad_n, pad_s, wpn_s, wp1_s, lg_0, lg_s, lset_0, lset_s, kil_0, kil_s, st1_s, st2_s, isL_i, isL_l, isL_r, isL_n, spl_0, spl_s, cll_n, cll_s, catS_0, catS_s, jmp_s, alk_0, alk_s, otl_n, otl_s, List.nil_append, List.cons_append, List.contains_cons, List.contains_nil, Nat.reduceBEq, Bool.or_false, Bool.false_or, Bool.or_self, Bool.false_eq_true, Bool.true_or, Bool.or_true, if_true, if_false, ite_true, ite_false, ↓reduceIte, List.length_cons, List.length_nil, Nat.reduceAdd, Nat.reduceLT, Nat.reduceLeDiff, Nat.reduceEqDiff, Int.reduceAdd, Int.reduceLE, Int.toNat_natCast, Int.reduceToNat, Int.cast_ofNat_Int, true_and, and_true, false_and, and_false, true_implies, forall_const, eq_self, and_self, or_true, true_or, or_self, false_or, or_false, yI_sI, yR_sI, yC_sI, yN_sI, yI_sR, yR_sR, yC_sR, yN_sR, not_true_eq_false, not_false_eq_true, false_implies, implies_true, Nat.zero_add, Nat.add_zero, Nat.le_refl, Nat.reduceSub, Int.reduceSub, Int.reduceLT, Int.sub_zero, Int.sub_self, List.getElem?_toArray, List.getElem?_cons_zero, List.getElem?_cons_succ, Int.toNat_zero, Int.toNat_one, Int.lt_irrefl, yI_sB, yR_sB, yC_sB, yN_sB, MSh_sB_eq, pY_addAlley_0, stp_aload_n, pY_addAlley_1, stp_getfield, qfY_12, rp_1_0, ss_C1 hS, ss_R1_0 hS, ss_C2 hS, pY_addAlley_4, pY_addAlley_7, stp_dup, pY_addAlley_8, stp_iload_n, pY_addAlley_9, pY_addAlley_10, pY_addAlley_11, stp_invokespecial, qmY_41, cy_A_init, pY_addAlley_14, stp_invokevirtual, qmY_44, cy_L_add1z, pY_addAlley_17, stp_pop, pY_addAlley_18, stp_iconst, pY_addAlley_19, stp_istore, pY_addAlley_21, stp_iload, pY_addAlley_23, pY_addAlley_24, qfY_30, rp_1_4, pY_addAlley_27, stp_if_icmp_ge, pY_addAlley_30, pY_addAlley_31, pY_addAlley_33, pY_addAlley_35, pY_addAlley_36, pY_addAlley_39, pY_addAlley_42, pY_addAlley_43, pY_addAlley_45, pY_addAlley_46, qmY_48, cy_Y_minutesBetween, pY_addAlley_49, pY_addAlley_50, stp_iadd, pY_addAlley_51, pY_addAlley_52, pY_addAlley_53, pY_addAlley_55, pY_addAlley_58, pY_addAlley_59, pY_addAlley_61, pY_addAlley_62, pY_addAlley_64, pY_addAlley_65, pY_addAlley_68, pY_addAlley_69, pY_addAlley_70, pY_addAlley_71, pY_addAlley_72, pY_addAlley_74, pY_addAlley_77, pY_addAlley_78, pY_addAlley_80, pY_addAlley_81, qfY_27, rp_1_3, ss_R1_3 hS, ss_C302 hS, ss_N302 hS, pY_addAlley_84, pY_addAlley_86, stp_aaload, pY_addAlley_87, pY_addAlley_89, pY_addAlley_90, pY_addAlley_93, pY_addAlley_95, pY_addAlley_96, pY_addAlley_98, stp_iaload, pY_addAlley_99, pY_addAlley_101, pY_addAlley_103, stp_invokestatic, qmY_52, pY_addAlley_106, pY_addAlley_109, stp_iastore, pY_addAlley_110, stp_iinc, pY_addAlley_113, stp_goto, pY_addAlley_116, pY_addAlley_119, pY_addAlley_122, pY_addAlley_123, pY_addAlley_126, qmY_57, cy_L_size, pY_addAlley_129, pY_addAlley_130, stp_isub, pY_addAlley_131, stp_ireturn, ic_0, ic_1, nv_Y_addAlley, ml_Y_addAlley, ci, cj, vi, vj, sm, sk, ss_C173 hS, i14, nI_1]
  exact ih
end
