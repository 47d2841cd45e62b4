/-! calls: hold, see, said, holds, row, write -/
theorem in_le {x : Int32} {b : Nat} (hb : b < 2 ^ 30) (h : inR x 0 (nI b) = true) : ∃ j, j ≤ b ∧ x = nI j := by
  obtain ⟨h1, h2⟩ := inR_spec h
  obtain ⟨j, hj, rfl⟩ := nI_of h1
  refine ⟨j, ?_, rfl⟩
  rw [nI_ltI (by omega) (by omega)] at h2
  omega
theorem in01 {x : Int32} (h : inR x 0 1 = true) : x = 0 ∨ x = 1 := by
  obtain ⟨j, hj, rfl⟩ := in_le (b := 1) (by omega) h
  rcases (show j = 0 ∨ j = 1 by omega) with rfl | rfl
  · exact Or.inl rfl
  · exact Or.inr rfl
theorem in01T {x : Int32} (h : inR x 0 1 = true) : ((x = 0) = True) ∨ ((x = 0) = False ∧ (x = 1) = True) := by
  rcases in01 h with rfl | rfl
  · exact Or.inl (eq_true rfl)
  · exact Or.inr ⟨eq_false (by decide), eq_true rfl⟩
theorem in02 {x : Int32} (h : inR x 0 2 = true) : x = 0 ∨ x = 1 ∨ x = 2 := by
  obtain ⟨j, hj, rfl⟩ := in_le (b := 2) (by omega) h
  rcases (show j = 0 ∨ j = 1 ∨ j = 2 by omega) with rfl | rfl | rfl
  · exact Or.inl rfl
  · exact Or.inr (Or.inl rfl)
  · exact Or.inr (Or.inr rfl)
theorem in03 {x : Int32} (h : inR x 0 3 = true) : x = 0 ∨ x = 1 ∨ x = 2 ∨ x = 3 := by
  obtain ⟨j, hj, rfl⟩ := in_le (b := 3) (by omega) h
  rcases (show j = 0 ∨ j = 1 ∨ j = 2 ∨ j = 3 by omega) with rfl | rfl | rfl | rfl
  · exact Or.inl rfl
  · exact Or.inr (Or.inl rfl)
  · exact Or.inr (Or.inr (Or.inl rfl))
  · exact Or.inr (Or.inr (Or.inr rfl))
theorem kd01 {x : Int32} (h : inR x 0 3 = true) (h1 : x ≤ 1) : x = 0 ∨ x = 1 := by
  rcases in03 h with q | q | q | q
  · exact Or.inl q
  · exact Or.inr q
  · rw [q] at h1; exact absurd h1 (by decide)
  · rw [q] at h1; exact absurd h1 (by decide)
theorem nin {w : Wd} {x : Int32} {k b : Nat} (h : okc w k b) (hb : b < 2 ^ 30) (hc : inR x 0 (wI w 13 0 k - 1) = false) : x < 0 ∨ (¬ x < 0 ∧ nI (cn w k) ≤ x) := by
  by_cases q : x < 0
  · exact Or.inl q
  · refine Or.inr ⟨q, ?_⟩
    obtain ⟨j, hj, rfl⟩ := nI_of q
    rw [nI_leI (by have := h.2; omega) (by omega)]
    rcases Nat.lt_or_ge j (cn w k) with z | z
    · rw [okc_inR h hb z] at hc; cases hc
    · exact z
section
variable {l : Launch} {G : Gc} {c : Nat} {w : Wd}
theorem ho_inv {j : Nat} {x : Int32} (h : Inv c w) (hj : j < cn w 17) (h1 : wI w 128 0 j = -1) (hx : inR x 0 1 = true) : Inv (c + 1) (sI (sI w 10 j 3 x) 118 0 j x) := by
  have hL := iv_L h hj
  obtain ⟨a1, a2, a3, a4, a5, a6, a7, a8, a9, b1, b2, b3, b4, b5, b6, b7, b8, b9, d1, d2, d3, d4, d5⟩ := hL.2.1
  have g : ∀ t k i, ¬ (t = 10 ∧ k = j ∧ i = 3) → ¬ (t = 118 ∧ i = j) → wI (sI (sI w 10 j 3 x) 118 0 j x) t k i = wI w t k i := fun t k i n1 n2 => by
    rw [yI_sI, yI_sI, if_neg (by omega), if_neg (by omega)]
  have hx3 : inR x 0 3 = true := by rcases in01 hx with rfl | rfl <;> decide
  refine Inv_lot (w := w) (j := j) rfl (LtI_mk hL rfl (g _ _ _ (by omega) (by omega)) (g _ _ _ (by omega) (by omega)) ?_ (by rw [yI_sI, if_pos ⟨rfl, rfl, rfl⟩]; exact hx3) (WgC_cg (fun t ht => g t 0 j (by omega) (by omega)) hL.2.2.2.2.2.2) (fun t k i ht => g t k i (by omega) (by omega))) (okc_cg (g _ _ _ (by omega) (by omega)) (up38 h)) (by rw [cn_cg (g 13 0 38 (by omega) (by omega))]; exact Nat.le_refl _) (fun t k i hn hn2 => ?_) h
  · unfold LtC
    refine ⟨?_, ?_, ?_, ?_, ?_, ?_, ?_, ?_, ?_, ?_, ?_, ?_, ?_, ?_, ?_, ?_, ?_, ?_, ?_, ?_, ?_, ?_, ?_⟩ <;> (try simp only [yI_sI, Nat.reduceEqDiff, Nat.reduceAdd, Nat.reduceMul, reduceCtorEq, false_and, and_false, true_and, and_true, if_false, if_true, ite_false, ite_true, ↓reduceIte, eq_self, and_self, or_true, true_or, not_true_eq_false, false_implies, implies_true]) <;> (try assumption)
    exact fun z => absurd h1 z
  · exact g t k i (fun z => hn (by unfold LtK; omega)) (fun z => hn (by unfold LtK; omega))
set_option maxRecDepth 100000 in
set_option maxHeartbeats 4000000 in
theorem ca_hold (h : Inv c w) (hc : c < 1000) (v k : Int32) : Cok l G c w mS_hold mM_hold [.inl v, .inl k] := by
  have hS := iv_S h
  have hM := iv_M h
  have hl := iv_l h
  have hr := iv_r h
  have hy := iv_y h
  have h0 := iv_0 h
  obtain ⟨-, h3, h6, h17, hR, h63, h58, -⟩ := id hM
  refine ⟨18, by decide, Sem_of (by decide) rfl (Nat.le_of_ble_eq_true rfl) ?_⟩
  refine wpn_ok (M := mS_hold) (C := cenS) (X := (alk [(141, lvS_lotAt, fsS_lotAt), (217, lvE_isSold, fsE_isSold), (79, lvS_refuse, fsS_refuse)])) (tb := tS_hold) (st := []) eoS (XOk_cons qmS_141 (okS_lotAt l G) (XOk_cons qmS_217 (okE_isSold l G) (XOk_cons qmS_79 (okS_refuse l G) XOk_nil))) kS_hold 250 _ _ _ _ _ _ ?_
  cases h1 : inR v 0 (wI w 13 0 17 - 1)
  case false =>
    simp only [reduceCtorEq, fv0, fv1, fv2, fv3, bI_0, bI_1, bft, MSh_sI_eq, fsP_T, inL_0, inL_s, pad_0, pad_n, pad_s, wpn_s, wp1_s, lg_0, lg_s, lset_0, lset_s, kil_0, kil_s, st1_s, st2_s, isL_i, isL_l, isL_r, isL_n, spl_0, spl_s, cll_n, cll_s, catS_0, catS_s, jmp_s, alk_0, alk_s, otl_n, otl_s, List.nil_append, List.cons_append, List.contains_cons, List.contains_nil, Nat.reduceBEq, Bool.or_false, Bool.false_or, Bool.or_self, Bool.false_eq_true, Bool.true_or, Bool.or_true, if_true, if_false, ite_true, ite_false, ↓reduceIte, List.length_cons, List.length_nil, Nat.reduceAdd, Nat.reduceLT, Nat.reduceLeDiff, Nat.reduceEqDiff, Int.reduceAdd, Int.reduceLE, Int.toNat_natCast, Int.reduceToNat, Int.cast_ofNat_Int, true_and, and_true, false_and, and_false, true_implies, forall_const, eq_self, and_self, or_true, true_or, or_self, false_or, or_false, yI_sI, yR_sI, yC_sI, yN_sI, yI_sR, yR_sR, yC_sR, yN_sR, not_true_eq_false, not_false_eq_true, false_implies, implies_true, Nat.zero_add, Nat.add_zero, Nat.le_refl, Nat.reduceSub, Int.reduceSub, Int.reduceLT, Int.sub_zero, Int.sub_self, List.getElem?_toArray, List.getElem?_cons_zero, List.getElem?_cons_succ, Int.toNat_zero, Int.toNat_one, Int.lt_irrefl, yI_sB, yR_sB, yC_sB, yN_sB, MSh_sB_eq, pS_hold_0, stp_aload_n, pS_hold_1, stp_iload_n, pS_hold_2, stp_invokevirtual, qmS_141, cy_S_lotAt, ss_C0 hS, pS_hold_5, stp_astore_n, pS_hold_6, pS_hold_7, stp_ifnonnull, pS_hold_10, pS_hold_11, stp_bipush, pS_hold_13, qmS_79, cy_S_refuse, pS_hold_16, stp_ireturn, pS_hold_17, pS_hold_18, stp_getfield, qfS_145, rp_10_3, pS_hold_21, stp_ifCond_eq, pS_hold_24, pS_hold_25, pS_hold_28, stp_iconst, pS_hold_29, stp_if_icmp_eq, pS_hold_32, pS_hold_33, pS_hold_35, pS_hold_38, pS_hold_39, pS_hold_40, pS_hold_43, pS_hold_44, pS_hold_45, stp_if_icmp_ne, pS_hold_48, pS_hold_49, qfS_186, rp_10_2, pS_hold_52, qmS_217, cy_E_isSold, pS_hold_55, pS_hold_58, pS_hold_59, pS_hold_61, pS_hold_64, pS_hold_65, pS_hold_66, pS_hold_69, stp_istore, pS_hold_71, pS_hold_72, pS_hold_73, stp_putfield, fi_10_3, nr_10_3, pS_hold_76, stp_iload, pS_hold_78, bp_m3, ic_1, bp_m5, bp_m7, nv_S_hold, ml_S_hold, ruS_lotAt hl, h1, rfS_3 hS, lvS_lotAt, lvE_isSold, lvS_refuse]
    refine Pst_rf (d := fun w => dM_hold w v k) (v := fun w => wI w 118 0 v.toNatClampNeg) (W := fun w => sI w 118 0 v.toNatClampNeg k) (okM_hold l G) (by decide) (fun _ => rfl) h (b := 3) (by decide) rfl ?_
    show dM_hold w v k = _
    simp only [dM_hold, h1, if_true, if_false, ite_true, ite_false, ↓reduceIte, Bool.false_eq_true, Bool.true_eq_false, reduceCtorEq, not_true_eq_false, not_false_eq_true, eq_self]
    rfl
  case true =>
    obtain ⟨j, hj, ev⟩ := okc_in h17 (by omega) h1
    have ej : v.toNatClampNeg = j := by rw [ev]; exact nI_clamp (by have := h17.2; omega)
    obtain ⟨c10, c102, c11, -⟩ := (iv_L h hj).1
    have e3 := (iv_L h hj).2.1.2.2.1
    have e7 := (iv_L h hj).2.1.2.2.2.2.2.2.2.2.2.2.1
    have K := (iv_L h hj).2.2.2.2.2.1
    have rs : fsE_isSold [.inr (.inr (some (11, j)))] w = some (some (.inl (bI (!decide (wI w 11 j 7 = -1)))), w) := fsP_t c11
    by_cases h2 : wI w 118 0 j ≤ 1
    case neg =>
      have n0 : ¬ wI w 118 0 j = 0 := fun z => h2 (by rw [z]; decide)
      have n1 : ¬ wI w 118 0 j = 1 := fun z => h2 (by rw [z]; decide)
      all_goals
        simp only [reduceCtorEq, fv0, fv1, fv2, fv3, bI_0, bI_1, bft, MSh_sI_eq, fsP_T, inL_0, inL_s, pad_0, pad_n, pad_s, wpn_s, wp1_s, lg_0, lg_s, lset_0, lset_s, kil_0, kil_s, st1_s, st2_s, isL_i, isL_l, isL_r, isL_n, spl_0, spl_s, cll_n, cll_s, catS_0, catS_s, jmp_s, alk_0, alk_s, otl_n, otl_s, List.nil_append, List.cons_append, List.contains_cons, List.contains_nil, Nat.reduceBEq, Bool.or_false, Bool.false_or, Bool.or_self, Bool.false_eq_true, Bool.true_or, Bool.or_true, if_true, if_false, ite_true, ite_false, ↓reduceIte, List.length_cons, List.length_nil, Nat.reduceAdd, Nat.reduceLT, Nat.reduceLeDiff, Nat.reduceEqDiff, Int.reduceAdd, Int.reduceLE, Int.toNat_natCast, Int.reduceToNat, Int.cast_ofNat_Int, true_and, and_true, false_and, and_false, true_implies, forall_const, eq_self, and_self, or_true, true_or, or_self, false_or, or_false, yI_sI, yR_sI, yC_sI, yN_sI, yI_sR, yR_sR, yC_sR, yN_sR, not_true_eq_false, not_false_eq_true, false_implies, implies_true, Nat.zero_add, Nat.add_zero, Nat.le_refl, Nat.reduceSub, Int.reduceSub, Int.reduceLT, Int.sub_zero, Int.sub_self, List.getElem?_toArray, List.getElem?_cons_zero, List.getElem?_cons_succ, Int.toNat_zero, Int.toNat_one, Int.lt_irrefl, yI_sB, yR_sB, yC_sB, yN_sB, MSh_sB_eq, pS_hold_0, stp_aload_n, pS_hold_1, stp_iload_n, pS_hold_2, stp_invokevirtual, qmS_141, cy_S_lotAt, ss_C0 hS, pS_hold_5, stp_astore_n, pS_hold_6, pS_hold_7, stp_ifnonnull, pS_hold_10, pS_hold_11, stp_bipush, pS_hold_13, qmS_79, cy_S_refuse, pS_hold_16, stp_ireturn, pS_hold_17, pS_hold_18, stp_getfield, qfS_145, rp_10_3, pS_hold_21, stp_ifCond_eq, pS_hold_24, pS_hold_25, pS_hold_28, stp_iconst, pS_hold_29, stp_if_icmp_eq, pS_hold_32, pS_hold_33, pS_hold_35, pS_hold_38, pS_hold_39, pS_hold_40, pS_hold_43, pS_hold_44, pS_hold_45, stp_if_icmp_ne, pS_hold_48, pS_hold_49, qfS_186, rp_10_2, pS_hold_52, qmS_217, cy_E_isSold, pS_hold_55, pS_hold_58, pS_hold_59, pS_hold_61, pS_hold_64, pS_hold_65, pS_hold_66, pS_hold_69, stp_istore, pS_hold_71, pS_hold_72, pS_hold_73, stp_putfield, fi_10_3, nr_10_3, pS_hold_76, stp_iload, pS_hold_78, bp_m3, ic_1, bp_m5, bp_m7, nv_S_hold, ml_S_hold, ruS_lotAt hl, c10, e3, h1, ej, h2, n0, n1, rfS_5 hS, lvS_lotAt, lvE_isSold, lvS_refuse]
        refine Pst_rf (d := fun w => dM_hold w v k) (v := fun w => wI w 118 0 v.toNatClampNeg) (W := fun w => sI w 118 0 v.toNatClampNeg k) (okM_hold l G) (by decide) (fun _ => rfl) h (b := 5) (by decide) rfl ?_
        show dM_hold w v k = _
        simp only [dM_hold, h1, ej, h2, if_true, if_false, ite_true, ite_false, ↓reduceIte, Bool.false_eq_true, Bool.true_eq_false, reduceCtorEq, not_true_eq_false, not_false_eq_true, eq_self]
        rfl
    case pos =>
      rcases kd01 K h2 with k0 | k0
      all_goals
        cases h4 : inR k 0 1
        case false =>
          have n0 : ¬ k = 0 := fun z => by rw [z] at h4; revert h4; decide
          have n1 : ¬ k = 1 := fun z => by rw [z] at h4; revert h4; decide
          all_goals
            simp only [reduceCtorEq, fv0, fv1, fv2, fv3, bI_0, bI_1, bft, MSh_sI_eq, fsP_T, inL_0, inL_s, pad_0, pad_n, pad_s, wpn_s, wp1_s, lg_0, lg_s, lset_0, lset_s, kil_0, kil_s, st1_s, st2_s, isL_i, isL_l, isL_r, isL_n, spl_0, spl_s, cll_n, cll_s, catS_0, catS_s, jmp_s, alk_0, alk_s, otl_n, otl_s, List.nil_append, List.cons_append, List.contains_cons, List.contains_nil, Nat.reduceBEq, Bool.or_false, Bool.false_or, Bool.or_self, Bool.false_eq_true, Bool.true_or, Bool.or_true, if_true, if_false, ite_true, ite_false, ↓reduceIte, List.length_cons, List.length_nil, Nat.reduceAdd, Nat.reduceLT, Nat.reduceLeDiff, Nat.reduceEqDiff, Int.reduceAdd, Int.reduceLE, Int.toNat_natCast, Int.reduceToNat, Int.cast_ofNat_Int, true_and, and_true, false_and, and_false, true_implies, forall_const, eq_self, and_self, or_true, true_or, or_self, false_or, or_false, yI_sI, yR_sI, yC_sI, yN_sI, yI_sR, yR_sR, yC_sR, yN_sR, not_true_eq_false, not_false_eq_true, false_implies, implies_true, Nat.zero_add, Nat.add_zero, Nat.le_refl, Nat.reduceSub, Int.reduceSub, Int.reduceLT, Int.sub_zero, Int.sub_self, List.getElem?_toArray, List.getElem?_cons_zero, List.getElem?_cons_succ, Int.toNat_zero, Int.toNat_one, Int.lt_irrefl, yI_sB, yR_sB, yC_sB, yN_sB, MSh_sB_eq, pS_hold_0, stp_aload_n, pS_hold_1, stp_iload_n, pS_hold_2, stp_invokevirtual, qmS_141, cy_S_lotAt, ss_C0 hS, pS_hold_5, stp_astore_n, pS_hold_6, pS_hold_7, stp_ifnonnull, pS_hold_10, pS_hold_11, stp_bipush, pS_hold_13, qmS_79, cy_S_refuse, pS_hold_16, stp_ireturn, pS_hold_17, pS_hold_18, stp_getfield, qfS_145, rp_10_3, pS_hold_21, stp_ifCond_eq, pS_hold_24, pS_hold_25, pS_hold_28, stp_iconst, pS_hold_29, stp_if_icmp_eq, pS_hold_32, pS_hold_33, pS_hold_35, pS_hold_38, pS_hold_39, pS_hold_40, pS_hold_43, pS_hold_44, pS_hold_45, stp_if_icmp_ne, pS_hold_48, pS_hold_49, qfS_186, rp_10_2, pS_hold_52, qmS_217, cy_E_isSold, pS_hold_55, pS_hold_58, pS_hold_59, pS_hold_61, pS_hold_64, pS_hold_65, pS_hold_66, pS_hold_69, stp_istore, pS_hold_71, pS_hold_72, pS_hold_73, stp_putfield, fi_10_3, nr_10_3, pS_hold_76, stp_iload, pS_hold_78, bp_m3, ic_1, bp_m5, bp_m7, nv_S_hold, ml_S_hold, ruS_lotAt hl, c10, e3, k0, show ¬ (1 : Int32) = 0 by decide, h1, ej, h2, h4, n0, n1, rfS_7 hS, lvS_lotAt, lvE_isSold, lvS_refuse]
            refine Pst_rf (d := fun w => dM_hold w v k) (v := fun w => wI w 118 0 v.toNatClampNeg) (W := fun w => sI w 118 0 v.toNatClampNeg k) (okM_hold l G) (by decide) (fun _ => rfl) h (b := 7) (by decide) rfl ?_
            show dM_hold w v k = _
            simp only [dM_hold, h1, ej, h2, h4, if_true, if_false, ite_true, ite_false, ↓reduceIte, Bool.false_eq_true, Bool.true_eq_false, reduceCtorEq, not_true_eq_false, not_false_eq_true, eq_self]
            rfl
        case true =>
          rcases in01T h4 with q0 | q0
          all_goals
            by_cases h5 : wI w 128 0 j = -1
            case neg =>
              skip
              all_goals
                simp only [reduceCtorEq, fv0, fv1, fv2, fv3, bI_0, bI_1, bft, MSh_sI_eq, fsP_T, inL_0, inL_s, pad_0, pad_n, pad_s, wpn_s, wp1_s, lg_0, lg_s, lset_0, lset_s, kil_0, kil_s, st1_s, st2_s, isL_i, isL_l, isL_r, isL_n, spl_0, spl_s, cll_n, cll_s, catS_0, catS_s, jmp_s, alk_0, alk_s, otl_n, otl_s, List.nil_append, List.cons_append, List.contains_cons, List.contains_nil, Nat.reduceBEq, Bool.or_false, Bool.false_or, Bool.or_self, Bool.false_eq_true, Bool.true_or, Bool.or_true, if_true, if_false, ite_true, ite_false, ↓reduceIte, List.length_cons, List.length_nil, Nat.reduceAdd, Nat.reduceLT, Nat.reduceLeDiff, Nat.reduceEqDiff, Int.reduceAdd, Int.reduceLE, Int.toNat_natCast, Int.reduceToNat, Int.cast_ofNat_Int, true_and, and_true, false_and, and_false, true_implies, forall_const, eq_self, and_self, or_true, true_or, or_self, false_or, or_false, yI_sI, yR_sI, yC_sI, yN_sI, yI_sR, yR_sR, yC_sR, yN_sR, not_true_eq_false, not_false_eq_true, false_implies, implies_true, Nat.zero_add, Nat.add_zero, Nat.le_refl, Nat.reduceSub, Int.reduceSub, Int.reduceLT, Int.sub_zero, Int.sub_self, List.getElem?_toArray, List.getElem?_cons_zero, List.getElem?_cons_succ, Int.toNat_zero, Int.toNat_one, Int.lt_irrefl, yI_sB, yR_sB, yC_sB, yN_sB, MSh_sB_eq, pS_hold_0, stp_aload_n, pS_hold_1, stp_iload_n, pS_hold_2, stp_invokevirtual, qmS_141, cy_S_lotAt, ss_C0 hS, pS_hold_5, stp_astore_n, pS_hold_6, pS_hold_7, stp_ifnonnull, pS_hold_10, pS_hold_11, stp_bipush, pS_hold_13, qmS_79, cy_S_refuse, pS_hold_16, stp_ireturn, pS_hold_17, pS_hold_18, stp_getfield, qfS_145, rp_10_3, pS_hold_21, stp_ifCond_eq, pS_hold_24, pS_hold_25, pS_hold_28, stp_iconst, pS_hold_29, stp_if_icmp_eq, pS_hold_32, pS_hold_33, pS_hold_35, pS_hold_38, pS_hold_39, pS_hold_40, pS_hold_43, pS_hold_44, pS_hold_45, stp_if_icmp_ne, pS_hold_48, pS_hold_49, qfS_186, rp_10_2, pS_hold_52, qmS_217, cy_E_isSold, pS_hold_55, pS_hold_58, pS_hold_59, pS_hold_61, pS_hold_64, pS_hold_65, pS_hold_66, pS_hold_69, stp_istore, pS_hold_71, pS_hold_72, pS_hold_73, stp_putfield, fi_10_3, nr_10_3, pS_hold_76, stp_iload, pS_hold_78, bp_m3, ic_1, bp_m5, bp_m7, nv_S_hold, ml_S_hold, ruS_lotAt hl, c10, e3, k0, show ¬ (1 : Int32) = 0 by decide, c102, c11, e7, rs, h1, ej, h2, h4, h5, q0, decide_false, Bool.not_false, rfS_7 hS, lvS_lotAt, lvE_isSold, lvS_refuse]
                refine Pst_rf (d := fun w => dM_hold w v k) (v := fun w => wI w 118 0 v.toNatClampNeg) (W := fun w => sI w 118 0 v.toNatClampNeg k) (okM_hold l G) (by decide) (fun _ => rfl) h (b := 7) (by decide) rfl ?_
                show dM_hold w v k = _
                simp only [dM_hold, h1, ej, h2, h4, h5, if_true, if_false, ite_true, ite_false, ↓reduceIte, Bool.false_eq_true, Bool.true_eq_false, reduceCtorEq, not_true_eq_false, not_false_eq_true, eq_self]
                rfl
            case pos =>
              simp only [reduceCtorEq, fv0, fv1, fv2, fv3, bI_0, bI_1, bft, MSh_sI_eq, fsP_T, inL_0, inL_s, pad_0, pad_n, pad_s, wpn_s, wp1_s, lg_0, lg_s, lset_0, lset_s, kil_0, kil_s, st1_s, st2_s, isL_i, isL_l, isL_r, isL_n, spl_0, spl_s, cll_n, cll_s, catS_0, catS_s, jmp_s, alk_0, alk_s, otl_n, otl_s, List.nil_append, List.cons_append, List.contains_cons, List.contains_nil, Nat.reduceBEq, Bool.or_false, Bool.false_or, Bool.or_self, Bool.false_eq_true, Bool.true_or, Bool.or_true, if_true, if_false, ite_true, ite_false, ↓reduceIte, List.length_cons, List.length_nil, Nat.reduceAdd, Nat.reduceLT, Nat.reduceLeDiff, Nat.reduceEqDiff, Int.reduceAdd, Int.reduceLE, Int.toNat_natCast, Int.reduceToNat, Int.cast_ofNat_Int, true_and, and_true, false_and, and_false, true_implies, forall_const, eq_self, and_self, or_true, true_or, or_self, false_or, or_false, yI_sI, yR_sI, yC_sI, yN_sI, yI_sR, yR_sR, yC_sR, yN_sR, not_true_eq_false, not_false_eq_true, false_implies, implies_true, Nat.zero_add, Nat.add_zero, Nat.le_refl, Nat.reduceSub, Int.reduceSub, Int.reduceLT, Int.sub_zero, Int.sub_self, List.getElem?_toArray, List.getElem?_cons_zero, List.getElem?_cons_succ, Int.toNat_zero, Int.toNat_one, Int.lt_irrefl, yI_sB, yR_sB, yC_sB, yN_sB, MSh_sB_eq, pS_hold_0, stp_aload_n, pS_hold_1, stp_iload_n, pS_hold_2, stp_invokevirtual, qmS_141, cy_S_lotAt, ss_C0 hS, pS_hold_5, stp_astore_n, pS_hold_6, pS_hold_7, stp_ifnonnull, pS_hold_10, pS_hold_11, stp_bipush, pS_hold_13, qmS_79, cy_S_refuse, pS_hold_16, stp_ireturn, pS_hold_17, pS_hold_18, stp_getfield, qfS_145, rp_10_3, pS_hold_21, stp_ifCond_eq, pS_hold_24, pS_hold_25, pS_hold_28, stp_iconst, pS_hold_29, stp_if_icmp_eq, pS_hold_32, pS_hold_33, pS_hold_35, pS_hold_38, pS_hold_39, pS_hold_40, pS_hold_43, pS_hold_44, pS_hold_45, stp_if_icmp_ne, pS_hold_48, pS_hold_49, qfS_186, rp_10_2, pS_hold_52, qmS_217, cy_E_isSold, pS_hold_55, pS_hold_58, pS_hold_59, pS_hold_61, pS_hold_64, pS_hold_65, pS_hold_66, pS_hold_69, stp_istore, pS_hold_71, pS_hold_72, pS_hold_73, stp_putfield, fi_10_3, nr_10_3, pS_hold_76, stp_iload, pS_hold_78, bp_m3, ic_1, bp_m5, bp_m7, nv_S_hold, ml_S_hold, ruS_lotAt hl, c10, e3, k0, show ¬ (1 : Int32) = 0 by decide, c102, c11, e7, rs, h1, ej, h2, h4, h5, q0, decide_true, Bool.not_true, lvS_lotAt, lvE_isSold, lvS_refuse]
              exact Pst_ok2 (d := fun w => dM_hold w v k) (v := fun w => wI w 118 0 v.toNatClampNeg) (W := fun w => sI w 118 0 v.toNatClampNeg k) (okM_hold l G) (by decide) (fun _ => rfl) (fun _ => rfl) (fun _ => rfl) (msk_sI rfl) hM (by simp only [dM_hold, h1, ej, h2, h4, h5, if_true, if_false, ite_true, ite_false, ↓reduceIte, Bool.false_eq_true, Bool.true_eq_false, reduceCtorEq, not_true_eq_false, not_false_eq_true, eq_self]) (by rw [ej]; first | exact k0.symm | exact k0) (by rw [ej]; exact ho_inv h hj h5 h4)
end
