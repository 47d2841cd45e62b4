/-! calls: holds, row, write -/
theorem MOk_63 {w w' : Wd} (hS : MSh w') (h63 : okc w' 63 20) (hI : ∀ t k i, (t = 13 ∧ (i = 3 ∨ i = 6 ∨ i = 17 ∨ i = 48 ∨ i = 58 ∨ i = 67 ∨ i = 47)) ∨ t = 123 ∨ t = 153 → wI w' t k i = wI w t k i) (h : MOk w) : MOk w' := by
  obtain ⟨-, h3, h6, h17, hR, -, h58, h123, h67, h47⟩ := h
  refine ⟨hS, okc_cg (hI _ _ _ (by omega)) h3, okc_cg (hI _ _ _ (by omega)) h6, okc_cg (hI _ _ _ (by omega)) h17, ⟨okc_cg (hI _ _ _ (by omega)) hR.1, fun r hr => ?_⟩, h63, okc_cg (hI _ _ _ (by omega)) h58, fun j hj => ?_, okc_cg (hI _ _ _ (by omega)) h67, ?_⟩
  · rw [cn_cg (hI _ _ _ (by omega))] at hr
    unfold cnT
    rw [hI _ _ _ (by omega)]
    exact hR.2 r hr
  · rw [cn_cg (hI _ _ _ (by omega))] at hj
    rw [cn_cg (hI _ _ _ (by omega)), hI _ _ _ (by omega)]
    exact h123 j hj
  · rcases h47 with q | q
    · exact Or.inl (by rw [hI _ _ _ (by omega)]; exact q)
    · exact Or.inr (okc_cg (hI _ _ _ (by omega)) q)
theorem okc_p {w : Wd} {k b : Nat} {x : Int32} (h : okc w k b) (hb : b < 2 ^ 30) (hx : inR x 0 (wI w 13 0 k - 1) = true) : ∃ i, i < cn w k ∧ x = nI i ∧ x.toNatClampNeg = i ∧ ¬ x < 0 ∧ ¬ nI (cn w k) ≤ x := by
  obtain ⟨i, hi, rfl⟩ := okc_in h hb hx
  have := h.2
  exact ⟨i, hi, rfl, nI_clamp (by omega), nI_pos (by omega), nI_ge hi (by omega)⟩
theorem wh_none {w : Wd} {m : Int32} (h : fnd w m = none) : whI w m = -1 := by unfold whI; rw [h]
theorem wh_some {w : Wd} {m : Int32} (hK : IvK w) (h : ¬ fnd w m = none) : ¬ whI w m = -1 := by
  unfold whI
  cases e : fnd w m with
  | none => exact absurd e h
  | some k =>
    have : k < cn w 63 := by
      unfold fnd at e
      exact (fstN_s e).1
    exact hK k this
section
variable {l : Launch} {G : Gc} {c : Nat} {w : Wd}
set_option maxRecDepth 100000 in
set_option maxHeartbeats 4000000 in
theorem ca_holds (h : Inv c w) (hc : c < 1000) (r v b : Int32) : Cok l G c w mS_holds mM_holds [.inl r, .inl v, .inl b] := by
  have hS := iv_S h
  have hM := iv_M h
  have hl := iv_l h
  have hr := iv_r h
  have hy := iv_y h
  have h0 := iv_0 h
  obtain ⟨-, h3, h6, h17, hR, h63, h58, -⟩ := id hM
  refine ⟨18, by decide, Sem_of (by decide) rfl (Nat.le_of_ble_eq_true rfl) ?_⟩
  refine wpn_ok (M := mS_holds) (C := cenS) (X := (alk [(141, lvS_lotAt, fsS_lotAt), (96, lvL_size, fsL_size), (75, lvS_within, fsS_within), (277, lvL_get, fsL_get), (281, lvU_appliesTo, fsU_appliesTo), (79, lvS_refuse, fsS_refuse)])) (tb := tS_holds) (st := []) eoS (XOk_cons qmS_141 (okS_lotAt l G) (XOk_cons qmS_96 (okL_size l G) (XOk_cons qmS_75 (okS_within l G) (XOk_cons qmS_277 (okL_get l G) (XOk_cons qmS_281 (okU_appliesTo l G) (XOk_cons qmS_79 (okS_refuse l G) XOk_nil)))))) kS_holds 250 _ _ _ _ _ _ ?_
  obtain ⟨ρ, hρ, hρ2⟩ := (iv_Q h).2.2.1
  have ls := ruL_size (LiA_S hρ)
  cases h1 : inR r 0 (wI w 13 0 48 - 1)
  case false =>
    rcases nin hR.1 (by omega) h1 with z | z
    all_goals
      simp only [reduceCtorEq, fv0, fv1, fv2, fv3, bI_0, bI_1, bft, MSh_sI_eq, fsP_T, inL_0, inL_s, pad_0, pad_n, pad_s, wpn_s, wp1_s, lg_0, lg_s, lset_0, lset_s, kil_0, kil_s, st1_s, st2_s, isL_i, isL_l, isL_r, isL_n, spl_0, spl_s, cll_n, cll_s, catS_0, catS_s, jmp_s, alk_0, alk_s, otl_n, otl_s, List.nil_append, List.cons_append, List.contains_cons, List.contains_nil, Nat.reduceBEq, Bool.or_false, Bool.false_or, Bool.or_self, Bool.false_eq_true, Bool.true_or, Bool.or_true, if_true, if_false, ite_true, ite_false, ↓reduceIte, List.length_cons, List.length_nil, Nat.reduceAdd, Nat.reduceLT, Nat.reduceLeDiff, Nat.reduceEqDiff, Int.reduceAdd, Int.reduceLE, Int.toNat_natCast, Int.reduceToNat, Int.cast_ofNat_Int, true_and, and_true, false_and, and_false, true_implies, forall_const, eq_self, and_self, or_true, true_or, or_self, false_or, or_false, yI_sI, yR_sI, yC_sI, yN_sI, yI_sR, yR_sR, yC_sR, yN_sR, not_true_eq_false, not_false_eq_true, false_implies, implies_true, Nat.zero_add, Nat.add_zero, Nat.le_refl, Nat.reduceSub, Int.reduceSub, Int.reduceLT, Int.sub_zero, Int.sub_self, List.getElem?_toArray, List.getElem?_cons_zero, List.getElem?_cons_succ, Int.toNat_zero, Int.toNat_one, Int.lt_irrefl, yI_sB, yR_sB, yC_sB, yN_sB, MSh_sB_eq, pS_holds_0, stp_aload_n, pS_holds_1, stp_iload_n, pS_holds_2, stp_invokevirtual, qmS_141, cy_S_lotAt, ss_C0 hS, pS_holds_5, stp_astore, pS_holds_7, pS_holds_8, stp_ifCond_lt, pS_holds_11, pS_holds_12, pS_holds_13, stp_getfield, qfS_33, rp_0_3, ss_R0_3 hS, ss_C4 hS, pS_holds_16, qfS_260, rp_4_0, ss_R4_0 hS, ss_C2 hS, pS_holds_19, qmS_96, cy_L_size, pS_holds_22, stp_if_icmp_ge, pS_holds_25, stp_aload, pS_holds_27, stp_ifnull, pS_holds_30, pS_holds_31, stp_iconst, pS_holds_32, pS_holds_33, stp_invokestatic, qmS_75, cy_S_within, pS_holds_36, stp_ifCond_ne, pS_holds_39, pS_holds_40, stp_bipush, pS_holds_42, qmS_79, cy_S_refuse, pS_holds_45, stp_ireturn, pS_holds_46, pS_holds_47, pS_holds_50, pS_holds_53, pS_holds_54, qmS_277, cy_L_get, pS_holds_57, stp_checkcast, qtS_263, pS_holds_60, pS_holds_62, pS_holds_63, pS_holds_64, qfS_71, rp_0_9, pS_holds_67, qmS_281, cy_U_appliesTo, pS_holds_70, stp_ifCond_eq, pS_holds_73, pS_holds_74, stp_goto, pS_holds_77, pS_holds_78, ic_m1, ic_4, bp_m3, ic_1, ic_0, nv_S_holds, ml_S_holds, ruS_lotAt hl, ls, h1, z, rfS_3 hS, lvS_lotAt, lvL_size, lvS_within, lvL_get, lvU_appliesTo, lvS_refuse]
      refine Pst_rf (d := fun w => hoD w r v b) (v := fun w => bI (hdB w r.toNatClampNeg v.toNatClampNeg b)) (W := fun w => w) (okM_holds l G) (by decide) (fun _ => rfl) h (b := 3) (by decide) rfl ?_
      show hoD w r v b = _
      simp only [hoD, h1, if_true, if_false, ite_true, ite_false, ↓reduceIte, Bool.false_eq_true, Bool.true_eq_false, reduceCtorEq, not_true_eq_false, not_false_eq_true, eq_self]
      rfl
  case true =>
    obtain ⟨i, hi, er, er2, n1, n2⟩ := okc_p hR.1 (by omega) h1
    have lg : fsL_get [.inr (.inr (some (2, 2))), .inl r] w = some (some (.inr (.inr (some (12, ρ i)))), w) := by rw [er]; exact ruL_get (LiA_S hρ) hi
    cases h2 : inR v 0 (wI w 13 0 17 - 1)
    case false =>
      simp only [reduceCtorEq, fv0, fv1, fv2, fv3, bI_0, bI_1, bft, MSh_sI_eq, fsP_T, inL_0, inL_s, pad_0, pad_n, pad_s, wpn_s, wp1_s, lg_0, lg_s, lset_0, lset_s, kil_0, kil_s, st1_s, st2_s, isL_i, isL_l, isL_r, isL_n, spl_0, spl_s, cll_n, cll_s, catS_0, catS_s, jmp_s, alk_0, alk_s, otl_n, otl_s, List.nil_append, List.cons_append, List.contains_cons, List.contains_nil, Nat.reduceBEq, Bool.or_false, Bool.false_or, Bool.or_self, Bool.false_eq_true, Bool.true_or, Bool.or_true, if_true, if_false, ite_true, ite_false, ↓reduceIte, List.length_cons, List.length_nil, Nat.reduceAdd, Nat.reduceLT, Nat.reduceLeDiff, Nat.reduceEqDiff, Int.reduceAdd, Int.reduceLE, Int.toNat_natCast, Int.reduceToNat, Int.cast_ofNat_Int, true_and, and_true, false_and, and_false, true_implies, forall_const, eq_self, and_self, or_true, true_or, or_self, false_or, or_false, yI_sI, yR_sI, yC_sI, yN_sI, yI_sR, yR_sR, yC_sR, yN_sR, not_true_eq_false, not_false_eq_true, false_implies, implies_true, Nat.zero_add, Nat.add_zero, Nat.le_refl, Nat.reduceSub, Int.reduceSub, Int.reduceLT, Int.sub_zero, Int.sub_self, List.getElem?_toArray, List.getElem?_cons_zero, List.getElem?_cons_succ, Int.toNat_zero, Int.toNat_one, Int.lt_irrefl, yI_sB, yR_sB, yC_sB, yN_sB, MSh_sB_eq, pS_holds_0, stp_aload_n, pS_holds_1, stp_iload_n, pS_holds_2, stp_invokevirtual, qmS_141, cy_S_lotAt, ss_C0 hS, pS_holds_5, stp_astore, pS_holds_7, pS_holds_8, stp_ifCond_lt, pS_holds_11, pS_holds_12, pS_holds_13, stp_getfield, qfS_33, rp_0_3, ss_R0_3 hS, ss_C4 hS, pS_holds_16, qfS_260, rp_4_0, ss_R4_0 hS, ss_C2 hS, pS_holds_19, qmS_96, cy_L_size, pS_holds_22, stp_if_icmp_ge, pS_holds_25, stp_aload, pS_holds_27, stp_ifnull, pS_holds_30, pS_holds_31, stp_iconst, pS_holds_32, pS_holds_33, stp_invokestatic, qmS_75, cy_S_within, pS_holds_36, stp_ifCond_ne, pS_holds_39, pS_holds_40, stp_bipush, pS_holds_42, qmS_79, cy_S_refuse, pS_holds_45, stp_ireturn, pS_holds_46, pS_holds_47, pS_holds_50, pS_holds_53, pS_holds_54, qmS_277, cy_L_get, pS_holds_57, stp_checkcast, qtS_263, pS_holds_60, pS_holds_62, pS_holds_63, pS_holds_64, qfS_71, rp_0_9, pS_holds_67, qmS_281, cy_U_appliesTo, pS_holds_70, stp_ifCond_eq, pS_holds_73, pS_holds_74, stp_goto, pS_holds_77, pS_holds_78, ic_m1, ic_4, bp_m3, ic_1, ic_0, nv_S_holds, ml_S_holds, ruS_lotAt hl, ls, n1, n2, h1, h2, rfS_3 hS, lvS_lotAt, lvL_size, lvS_within, lvL_get, lvU_appliesTo, lvS_refuse]
      refine Pst_rf (d := fun w => hoD w r v b) (v := fun w => bI (hdB w r.toNatClampNeg v.toNatClampNeg b)) (W := fun w => w) (okM_holds l G) (by decide) (fun _ => rfl) h (b := 3) (by decide) rfl ?_
      show hoD w r v b = _
      simp only [hoD, h1, h2, if_true, if_false, ite_true, ite_false, ↓reduceIte, Bool.false_eq_true, Bool.true_eq_false, reduceCtorEq, not_true_eq_false, not_false_eq_true, eq_self]
      rfl
    case true =>
      obtain ⟨j, hj, ev⟩ := okc_in h17 (by omega) h2
      have ej : v.toNatClampNeg = j := by rw [ev]; exact nI_clamp (by have := h17.2; omega)
      have ru := ru_rule (b := b) hl (hρ2 i hi) hi hj
      cases h4 : inR b (-1) 4
      case false =>
        simp only [reduceCtorEq, fv0, fv1, fv2, fv3, bI_0, bI_1, bft, MSh_sI_eq, fsP_T, inL_0, inL_s, pad_0, pad_n, pad_s, wpn_s, wp1_s, lg_0, lg_s, lset_0, lset_s, kil_0, kil_s, st1_s, st2_s, isL_i, isL_l, isL_r, isL_n, spl_0, spl_s, cll_n, cll_s, catS_0, catS_s, jmp_s, alk_0, alk_s, otl_n, otl_s, List.nil_append, List.cons_append, List.contains_cons, List.contains_nil, Nat.reduceBEq, Bool.or_false, Bool.false_or, Bool.or_self, Bool.false_eq_true, Bool.true_or, Bool.or_true, if_true, if_false, ite_true, ite_false, ↓reduceIte, List.length_cons, List.length_nil, Nat.reduceAdd, Nat.reduceLT, Nat.reduceLeDiff, Nat.reduceEqDiff, Int.reduceAdd, Int.reduceLE, Int.toNat_natCast, Int.reduceToNat, Int.cast_ofNat_Int, true_and, and_true, false_and, and_false, true_implies, forall_const, eq_self, and_self, or_true, true_or, or_self, false_or, or_false, yI_sI, yR_sI, yC_sI, yN_sI, yI_sR, yR_sR, yC_sR, yN_sR, not_true_eq_false, not_false_eq_true, false_implies, implies_true, Nat.zero_add, Nat.add_zero, Nat.le_refl, Nat.reduceSub, Int.reduceSub, Int.reduceLT, Int.sub_zero, Int.sub_self, List.getElem?_toArray, List.getElem?_cons_zero, List.getElem?_cons_succ, Int.toNat_zero, Int.toNat_one, Int.lt_irrefl, yI_sB, yR_sB, yC_sB, yN_sB, MSh_sB_eq, pS_holds_0, stp_aload_n, pS_holds_1, stp_iload_n, pS_holds_2, stp_invokevirtual, qmS_141, cy_S_lotAt, ss_C0 hS, pS_holds_5, stp_astore, pS_holds_7, pS_holds_8, stp_ifCond_lt, pS_holds_11, pS_holds_12, pS_holds_13, stp_getfield, qfS_33, rp_0_3, ss_R0_3 hS, ss_C4 hS, pS_holds_16, qfS_260, rp_4_0, ss_R4_0 hS, ss_C2 hS, pS_holds_19, qmS_96, cy_L_size, pS_holds_22, stp_if_icmp_ge, pS_holds_25, stp_aload, pS_holds_27, stp_ifnull, pS_holds_30, pS_holds_31, stp_iconst, pS_holds_32, pS_holds_33, stp_invokestatic, qmS_75, cy_S_within, pS_holds_36, stp_ifCond_ne, pS_holds_39, pS_holds_40, stp_bipush, pS_holds_42, qmS_79, cy_S_refuse, pS_holds_45, stp_ireturn, pS_holds_46, pS_holds_47, pS_holds_50, pS_holds_53, pS_holds_54, qmS_277, cy_L_get, pS_holds_57, stp_checkcast, qtS_263, pS_holds_60, pS_holds_62, pS_holds_63, pS_holds_64, qfS_71, rp_0_9, pS_holds_67, qmS_281, cy_U_appliesTo, pS_holds_70, stp_ifCond_eq, pS_holds_73, pS_holds_74, stp_goto, pS_holds_77, pS_holds_78, ic_m1, ic_4, bp_m3, ic_1, ic_0, nv_S_holds, ml_S_holds, ruS_lotAt hl, ls, n1, n2, fsS_within, h1, h2, ej, h4, rfS_3 hS, lvS_lotAt, lvL_size, lvS_within, lvL_get, lvU_appliesTo, lvS_refuse]
        refine Pst_rf (d := fun w => hoD w r v b) (v := fun w => bI (hdB w r.toNatClampNeg v.toNatClampNeg b)) (W := fun w => w) (okM_holds l G) (by decide) (fun _ => rfl) h (b := 3) (by decide) rfl ?_
        show hoD w r v b = _
        simp only [hoD, h1, h2, ej, h4, if_true, if_false, ite_true, ite_false, ↓reduceIte, Bool.false_eq_true, Bool.true_eq_false, reduceCtorEq, not_true_eq_false, not_false_eq_true, eq_self]
        rfl
      case true =>
        cases hd : hdB w i j b
        all_goals simp only [reduceCtorEq, fv0, fv1, fv2, fv3, bI_0, bI_1, bft, MSh_sI_eq, fsP_T, inL_0, inL_s, pad_0, pad_n, pad_s, wpn_s, wp1_s, lg_0, lg_s, lset_0, lset_s, kil_0, kil_s, st1_s, st2_s, isL_i, isL_l, isL_r, isL_n, spl_0, spl_s, cll_n, cll_s, catS_0, catS_s, jmp_s, alk_0, alk_s, otl_n, otl_s, List.nil_append, List.cons_append, List.contains_cons, List.contains_nil, Nat.reduceBEq, Bool.or_false, Bool.false_or, Bool.or_self, Bool.false_eq_true, Bool.true_or, Bool.or_true, if_true, if_false, ite_true, ite_false, ↓reduceIte, List.length_cons, List.length_nil, Nat.reduceAdd, Nat.reduceLT, Nat.reduceLeDiff, Nat.reduceEqDiff, Int.reduceAdd, Int.reduceLE, Int.toNat_natCast, Int.reduceToNat, Int.cast_ofNat_Int, true_and, and_true, false_and, and_false, true_implies, forall_const, eq_self, and_self, or_true, true_or, or_self, false_or, or_false, yI_sI, yR_sI, yC_sI, yN_sI, yI_sR, yR_sR, yC_sR, yN_sR, not_true_eq_false, not_false_eq_true, false_implies, implies_true, Nat.zero_add, Nat.add_zero, Nat.le_refl, Nat.reduceSub, Int.reduceSub, Int.reduceLT, Int.sub_zero, Int.sub_self, List.getElem?_toArray, List.getElem?_cons_zero, List.getElem?_cons_succ, Int.toNat_zero, Int.toNat_one, Int.lt_irrefl, yI_sB, yR_sB, yC_sB, yN_sB, MSh_sB_eq, pS_holds_0, stp_aload_n, pS_holds_1, stp_iload_n, pS_holds_2, stp_invokevirtual, qmS_141, cy_S_lotAt, ss_C0 hS, pS_holds_5, stp_astore, pS_holds_7, pS_holds_8, stp_ifCond_lt, pS_holds_11, pS_holds_12, pS_holds_13, stp_getfield, qfS_33, rp_0_3, ss_R0_3 hS, ss_C4 hS, pS_holds_16, qfS_260, rp_4_0, ss_R4_0 hS, ss_C2 hS, pS_holds_19, qmS_96, cy_L_size, pS_holds_22, stp_if_icmp_ge, pS_holds_25, stp_aload, pS_holds_27, stp_ifnull, pS_holds_30, pS_holds_31, stp_iconst, pS_holds_32, pS_holds_33, stp_invokestatic, qmS_75, cy_S_within, pS_holds_36, stp_ifCond_ne, pS_holds_39, pS_holds_40, stp_bipush, pS_holds_42, qmS_79, cy_S_refuse, pS_holds_45, stp_ireturn, pS_holds_46, pS_holds_47, pS_holds_50, pS_holds_53, pS_holds_54, qmS_277, cy_L_get, pS_holds_57, stp_checkcast, qtS_263, pS_holds_60, pS_holds_62, pS_holds_63, pS_holds_64, qfS_71, rp_0_9, pS_holds_67, qmS_281, cy_U_appliesTo, pS_holds_70, stp_ifCond_eq, pS_holds_73, pS_holds_74, stp_goto, pS_holds_77, pS_holds_78, ic_m1, ic_4, bp_m3, ic_1, ic_0, nv_S_holds, ml_S_holds, ruS_lotAt hl, ls, n1, n2, fsS_within, h1, h2, ej, h4, show ¬ (1 : Int32) = 0 by decide, lg, h0.1, ru, (hρ2 i hi).1.1, lvS_lotAt, lvL_size, lvS_within, lvL_get, lvU_appliesTo, lvS_refuse, hd]
        all_goals exact Pst_ok2 (d := fun w => hoD w r v b) (v := fun w => bI (hdB w r.toNatClampNeg v.toNatClampNeg b)) (W := fun w => w) (okM_holds l G) (by decide) (fun _ => rfl) (fun _ => rfl) (fun _ => rfl) rfl hM (by simp only [hoD, h1, h2, ej, h4, if_true, if_false, ite_true, ite_false, ↓reduceIte, Bool.false_eq_true, Bool.true_eq_false, reduceCtorEq, not_true_eq_false, not_false_eq_true, eq_self]) (by rw [ej, er2, hd]; rfl) (Inv_up h)
set_option maxRecDepth 100000 in
set_option maxHeartbeats 4000000 in
theorem ca_row (h : Inv c w) (hc : c < 1000) (i : Int32) : Cok l G c w mS_row mM_row [.inl i] := by
  have hS := iv_S h
  have hM := iv_M h
  have hl := iv_l h
  have hr := iv_r h
  have hy := iv_y h
  have h0 := iv_0 h
  obtain ⟨-, h3, h6, h17, hR, h63, h58, -⟩ := id hM
  refine ⟨18, by decide, Sem_of (by decide) rfl (Nat.le_of_ble_eq_true rfl) ?_⟩
  refine wpn_ok (M := mS_row) (C := cenS) (X := (alk [(371, lvR_at, fsR_at), (79, lvS_refuse, fsS_refuse)])) (tb := tS_row) (st := []) eoS (XOk_cons qmS_371 (okR_at l G) (XOk_cons qmS_79 (okS_refuse l G) XOk_nil)) kS_row 250 _ _ _ _ _ _ ?_
  obtain ⟨w1, w2, w3, w4⟩ := iv_W h
  have h67 := hM.2.2.2.2.2.2.2.2.1
  have e1 : wI w 7 0 1 = nI (cn w 67) := w3.trans h67.1
  by_cases h1 : wI w 13 0 66 = 0
  case pos =>
    simp only [reduceCtorEq, fv0, fv1, fv2, fv3, bI_0, bI_1, bft, MSh_sI_eq, fsP_T, inL_0, inL_s, pad_0, pad_n, pad_s, wpn_s, wp1_s, lg_0, lg_s, lset_0, lset_s, kil_0, kil_s, st1_s, st2_s, isL_i, isL_l, isL_r, isL_n, spl_0, spl_s, cll_n, cll_s, catS_0, catS_s, jmp_s, alk_0, alk_s, otl_n, otl_s, List.nil_append, List.cons_append, List.contains_cons, List.contains_nil, Nat.reduceBEq, Bool.or_false, Bool.false_or, Bool.or_self, Bool.false_eq_true, Bool.true_or, Bool.or_true, if_true, if_false, ite_true, ite_false, ↓reduceIte, List.length_cons, List.length_nil, Nat.reduceAdd, Nat.reduceLT, Nat.reduceLeDiff, Nat.reduceEqDiff, Int.reduceAdd, Int.reduceLE, Int.toNat_natCast, Int.reduceToNat, Int.cast_ofNat_Int, true_and, and_true, false_and, and_false, true_implies, forall_const, eq_self, and_self, or_true, true_or, or_self, false_or, or_false, yI_sI, yR_sI, yC_sI, yN_sI, yI_sR, yR_sR, yC_sR, yN_sR, not_true_eq_false, not_false_eq_true, false_implies, implies_true, Nat.zero_add, Nat.add_zero, Nat.le_refl, Nat.reduceSub, Int.reduceSub, Int.reduceLT, Int.sub_zero, Int.sub_self, List.getElem?_toArray, List.getElem?_cons_zero, List.getElem?_cons_succ, Int.toNat_zero, Int.toNat_one, Int.lt_irrefl, yI_sB, yR_sB, yC_sB, yN_sB, MSh_sB_eq, pS_row_0, stp_aload_n, pS_row_1, stp_getfield, qfS_56, rp_0_6, ss_C0 hS, ss_R0_6 hS, ss_C7 hS, pS_row_4, qfS_367, rp_7_2, pS_row_7, stp_ifCond_ne, pS_row_10, pS_row_11, stp_bipush, pS_row_13, stp_invokevirtual, qmS_79, cy_S_refuse, pS_row_16, stp_ireturn, pS_row_17, stp_iload_n, pS_row_18, stp_ifCond_lt, pS_row_21, pS_row_22, pS_row_23, pS_row_26, qfS_370, rp_7_1, pS_row_29, stp_if_icmp_ge, pS_row_32, pS_row_33, pS_row_36, pS_row_37, qmS_371, cy_R_at, pS_row_40, stp_goto, pS_row_43, pS_row_44, pS_row_46, pS_row_49, bp_m2, bp_m3, nv_S_row, ml_S_row, w1, h1, rfS_2 hS, lvR_at, lvS_refuse]
    refine Pst_rf (d := fun w => dM_row w i) (v := fun w => wI w 168 0 i.toNatClampNeg) (W := fun w => w) (okM_row l G) (by decide) (fun _ => rfl) h (b := 2) (by decide) rfl ?_
    show dM_row w i = _
    simp only [dM_row, h1, if_true, if_false, ite_true, ite_false, ↓reduceIte, Bool.false_eq_true, Bool.true_eq_false, reduceCtorEq, not_true_eq_false, not_false_eq_true, eq_self]
    rfl
  case neg =>
    cases h2 : inR i 0 (wI w 13 0 67 - 1)
    case false =>
      rcases nin h67 (by omega) h2 with z | z
      all_goals
        simp only [reduceCtorEq, fv0, fv1, fv2, fv3, bI_0, bI_1, bft, MSh_sI_eq, fsP_T, inL_0, inL_s, pad_0, pad_n, pad_s, wpn_s, wp1_s, lg_0, lg_s, lset_0, lset_s, kil_0, kil_s, st1_s, st2_s, isL_i, isL_l, isL_r, isL_n, spl_0, spl_s, cll_n, cll_s, catS_0, catS_s, jmp_s, alk_0, alk_s, otl_n, otl_s, List.nil_append, List.cons_append, List.contains_cons, List.contains_nil, Nat.reduceBEq, Bool.or_false, Bool.false_or, Bool.or_self, Bool.false_eq_true, Bool.true_or, Bool.or_true, if_true, if_false, ite_true, ite_false, ↓reduceIte, List.length_cons, List.length_nil, Nat.reduceAdd, Nat.reduceLT, Nat.reduceLeDiff, Nat.reduceEqDiff, Int.reduceAdd, Int.reduceLE, Int.toNat_natCast, Int.reduceToNat, Int.cast_ofNat_Int, true_and, and_true, false_and, and_false, true_implies, forall_const, eq_self, and_self, or_true, true_or, or_self, false_or, or_false, yI_sI, yR_sI, yC_sI, yN_sI, yI_sR, yR_sR, yC_sR, yN_sR, not_true_eq_false, not_false_eq_true, false_implies, implies_true, Nat.zero_add, Nat.add_zero, Nat.le_refl, Nat.reduceSub, Int.reduceSub, Int.reduceLT, Int.sub_zero, Int.sub_self, List.getElem?_toArray, List.getElem?_cons_zero, List.getElem?_cons_succ, Int.toNat_zero, Int.toNat_one, Int.lt_irrefl, yI_sB, yR_sB, yC_sB, yN_sB, MSh_sB_eq, pS_row_0, stp_aload_n, pS_row_1, stp_getfield, qfS_56, rp_0_6, ss_C0 hS, ss_R0_6 hS, ss_C7 hS, pS_row_4, qfS_367, rp_7_2, pS_row_7, stp_ifCond_ne, pS_row_10, pS_row_11, stp_bipush, pS_row_13, stp_invokevirtual, qmS_79, cy_S_refuse, pS_row_16, stp_ireturn, pS_row_17, stp_iload_n, pS_row_18, stp_ifCond_lt, pS_row_21, pS_row_22, pS_row_23, pS_row_26, qfS_370, rp_7_1, pS_row_29, stp_if_icmp_ge, pS_row_32, pS_row_33, pS_row_36, pS_row_37, qmS_371, cy_R_at, pS_row_40, stp_goto, pS_row_43, pS_row_44, pS_row_46, pS_row_49, bp_m2, bp_m3, nv_S_row, ml_S_row, w1, e1, h1, h2, z, rfS_3 hS, lvR_at, lvS_refuse]
        refine Pst_rf (d := fun w => dM_row w i) (v := fun w => wI w 168 0 i.toNatClampNeg) (W := fun w => w) (okM_row l G) (by decide) (fun _ => rfl) h (b := 3) (by decide) rfl ?_
        show dM_row w i = _
        simp only [dM_row, h1, h2, if_true, if_false, ite_true, ite_false, ↓reduceIte, Bool.false_eq_true, Bool.true_eq_false, reduceCtorEq, not_true_eq_false, not_false_eq_true, eq_self]
        rfl
    case true =>
      obtain ⟨j, hj, er, er2, n1, n2⟩ := okc_p h67 (by omega) h2
      have rr := ruR_at (w := w) (x := i) ⟨hS, cn w 67, h67.2, e1⟩
      rw [if_pos ⟨n1, by rw [e1]; exact n2⟩] at rr
      simp only [reduceCtorEq, fv0, fv1, fv2, fv3, bI_0, bI_1, bft, MSh_sI_eq, fsP_T, inL_0, inL_s, pad_0, pad_n, pad_s, wpn_s, wp1_s, lg_0, lg_s, lset_0, lset_s, kil_0, kil_s, st1_s, st2_s, isL_i, isL_l, isL_r, isL_n, spl_0, spl_s, cll_n, cll_s, catS_0, catS_s, jmp_s, alk_0, alk_s, otl_n, otl_s, List.nil_append, List.cons_append, List.contains_cons, List.contains_nil, Nat.reduceBEq, Bool.or_false, Bool.false_or, Bool.or_self, Bool.false_eq_true, Bool.true_or, Bool.or_true, if_true, if_false, ite_true, ite_false, ↓reduceIte, List.length_cons, List.length_nil, Nat.reduceAdd, Nat.reduceLT, Nat.reduceLeDiff, Nat.reduceEqDiff, Int.reduceAdd, Int.reduceLE, Int.toNat_natCast, Int.reduceToNat, Int.cast_ofNat_Int, true_and, and_true, false_and, and_false, true_implies, forall_const, eq_self, and_self, or_true, true_or, or_self, false_or, or_false, yI_sI, yR_sI, yC_sI, yN_sI, yI_sR, yR_sR, yC_sR, yN_sR, not_true_eq_false, not_false_eq_true, false_implies, implies_true, Nat.zero_add, Nat.add_zero, Nat.le_refl, Nat.reduceSub, Int.reduceSub, Int.reduceLT, Int.sub_zero, Int.sub_self, List.getElem?_toArray, List.getElem?_cons_zero, List.getElem?_cons_succ, Int.toNat_zero, Int.toNat_one, Int.lt_irrefl, yI_sB, yR_sB, yC_sB, yN_sB, MSh_sB_eq, pS_row_0, stp_aload_n, pS_row_1, stp_getfield, qfS_56, rp_0_6, ss_C0 hS, ss_R0_6 hS, ss_C7 hS, pS_row_4, qfS_367, rp_7_2, pS_row_7, stp_ifCond_ne, pS_row_10, pS_row_11, stp_bipush, pS_row_13, stp_invokevirtual, qmS_79, cy_S_refuse, pS_row_16, stp_ireturn, pS_row_17, stp_iload_n, pS_row_18, stp_ifCond_lt, pS_row_21, pS_row_22, pS_row_23, pS_row_26, qfS_370, rp_7_1, pS_row_29, stp_if_icmp_ge, pS_row_32, pS_row_33, pS_row_36, pS_row_37, qmS_371, cy_R_at, pS_row_40, stp_goto, pS_row_43, pS_row_44, pS_row_46, pS_row_49, bp_m2, bp_m3, nv_S_row, ml_S_row, w1, e1, h1, h2, n1, n2, rr, lvR_at, lvS_refuse]
      exact Pst_ok2 (d := fun w => dM_row w i) (v := fun w => wI w 168 0 i.toNatClampNeg) (W := fun w => w) (okM_row l G) (by decide) (fun _ => rfl) (fun _ => rfl) (fun _ => rfl) rfl hM (by simp only [dM_row, h1, h2, if_true, if_false, ite_true, ite_false, ↓reduceIte, Bool.false_eq_true, Bool.true_eq_false, reduceCtorEq, not_true_eq_false, not_false_eq_true, eq_self]) (by rw [er2]; exact w4 j hj) (Inv_up h)
theorem wr_inv {s : Nat} {m o : Int32} (h : Inv c w) (ho : inR o 0 5 = true) (es : cn w 63 = s) (hs : s < 20) : Inv (c + 1) (wrW (kadW w s m o) m o) := by
  have h63 := (iv_M h).2.2.2.2.2.1
  have ec : cn (kadW w s m o) 63 = s := es
  have e63 : wI (kadW w s m o) 13 0 63 = nI s := by rw [← es]; exact h63.1
  have e : ∀ t k i, wI (wrW (kadW w (s) m o) m o) t k i = if t = 13 ∧ k = 0 ∧ i = 63 then nI (s + 1) else if t = 165 ∧ k = 0 ∧ i = s then o else if t = 164 ∧ k = 0 ∧ i = s then m else if t = 5 ∧ k = 0 ∧ i = 2 then nI (s + 1) else if t = 176 ∧ k = 0 ∧ i = s then o else if t = 175 ∧ k = 0 ∧ i = s then m else wI w t k i := fun t k i => by
    unfold wrW
    rw [ec, e63, nI_1]
    unfold kadW
    rw [yI_sI, yI_sI, yI_sI, yI_sI, yI_sI, yI_sI]
  have g : ∀ t k i, ¬ ((t = 13 ∧ i = 63) ∨ (t = 5 ∧ i = 2) ∨ t = 164 ∨ t = 165 ∨ t = 175 ∨ t = 176) → wI (wrW (kadW w (s) m o) m o) t k i = wI w t k i := fun t k i n => by
    rw [e, if_neg (by omega), if_neg (by omega), if_neg (by omega), if_neg (by omega), if_neg (by omega), if_neg (by omega)]
  have c63 : cn (wrW (kadW w (s) m o) m o) 63 = s + 1 := by
    unfold cn
    rw [e, if_pos ⟨rfl, rfl, rfl⟩]
    exact nI_clamp (by omega)
  have m3 := cn_cg (w := w) (w' := wrW (kadW w (s) m o) m o) (g 13 0 3 (by omega))
  have m58 := cn_cg (w := w) (w' := wrW (kadW w (s) m o) m o) (g 13 0 58 (by omega))
  refine Inv_cg2 (c := c) (w := w) (Nat.le_succ c) rfl (MOk_63 (iv_M h).1 ⟨by rw [c63, e, if_pos ⟨rfl, rfl, rfl⟩], by rw [c63]; omega⟩ (fun t k i ht => g t k i (by omega)) (iv_M h)) ?_ (fun i hi => ?_) (fun k i _ => g _ _ _ (by omega)) (fun t k i ht => g t k i ?_) h
  · obtain ⟨c1, c2, c3, c4, c5, c6, c7, c8⟩ := iv_0 h
    refine ⟨?_, ?_, ?_, ?_, fun b hb => ?_, fun p hp => ?_, fun i hi => ?_, fun i hi => ?_⟩
    · rw [g _ _ _ (by omega), g _ _ _ (by omega)]; exact c1
    · rw [g _ _ _ (by omega), g _ _ _ (by omega)]; exact c2
    · rw [g _ _ _ (by omega), g _ _ _ (by omega)]; exact c3
    · rw [e 5 0 2, e 13 0 63, if_neg (by omega), if_neg (by omega), if_neg (by omega), if_pos ⟨rfl, rfl, rfl⟩, if_pos ⟨rfl, rfl, rfl⟩]
    · rw [g _ _ _ (by omega), g _ _ _ (by omega)]; exact c5 b hb
    · rw [m3] at hp
      rw [g _ _ _ (by omega), g _ _ _ (by omega), g _ _ _ (by omega), g _ _ _ (by omega)]; exact c6 p hp
    · rw [m58] at hi
      rw [g _ _ _ (by omega), g _ _ _ (by omega)]; exact c7 i hi
    · rw [c63] at hi
      by_cases q : i = s
      · subst q
        simp only [e, yI_sI, Nat.reduceEqDiff, Nat.reduceAdd, Nat.reduceMul, reduceCtorEq, false_and, and_false, true_and, and_true, if_false, if_true, ite_false, ite_true, ↓reduceIte, eq_self, and_self, or_true, true_or, not_true_eq_false, false_implies, implies_true]
      · have := c8 i (by rw [es]; omega)
        simp only [e, q, yI_sI, Nat.reduceEqDiff, Nat.reduceAdd, Nat.reduceMul, reduceCtorEq, false_and, and_false, true_and, and_true, if_false, if_true, ite_false, ite_true, ↓reduceIte, eq_self, and_self, or_true, true_or, not_true_eq_false, false_implies, implies_true]
        exact this
  · rw [c63] at hi
    by_cases q : i = s
    · subst q
      simp only [e, yI_sI, Nat.reduceEqDiff, Nat.reduceAdd, Nat.reduceMul, reduceCtorEq, false_and, and_false, true_and, and_true, if_false, if_true, ite_false, ite_true, ↓reduceIte, eq_self, and_self, or_true, true_or, not_true_eq_false, false_implies, implies_true]
      intro z
      rw [z] at ho
      revert ho
      decide
    · simp only [e, q, yI_sI, Nat.reduceEqDiff, Nat.reduceAdd, Nat.reduceMul, reduceCtorEq, false_and, and_false, true_and, and_true, if_false, if_true, ite_false, ite_true, ↓reduceIte, eq_self, and_self, or_true, true_or, not_true_eq_false, false_implies, implies_true]
      exact iv_K h i (by rw [es]; omega)
  · unfold Kp K1 K2 K3 K4 K5 at ht
    omega
set_option maxRecDepth 100000 in
set_option maxHeartbeats 4000000 in
theorem ca_write (h : Inv c w) (hc : c < 1000) (m o : Int32) : Cok l G c w mS_write mM_write [.inl m, .inl o] := by
  have hS := iv_S h
  have hM := iv_M h
  have hl := iv_l h
  have hr := iv_r h
  have hy := iv_y h
  have h0 := iv_0 h
  obtain ⟨-, h3, h6, h17, hR, h63, h58, -⟩ := id hM
  refine ⟨18, by decide, Sem_of (by decide) rfl (Nat.le_of_ble_eq_true rfl) ?_⟩
  refine wpn_ok (M := mS_write) (C := cenS) (X := (alk [(328, lvS_isOwner, fsS_isOwner), (126, lvS_isMark, fsS_isMark), (331, lvK_ownerOf, fsK_ownerOf), (335, lvK_add, fsK_add), (79, lvS_refuse, fsS_refuse)])) (tb := tS_write) (st := []) eoS (XOk_cons qmS_328 (okS_isOwner l G) (XOk_cons qmS_126 (okS_isMark l G) (XOk_cons qmS_331 (okK_ownerOf l G) (XOk_cons qmS_335 (okK_add l G) (XOk_cons qmS_79 (okS_refuse l G) XOk_nil))))) kS_write 250 _ _ _ _ _ _ ?_
  cases h1 : inR o 0 5
  case false =>
    simp only [reduceCtorEq, fv0, fv1, fv2, fv3, bI_0, bI_1, bft, MSh_sI_eq, fsP_T, inL_0, inL_s, pad_0, pad_n, pad_s, wpn_s, wp1_s, lg_0, lg_s, lset_0, lset_s, kil_0, kil_s, st1_s, st2_s, isL_i, isL_l, isL_r, isL_n, spl_0, spl_s, cll_n, cll_s, catS_0, catS_s, jmp_s, alk_0, alk_s, otl_n, otl_s, List.nil_append, List.cons_append, List.contains_cons, List.contains_nil, Nat.reduceBEq, Bool.or_false, Bool.false_or, Bool.or_self, Bool.false_eq_true, Bool.true_or, Bool.or_true, if_true, if_false, ite_true, ite_false, ↓reduceIte, List.length_cons, List.length_nil, Nat.reduceAdd, Nat.reduceLT, Nat.reduceLeDiff, Nat.reduceEqDiff, Int.reduceAdd, Int.reduceLE, Int.toNat_natCast, Int.reduceToNat, Int.cast_ofNat_Int, true_and, and_true, false_and, and_false, true_implies, forall_const, eq_self, and_self, or_true, true_or, or_self, false_or, or_false, yI_sI, yR_sI, yC_sI, yN_sI, yI_sR, yR_sR, yC_sR, yN_sR, not_true_eq_false, not_false_eq_true, false_implies, implies_true, Nat.zero_add, Nat.add_zero, Nat.le_refl, Nat.reduceSub, Int.reduceSub, Int.reduceLT, Int.sub_zero, Int.sub_self, List.getElem?_toArray, List.getElem?_cons_zero, List.getElem?_cons_succ, Int.toNat_zero, Int.toNat_one, Int.lt_irrefl, yI_sB, yR_sB, yC_sB, yN_sB, MSh_sB_eq, pS_write_0, stp_iload_n, pS_write_1, stp_invokestatic, qmS_328, cy_S_isOwner, pS_write_4, stp_ifCond_ne, pS_write_7, stp_aload_n, pS_write_8, stp_bipush, pS_write_10, stp_invokevirtual, qmS_79, cy_S_refuse, ss_C0 hS, pS_write_13, stp_ireturn, pS_write_14, pS_write_15, qmS_126, cy_S_isMark, pS_write_18, stp_ifCond_eq, pS_write_21, pS_write_22, stp_getfield, qfS_40, rp_0_4, ss_R0_4 hS, ss_C5 hS, pS_write_25, pS_write_26, qmS_331, cy_K_ownerOf, pS_write_29, stp_iconst, pS_write_30, stp_if_icmp_eq, pS_write_33, pS_write_34, pS_write_36, pS_write_39, pS_write_40, pS_write_41, pS_write_44, qfS_334, rp_5_2, pS_write_47, pS_write_49, stp_if_icmp_lt, pS_write_52, pS_write_53, pS_write_55, pS_write_58, pS_write_59, pS_write_60, pS_write_63, pS_write_64, pS_write_65, qmS_335, cy_K_add, pS_write_68, pS_write_69, pS_write_72, pS_write_75, bp_m3, ic_m1, bp_m7, bp_20, bp_m8, nv_S_write, ml_S_write, fsS_isOwner, h1, rfS_3 hS, lvS_isOwner, lvS_isMark, lvK_ownerOf, lvK_add, lvS_refuse]
    refine Pst_rf (d := fun w => wrD w m o) (v := fun w => wI w 13 0 63 + 1) (W := fun w => wrW w m o) (okM_write l G) (by decide) (fun _ => rfl) h (b := 3) (by decide) rfl ?_
    show wrD w m o = _
    simp only [wrD, h1, if_true, if_false, ite_true, ite_false, ↓reduceIte, Bool.false_eq_true, Bool.true_eq_false, reduceCtorEq, not_true_eq_false, not_false_eq_true, eq_self]
    rfl
  case true =>
    cases h2 : inR m 0 9999
    case false =>
      simp only [reduceCtorEq, fv0, fv1, fv2, fv3, bI_0, bI_1, bft, MSh_sI_eq, fsP_T, inL_0, inL_s, pad_0, pad_n, pad_s, wpn_s, wp1_s, lg_0, lg_s, lset_0, lset_s, kil_0, kil_s, st1_s, st2_s, isL_i, isL_l, isL_r, isL_n, spl_0, spl_s, cll_n, cll_s, catS_0, catS_s, jmp_s, alk_0, alk_s, otl_n, otl_s, List.nil_append, List.cons_append, List.contains_cons, List.contains_nil, Nat.reduceBEq, Bool.or_false, Bool.false_or, Bool.or_self, Bool.false_eq_true, Bool.true_or, Bool.or_true, if_true, if_false, ite_true, ite_false, ↓reduceIte, List.length_cons, List.length_nil, Nat.reduceAdd, Nat.reduceLT, Nat.reduceLeDiff, Nat.reduceEqDiff, Int.reduceAdd, Int.reduceLE, Int.toNat_natCast, Int.reduceToNat, Int.cast_ofNat_Int, true_and, and_true, false_and, and_false, true_implies, forall_const, eq_self, and_self, or_true, true_or, or_self, false_or, or_false, yI_sI, yR_sI, yC_sI, yN_sI, yI_sR, yR_sR, yC_sR, yN_sR, not_true_eq_false, not_false_eq_true, false_implies, implies_true, Nat.zero_add, Nat.add_zero, Nat.le_refl, Nat.reduceSub, Int.reduceSub, Int.reduceLT, Int.sub_zero, Int.sub_self, List.getElem?_toArray, List.getElem?_cons_zero, List.getElem?_cons_succ, Int.toNat_zero, Int.toNat_one, Int.lt_irrefl, yI_sB, yR_sB, yC_sB, yN_sB, MSh_sB_eq, pS_write_0, stp_iload_n, pS_write_1, stp_invokestatic, qmS_328, cy_S_isOwner, pS_write_4, stp_ifCond_ne, pS_write_7, stp_aload_n, pS_write_8, stp_bipush, pS_write_10, stp_invokevirtual, qmS_79, cy_S_refuse, ss_C0 hS, pS_write_13, stp_ireturn, pS_write_14, pS_write_15, qmS_126, cy_S_isMark, pS_write_18, stp_ifCond_eq, pS_write_21, pS_write_22, stp_getfield, qfS_40, rp_0_4, ss_R0_4 hS, ss_C5 hS, pS_write_25, pS_write_26, qmS_331, cy_K_ownerOf, pS_write_29, stp_iconst, pS_write_30, stp_if_icmp_eq, pS_write_33, pS_write_34, pS_write_36, pS_write_39, pS_write_40, pS_write_41, pS_write_44, qfS_334, rp_5_2, pS_write_47, pS_write_49, stp_if_icmp_lt, pS_write_52, pS_write_53, pS_write_55, pS_write_58, pS_write_59, pS_write_60, pS_write_63, pS_write_64, pS_write_65, qmS_335, cy_K_add, pS_write_68, pS_write_69, pS_write_72, pS_write_75, bp_m3, ic_m1, bp_m7, bp_20, bp_m8, nv_S_write, ml_S_write, fsS_isOwner, fsS_isMark, show ¬ (1 : Int32) = 0 by decide, h1, h2, rfS_7 hS, lvS_isOwner, lvS_isMark, lvK_ownerOf, lvK_add, lvS_refuse]
      refine Pst_rf (d := fun w => wrD w m o) (v := fun w => wI w 13 0 63 + 1) (W := fun w => wrW w m o) (okM_write l G) (by decide) (fun _ => rfl) h (b := 7) (by decide) rfl ?_
      show wrD w m o = _
      simp only [wrD, h1, h2, if_true, if_false, ite_true, ite_false, ↓reduceIte, Bool.false_eq_true, Bool.true_eq_false, reduceCtorEq, not_true_eq_false, not_false_eq_true, eq_self]
      rfl
    case true =>
      by_cases h4 : fnd w m = none
      case neg =>
        have n4 := wh_some (iv_K h) h4
        all_goals
          simp only [reduceCtorEq, fv0, fv1, fv2, fv3, bI_0, bI_1, bft, MSh_sI_eq, fsP_T, inL_0, inL_s, pad_0, pad_n, pad_s, wpn_s, wp1_s, lg_0, lg_s, lset_0, lset_s, kil_0, kil_s, st1_s, st2_s, isL_i, isL_l, isL_r, isL_n, spl_0, spl_s, cll_n, cll_s, catS_0, catS_s, jmp_s, alk_0, alk_s, otl_n, otl_s, List.nil_append, List.cons_append, List.contains_cons, List.contains_nil, Nat.reduceBEq, Bool.or_false, Bool.false_or, Bool.or_self, Bool.false_eq_true, Bool.true_or, Bool.or_true, if_true, if_false, ite_true, ite_false, ↓reduceIte, List.length_cons, List.length_nil, Nat.reduceAdd, Nat.reduceLT, Nat.reduceLeDiff, Nat.reduceEqDiff, Int.reduceAdd, Int.reduceLE, Int.toNat_natCast, Int.reduceToNat, Int.cast_ofNat_Int, true_and, and_true, false_and, and_false, true_implies, forall_const, eq_self, and_self, or_true, true_or, or_self, false_or, or_false, yI_sI, yR_sI, yC_sI, yN_sI, yI_sR, yR_sR, yC_sR, yN_sR, not_true_eq_false, not_false_eq_true, false_implies, implies_true, Nat.zero_add, Nat.add_zero, Nat.le_refl, Nat.reduceSub, Int.reduceSub, Int.reduceLT, Int.sub_zero, Int.sub_self, List.getElem?_toArray, List.getElem?_cons_zero, List.getElem?_cons_succ, Int.toNat_zero, Int.toNat_one, Int.lt_irrefl, yI_sB, yR_sB, yC_sB, yN_sB, MSh_sB_eq, pS_write_0, stp_iload_n, pS_write_1, stp_invokestatic, qmS_328, cy_S_isOwner, pS_write_4, stp_ifCond_ne, pS_write_7, stp_aload_n, pS_write_8, stp_bipush, pS_write_10, stp_invokevirtual, qmS_79, cy_S_refuse, ss_C0 hS, pS_write_13, stp_ireturn, pS_write_14, pS_write_15, qmS_126, cy_S_isMark, pS_write_18, stp_ifCond_eq, pS_write_21, pS_write_22, stp_getfield, qfS_40, rp_0_4, ss_R0_4 hS, ss_C5 hS, pS_write_25, pS_write_26, qmS_331, cy_K_ownerOf, pS_write_29, stp_iconst, pS_write_30, stp_if_icmp_eq, pS_write_33, pS_write_34, pS_write_36, pS_write_39, pS_write_40, pS_write_41, pS_write_44, qfS_334, rp_5_2, pS_write_47, pS_write_49, stp_if_icmp_lt, pS_write_52, pS_write_53, pS_write_55, pS_write_58, pS_write_59, pS_write_60, pS_write_63, pS_write_64, pS_write_65, qmS_335, cy_K_add, pS_write_68, pS_write_69, pS_write_72, pS_write_75, bp_m3, ic_m1, bp_m7, bp_20, bp_m8, nv_S_write, ml_S_write, fsS_isOwner, fsS_isMark, show ¬ (1 : Int32) = 0 by decide, ruK_ownerOf hl, h1, h2, h4, n4, rfS_7 hS, lvS_isOwner, lvS_isMark, lvK_ownerOf, lvK_add, lvS_refuse]
          refine Pst_rf (d := fun w => wrD w m o) (v := fun w => wI w 13 0 63 + 1) (W := fun w => wrW w m o) (okM_write l G) (by decide) (fun _ => rfl) h (b := 7) (by decide) rfl ?_
          show wrD w m o = _
          simp only [wrD, h1, h2, h4, if_true, if_false, ite_true, ite_false, ↓reduceIte, Bool.false_eq_true, Bool.true_eq_false, reduceCtorEq, not_true_eq_false, not_false_eq_true, eq_self]
          rfl
      case pos =>
        have e4 := wh_none h4
        have e5 := h0.2.2.2.1
        by_cases h5 : wI w 13 0 63 = 20
        case pos =>
          simp only [reduceCtorEq, fv0, fv1, fv2, fv3, bI_0, bI_1, bft, MSh_sI_eq, fsP_T, inL_0, inL_s, pad_0, pad_n, pad_s, wpn_s, wp1_s, lg_0, lg_s, lset_0, lset_s, kil_0, kil_s, st1_s, st2_s, isL_i, isL_l, isL_r, isL_n, spl_0, spl_s, cll_n, cll_s, catS_0, catS_s, jmp_s, alk_0, alk_s, otl_n, otl_s, List.nil_append, List.cons_append, List.contains_cons, List.contains_nil, Nat.reduceBEq, Bool.or_false, Bool.false_or, Bool.or_self, Bool.false_eq_true, Bool.true_or, Bool.or_true, if_true, if_false, ite_true, ite_false, ↓reduceIte, List.length_cons, List.length_nil, Nat.reduceAdd, Nat.reduceLT, Nat.reduceLeDiff, Nat.reduceEqDiff, Int.reduceAdd, Int.reduceLE, Int.toNat_natCast, Int.reduceToNat, Int.cast_ofNat_Int, true_and, and_true, false_and, and_false, true_implies, forall_const, eq_self, and_self, or_true, true_or, or_self, false_or, or_false, yI_sI, yR_sI, yC_sI, yN_sI, yI_sR, yR_sR, yC_sR, yN_sR, not_true_eq_false, not_false_eq_true, false_implies, implies_true, Nat.zero_add, Nat.add_zero, Nat.le_refl, Nat.reduceSub, Int.reduceSub, Int.reduceLT, Int.sub_zero, Int.sub_self, List.getElem?_toArray, List.getElem?_cons_zero, List.getElem?_cons_succ, Int.toNat_zero, Int.toNat_one, Int.lt_irrefl, yI_sB, yR_sB, yC_sB, yN_sB, MSh_sB_eq, pS_write_0, stp_iload_n, pS_write_1, stp_invokestatic, qmS_328, cy_S_isOwner, pS_write_4, stp_ifCond_ne, pS_write_7, stp_aload_n, pS_write_8, stp_bipush, pS_write_10, stp_invokevirtual, qmS_79, cy_S_refuse, ss_C0 hS, pS_write_13, stp_ireturn, pS_write_14, pS_write_15, qmS_126, cy_S_isMark, pS_write_18, stp_ifCond_eq, pS_write_21, pS_write_22, stp_getfield, qfS_40, rp_0_4, ss_R0_4 hS, ss_C5 hS, pS_write_25, pS_write_26, qmS_331, cy_K_ownerOf, pS_write_29, stp_iconst, pS_write_30, stp_if_icmp_eq, pS_write_33, pS_write_34, pS_write_36, pS_write_39, pS_write_40, pS_write_41, pS_write_44, qfS_334, rp_5_2, pS_write_47, pS_write_49, stp_if_icmp_lt, pS_write_52, pS_write_53, pS_write_55, pS_write_58, pS_write_59, pS_write_60, pS_write_63, pS_write_64, pS_write_65, qmS_335, cy_K_add, pS_write_68, pS_write_69, pS_write_72, pS_write_75, bp_m3, ic_m1, bp_m7, bp_20, bp_m8, nv_S_write, ml_S_write, fsS_isOwner, fsS_isMark, show ¬ (1 : Int32) = 0 by decide, ruK_ownerOf hl, e4, e5, Int32.lt_irrefl, h1, h2, h4, h5, rfS_8 hS, lvS_isOwner, lvS_isMark, lvK_ownerOf, lvK_add, lvS_refuse]
          refine Pst_rf (d := fun w => wrD w m o) (v := fun w => wI w 13 0 63 + 1) (W := fun w => wrW w m o) (okM_write l G) (by decide) (fun _ => rfl) h (b := 8) (by decide) rfl ?_
          show wrD w m o = _
          simp only [wrD, h1, h2, h4, h5, if_true, if_false, ite_true, ite_false, ↓reduceIte, Bool.false_eq_true, Bool.true_eq_false, reduceCtorEq, not_true_eq_false, not_false_eq_true, eq_self]
          rfl
        case neg =>
          have hlt := okc_lt h63 (c := 20) rfl h5
          have l5 : wI w 13 0 63 < 20 := by rw [h63.1]; exact nI_lt (b := 20) hlt (by omega)
          have rk := ruK_add (w := w) (a := m) (b := o) hS hlt (e5.trans h63.1)
          simp only [reduceCtorEq, fv0, fv1, fv2, fv3, bI_0, bI_1, bft, MSh_sI_eq, fsP_T, inL_0, inL_s, pad_0, pad_n, pad_s, wpn_s, wp1_s, lg_0, lg_s, lset_0, lset_s, kil_0, kil_s, st1_s, st2_s, isL_i, isL_l, isL_r, isL_n, spl_0, spl_s, cll_n, cll_s, catS_0, catS_s, jmp_s, alk_0, alk_s, otl_n, otl_s, List.nil_append, List.cons_append, List.contains_cons, List.contains_nil, Nat.reduceBEq, Bool.or_false, Bool.false_or, Bool.or_self, Bool.false_eq_true, Bool.true_or, Bool.or_true, if_true, if_false, ite_true, ite_false, ↓reduceIte, List.length_cons, List.length_nil, Nat.reduceAdd, Nat.reduceLT, Nat.reduceLeDiff, Nat.reduceEqDiff, Int.reduceAdd, Int.reduceLE, Int.toNat_natCast, Int.reduceToNat, Int.cast_ofNat_Int, true_and, and_true, false_and, and_false, true_implies, forall_const, eq_self, and_self, or_true, true_or, or_self, false_or, or_false, yI_sI, yR_sI, yC_sI, yN_sI, yI_sR, yR_sR, yC_sR, yN_sR, not_true_eq_false, not_false_eq_true, false_implies, implies_true, Nat.zero_add, Nat.add_zero, Nat.le_refl, Nat.reduceSub, Int.reduceSub, Int.reduceLT, Int.sub_zero, Int.sub_self, List.getElem?_toArray, List.getElem?_cons_zero, List.getElem?_cons_succ, Int.toNat_zero, Int.toNat_one, Int.lt_irrefl, yI_sB, yR_sB, yC_sB, yN_sB, MSh_sB_eq, pS_write_0, stp_iload_n, pS_write_1, stp_invokestatic, qmS_328, cy_S_isOwner, pS_write_4, stp_ifCond_ne, pS_write_7, stp_aload_n, pS_write_8, stp_bipush, pS_write_10, stp_invokevirtual, qmS_79, cy_S_refuse, ss_C0 hS, pS_write_13, stp_ireturn, pS_write_14, pS_write_15, qmS_126, cy_S_isMark, pS_write_18, stp_ifCond_eq, pS_write_21, pS_write_22, stp_getfield, qfS_40, rp_0_4, ss_R0_4 hS, ss_C5 hS, pS_write_25, pS_write_26, qmS_331, cy_K_ownerOf, pS_write_29, stp_iconst, pS_write_30, stp_if_icmp_eq, pS_write_33, pS_write_34, pS_write_36, pS_write_39, pS_write_40, pS_write_41, pS_write_44, qfS_334, rp_5_2, pS_write_47, pS_write_49, stp_if_icmp_lt, pS_write_52, pS_write_53, pS_write_55, pS_write_58, pS_write_59, pS_write_60, pS_write_63, pS_write_64, pS_write_65, qmS_335, cy_K_add, pS_write_68, pS_write_69, pS_write_72, pS_write_75, bp_m3, ic_m1, bp_m7, bp_20, bp_m8, nv_S_write, ml_S_write, fsS_isOwner, fsS_isMark, show ¬ (1 : Int32) = 0 by decide, ruK_ownerOf hl, e4, e5, Int32.lt_irrefl, h1, h2, h4, h5, l5, rk, kadW, lvS_isOwner, lvS_isMark, lvK_ownerOf, lvK_add, lvS_refuse]
          exact Pst_ok2 (d := fun w => wrD w m o) (v := fun w => wI w 13 0 63 + 1) (W := fun w => wrW w m o) (okM_write l G) (by decide) (fun _ => rfl) (fun _ => rfl) (fun _ => rfl) ((msk_sI rfl).trans ((msk_sI rfl).trans (msk_sI rfl))) hM (by simp only [wrD, h1, h2, h4, h5, if_true, if_false, ite_true, ite_false, ↓reduceIte, Bool.false_eq_true, Bool.true_eq_false, reduceCtorEq, not_true_eq_false, not_false_eq_true, eq_self]) (by rw [h63.1, nI_1]) (wr_inv h h1 rfl hlt)
end
