/-! calls: run -/
section
variable {l : Launch} {G : Gc} {c : Nat} {w : Wd}
theorem in_1k {x : Int32} (h : inR x 1 1000 = true) : ∃ j, 1 ≤ j ∧ j ≤ 1000 ∧ x = nI j := by
  obtain ⟨h1, h2⟩ := inR_spec h
  have n0 : ¬ x < 0 := fun z => h1 (by rw [Int32.lt_iff_toInt_lt] at z ⊢; have : (1 : Int32).toInt = 1 := by decide
                                       have : (0 : Int32).toInt = 0 := by decide
                                       omega)
  obtain ⟨j, hj, rfl⟩ := nI_of n0
  rw [show (1 : Int32) = nI 1 from rfl, nI_ltI hj (by omega)] at h1
  rw [show (1000 : Int32) = nI 1000 from rfl, nI_ltI (by omega) hj] at h2
  exact ⟨j, by omega, by omega, rfl⟩
theorem ru13 (h : Inv c w) : okc w 13 500 := by
  obtain ⟨F, F1, F2, -⟩ := iv_E h
  have e : cn w 13 = (F.map (fun f => f.1)).length := by rw [cn, F2.1]; exact nI_clamp (by have := F2.2.1; omega)
  exact ⟨by rw [e]; exact F2.1, by rw [e]; exact F2.2.1⟩
set_option maxRecDepth 100000 in
set_option maxHeartbeats 4000000 in
theorem ca_run (h : Inv c w) (hc : c < 1000) (x : Int32) : Cok l G c w mS_run mM_run [.inl x] := by
  have hS := iv_S h
  have hM := iv_M h
  have h13 := ru13 h
  obtain ⟨h2, -⟩ := iv_T h
  have e09 : wI w 0 0 9 = nI (cn w 2) := (iv_0 h).1.trans h2.1
  have e1 : ∀ w, fsM_run [.inr (.inr (some (13, 0))), .inl x] w = fsP (MOk w ∧ okc w 13 500) (some (.inl (rfV (rnD x) (cntN (rnB (sI w 13 0 2 (wI w 13 0 2 + x))) (cn w 17)))), rfO w (rnD x) (rnW (sI w 13 0 2 (wI w 13 0 2 + x)))) := fun _ => rfl
  refine ⟨18, by decide, Sem_of (by decide) rfl (Nat.le_of_ble_eq_true rfl) ?_⟩
  refine wpn_ok (M := mS_run) (C := cenS) (X := (alk [(75, lvS_within, fsS_within), (79, lvS_refuse, fsS_refuse)])) (tb := tS_run) (st := [54]) eoS (XOk_cons qmS_75 (okS_within l G) (XOk_cons qmS_79 (okS_refuse l G) XOk_nil)) kS_run 60 _ _ _ _ _ _ ?_
  by_cases q0 : 0 ≤ x
  case neg =>
    simp only [reduceCtorEq, fv0, fv1, fv2, fv3, bI_0, bI_1, bft, MSh_sI_eq, fsP_T, inL_0, inL_s, pad_0, pad_n, pad_s, wpn_s, wp1_s, lg_0, lg_s, lset_0, lset_s, kil_0, kil_s, st1_s, st2_s, isL_i, isL_l, isL_r, isL_n, spl_0, spl_s, cll_n, cll_s, catS_0, catS_s, jmp_s, alk_0, alk_s, otl_n, otl_s, List.nil_append, List.cons_append, List.contains_cons, List.contains_nil, Nat.reduceBEq, Bool.or_false, Bool.false_or, Bool.or_self, Bool.false_eq_true, Bool.true_or, Bool.or_true, if_true, if_false, ite_true, ite_false, ↓reduceIte, List.length_cons, List.length_nil, Nat.reduceAdd, Nat.reduceLT, Nat.reduceLeDiff, Nat.reduceEqDiff, Int.reduceAdd, Int.reduceLE, Int.toNat_natCast, Int.reduceToNat, Int.cast_ofNat_Int, true_and, and_true, false_and, and_false, true_implies, forall_const, eq_self, and_self, or_true, true_or, or_self, false_or, or_false, yI_sI, yR_sI, yC_sI, yN_sI, yI_sR, yR_sR, yC_sR, yN_sR, not_true_eq_false, not_false_eq_true, false_implies, implies_true, Nat.zero_add, Nat.add_zero, Nat.le_refl, Nat.reduceSub, Int.reduceSub, Int.reduceLT, Int.sub_zero, Int.sub_self, List.getElem?_toArray, List.getElem?_cons_zero, List.getElem?_cons_succ, Int.toNat_zero, Int.toNat_one, Int.lt_irrefl, yI_sB, yR_sB, yC_sB, yN_sB, MSh_sB_eq, pS_run_0, stp_iload_n, pS_run_1, stp_ifCond_ge, pS_run_4, stp_aload_n, pS_run_5, stp_bipush, pS_run_7, stp_invokevirtual, qmS_79, cy_S_refuse, ss_C0 hS, pS_run_10, stp_ireturn, pS_run_11, pS_run_12, stp_iconst, pS_run_13, stp_sipush, pS_run_16, stp_invokestatic, qmS_75, cy_S_within, pS_run_19, stp_ifCond_ne, pS_run_22, pS_run_23, pS_run_25, pS_run_28, pS_run_29, pS_run_30, stp_dup, pS_run_31, stp_getfield, qfS_71, rp_0_9, pS_run_34, pS_run_35, stp_iadd, pS_run_36, stp_putfield, fi_0_9, nr_0_9, pS_run_39, pS_run_40, qfS_12, rp_0_0, ss_R0_0 hS, ss_C1 hS, pS_run_43, pS_run_44, pS_run_47, qmS_343, cy_Y_forgetBefore, pS_run_50, pS_run_51, stp_istore_n, pS_run_52, pS_run_53, pS_run_54, pS_run_55, pS_run_56, qfS_19, rp_0_1, ss_R0_1 hS, ss_C2 hS, pS_run_59, qmS_96, cy_L_size, pS_run_62, stp_if_icmp_ge, pS_run_65, pS_run_66, pS_run_69, pS_run_70, qmS_277, cy_L_get, pS_run_73, stp_checkcast, qtS_132, pS_run_76, pS_run_77, pS_run_80, qmS_346, cy_O_arrive, pS_run_83, stp_ifCond_eq, pS_run_86, stp_iinc, pS_run_89, pS_run_92, stp_goto, pS_run_95, pS_run_96, bp_m4, ic_1, sp_1000, bp_m7, ic_0, nv_S_run, ml_S_run, q0, rfS_4 hS, lvS_refuse, lvS_within]
    have hd : rnD x = -4 := by simp only [rnD, q0, not_false_eq_true, if_true]
    have e2 : fsM_run [.inr (.inr (some (13, 0))), .inl x] (rfs w 4) = some (some (.inl (-4)), rfz (rfs w 4) 4) := by
      rw [e1, fsP_t ⟨rfs_M hM, h13⟩, hd]
      unfold rfV rfO
      rw [if_neg z4, if_neg z4, cl4]
    have e3 : Inv (c + 1) (rfz (rfs w 4) 4) := Inv_rf h
    exact Pst_fs (okM_run l G) (by decide) e2 e3
  case pos =>
    cases hi : inR x 1 1000 with
    | false =>
      simp only [reduceCtorEq, fv0, fv1, fv2, fv3, bI_0, bI_1, bft, MSh_sI_eq, fsP_T, inL_0, inL_s, pad_0, pad_n, pad_s, wpn_s, wp1_s, lg_0, lg_s, lset_0, lset_s, kil_0, kil_s, st1_s, st2_s, isL_i, isL_l, isL_r, isL_n, spl_0, spl_s, cll_n, cll_s, catS_0, catS_s, jmp_s, alk_0, alk_s, otl_n, otl_s, List.nil_append, List.cons_append, List.contains_cons, List.contains_nil, Nat.reduceBEq, Bool.or_false, Bool.false_or, Bool.or_self, Bool.false_eq_true, Bool.true_or, Bool.or_true, if_true, if_false, ite_true, ite_false, ↓reduceIte, List.length_cons, List.length_nil, Nat.reduceAdd, Nat.reduceLT, Nat.reduceLeDiff, Nat.reduceEqDiff, Int.reduceAdd, Int.reduceLE, Int.toNat_natCast, Int.reduceToNat, Int.cast_ofNat_Int, true_and, and_true, false_and, and_false, true_implies, forall_const, eq_self, and_self, or_true, true_or, or_self, false_or, or_false, yI_sI, yR_sI, yC_sI, yN_sI, yI_sR, yR_sR, yC_sR, yN_sR, not_true_eq_false, not_false_eq_true, false_implies, implies_true, Nat.zero_add, Nat.add_zero, Nat.le_refl, Nat.reduceSub, Int.reduceSub, Int.reduceLT, Int.sub_zero, Int.sub_self, List.getElem?_toArray, List.getElem?_cons_zero, List.getElem?_cons_succ, Int.toNat_zero, Int.toNat_one, Int.lt_irrefl, yI_sB, yR_sB, yC_sB, yN_sB, MSh_sB_eq, pS_run_0, stp_iload_n, pS_run_1, stp_ifCond_ge, pS_run_4, stp_aload_n, pS_run_5, stp_bipush, pS_run_7, stp_invokevirtual, qmS_79, cy_S_refuse, ss_C0 hS, pS_run_10, stp_ireturn, pS_run_11, pS_run_12, stp_iconst, pS_run_13, stp_sipush, pS_run_16, stp_invokestatic, qmS_75, cy_S_within, pS_run_19, stp_ifCond_ne, pS_run_22, pS_run_23, pS_run_25, pS_run_28, pS_run_29, pS_run_30, stp_dup, pS_run_31, stp_getfield, qfS_71, rp_0_9, pS_run_34, pS_run_35, stp_iadd, pS_run_36, stp_putfield, fi_0_9, nr_0_9, pS_run_39, pS_run_40, qfS_12, rp_0_0, ss_R0_0 hS, ss_C1 hS, pS_run_43, pS_run_44, pS_run_47, qmS_343, cy_Y_forgetBefore, pS_run_50, pS_run_51, stp_istore_n, pS_run_52, pS_run_53, pS_run_54, pS_run_55, pS_run_56, qfS_19, rp_0_1, ss_R0_1 hS, ss_C2 hS, pS_run_59, qmS_96, cy_L_size, pS_run_62, stp_if_icmp_ge, pS_run_65, pS_run_66, pS_run_69, pS_run_70, qmS_277, cy_L_get, pS_run_73, stp_checkcast, qtS_132, pS_run_76, pS_run_77, pS_run_80, qmS_346, cy_O_arrive, pS_run_83, stp_ifCond_eq, pS_run_86, stp_iinc, pS_run_89, pS_run_92, stp_goto, pS_run_95, pS_run_96, bp_m4, ic_1, sp_1000, bp_m7, ic_0, nv_S_run, ml_S_run, q0, fsS_within, hi, rfS_7 hS, lvS_refuse, lvS_within]
      have hd : rnD x = -7 := by simp only [rnD, q0, hi, not_true_eq_false, if_true, if_false]
      have e2 : fsM_run [.inr (.inr (some (13, 0))), .inl x] (rfs w 7) = some (some (.inl (-7)), rfz (rfs w 7) 7) := by
        rw [e1, fsP_t ⟨rfs_M hM, h13⟩, hd]
        unfold rfV rfO
        rw [if_neg z7, if_neg z7, cl7]
      have e3 : Inv (c + 1) (rfz (rfs w 7) 7) := Inv_rf h
      exact Pst_fs (okM_run l G) (by decide) e2 e3
    | true =>
      have hd : rnD x = 0 := by simp only [rnD, q0, hi, not_true_eq_false, Bool.true_eq_false, if_false]
      obtain ⟨j, j1, j2, rfl⟩ := in_1k hi
      obtain ⟨F, F1, -⟩ := iv_E h
      have b2 := h2.2
      simp only [reduceCtorEq, fv0, fv1, fv2, fv3, bI_0, bI_1, bft, MSh_sI_eq, fsP_T, inL_0, inL_s, pad_0, pad_n, pad_s, wpn_s, wp1_s, lg_0, lg_s, lset_0, lset_s, kil_0, kil_s, st1_s, st2_s, isL_i, isL_l, isL_r, isL_n, spl_0, spl_s, cll_n, cll_s, catS_0, catS_s, jmp_s, alk_0, alk_s, otl_n, otl_s, List.nil_append, List.cons_append, List.contains_cons, List.contains_nil, Nat.reduceBEq, Bool.or_false, Bool.false_or, Bool.or_self, Bool.false_eq_true, Bool.true_or, Bool.or_true, if_true, if_false, ite_true, ite_false, ↓reduceIte, List.length_cons, List.length_nil, Nat.reduceAdd, Nat.reduceLT, Nat.reduceLeDiff, Nat.reduceEqDiff, Int.reduceAdd, Int.reduceLE, Int.toNat_natCast, Int.reduceToNat, Int.cast_ofNat_Int, true_and, and_true, false_and, and_false, true_implies, forall_const, eq_self, and_self, or_true, true_or, or_self, false_or, or_false, yI_sI, yR_sI, yC_sI, yN_sI, yI_sR, yR_sR, yC_sR, yN_sR, not_true_eq_false, not_false_eq_true, false_implies, implies_true, Nat.zero_add, Nat.add_zero, Nat.le_refl, Nat.reduceSub, Int.reduceSub, Int.reduceLT, Int.sub_zero, Int.sub_self, List.getElem?_toArray, List.getElem?_cons_zero, List.getElem?_cons_succ, Int.toNat_zero, Int.toNat_one, Int.lt_irrefl, yI_sB, yR_sB, yC_sB, yN_sB, MSh_sB_eq, pS_run_0, stp_iload_n, pS_run_1, stp_ifCond_ge, pS_run_4, stp_aload_n, pS_run_5, stp_bipush, pS_run_7, stp_invokevirtual, qmS_79, cy_S_refuse, ss_C0 hS, pS_run_10, stp_ireturn, pS_run_11, pS_run_12, stp_iconst, pS_run_13, stp_sipush, pS_run_16, stp_invokestatic, qmS_75, cy_S_within, pS_run_19, stp_ifCond_ne, pS_run_22, pS_run_23, pS_run_25, pS_run_28, pS_run_29, pS_run_30, stp_dup, pS_run_31, stp_getfield, qfS_71, rp_0_9, pS_run_34, pS_run_35, stp_iadd, pS_run_36, stp_putfield, fi_0_9, nr_0_9, pS_run_39, pS_run_40, qfS_12, rp_0_0, ss_R0_0 hS, ss_C1 hS, pS_run_43, pS_run_44, pS_run_47, qmS_343, cy_Y_forgetBefore, pS_run_50, pS_run_51, stp_istore_n, pS_run_52, pS_run_53, pS_run_54, pS_run_55, pS_run_56, qfS_19, rp_0_1, ss_R0_1 hS, ss_C2 hS, pS_run_59, qmS_96, cy_L_size, pS_run_62, stp_if_icmp_ge, pS_run_65, pS_run_66, pS_run_69, pS_run_70, qmS_277, cy_L_get, pS_run_73, stp_checkcast, qtS_132, pS_run_76, pS_run_77, pS_run_80, qmS_346, cy_O_arrive, pS_run_83, stp_ifCond_eq, pS_run_86, stp_iinc, pS_run_89, pS_run_92, stp_goto, pS_run_95, pS_run_96, bp_m4, ic_1, sp_1000, bp_m7, ic_0, nv_S_run, ml_S_run, q0, fsS_within, hi, e09, nI_add, show ¬ (1 : Int32) = 0 by decide, lvS_refuse, lvS_within]
      refine ⟨4, 0, 0, by decide, by decide, by decide, (smY_forgetR (v := nI (cn w 2 + j)) (iv_y h) F1 (by omega)).mono fun rr w' h' => ?_⟩
      obtain ⟨rfl, rfl⟩ := h'
      have hk : sI (yfU w (cn w 2 + j) (cn w 6)) 0 0 9 (nI (cn w 2 + j)) = rkU w (cn w 2 + j) := rfl
      rw [hk]
      have hSk : SSh (rkU w (cn w 2 + j)) := SSh_of hS (rkU_2 w _)
      have hLk : LiS (rkU w (cn w 2 + j)) 1 (cn w 17) (fun j => (10, j)) := LiS_cg (rkU_2 w _) (by rw [rkU_I _ _ _ _ _ (by omega), if_neg (by omega)]) (iv_l h).2.2.2.1
      have h9k : wI (rkU w (cn w 2 + j)) 0 0 9 = nI (cn w 2 + j) := by rw [rkU_I _ _ _ _ _ (by omega), if_pos ⟨rfl, rfl, rfl⟩]
      have h10k : cn w 17 ≤ wC (rkU w (cn w 2 + j)) 10 := by rw [w2_C (rkU_2 w _), (iv_N h).2.2.1]; exact Nat.le_refl _
      have fin : Pst l G c mM_run [.inl (nI j)] (some (.inl (cntN (fun j' => arB (rkU w (cn w 2 + j)) j' (nI (cn w 2 + j))) (cn w 17)))) (raU (rkU w (cn w 2 + j)) (nI (cn w 2 + j)) (cn w 17)) := by
        have hA : raU (rkU w (cn w 2 + j)) (nI (cn w 2 + j)) (cn w 17) = rkA w (cn w 2 + j) := rfl
        rw [hA]
        have mm : ∀ t k i, isC t = false → wI (rkA w (cn w 2 + j)) t k i = wI w t k i := fun t k i hc => by
          rw [rkA_I _ _ _ _ _ (by rintro (rfl | ⟨rfl, -⟩) <;> cases hc), if_neg (by rintro ⟨rfl, -⟩; cases hc), if_neg (by rintro ⟨rfl, -⟩; cases hc)]
        have m : msk (rkA w (cn w 2 + j)) = msk w := msk_ag (rkA_2 w _) mm
        have g17 := cn_cg (w := w) (w' := rkA w (cn w 2 + j)) (mm 13 0 17 rfl)
        have e2 : fsM_run [.inr (.inr (some (13, 0))), .inl (nI j)] (rkA w (cn w 2 + j)) = some (some (.inl (cntN (fun j' => arB (rkU w (cn w 2 + j)) j' (nI (cn w 2 + j))) (cn w 17))), rnW (sI (rkA w (cn w 2 + j)) 13 0 2 (nI (cn w 2 + j)))) := by
          rw [e1, fsP_t ⟨MOk_m m hM, okc_cg (mm 13 0 13 rfl) h13⟩, hd, mm 13 0 2 rfl, h2.1, nI_add, g17]
          have ec : cntN (rnB (sI (rkA w (cn w 2 + j)) 13 0 2 (nI (cn w 2 + j)))) (cn w 17) = cntN (fun j' => arB (rkU w (cn w 2 + j)) j' (nI (cn w 2 + j))) (cn w 17) := cntN_congr fun i hi => by
            rw [rkU_b, ru_b h hi]
            unfold rnB
            rw [yI_sI, if_neg (by omega), yI_sI, if_pos ⟨rfl, rfl, rfl⟩, mm 125 0 i rfl]
          unfold rfV rfO
          rw [if_pos rfl, if_pos rfl, ec]
        exact Pst_fs (okM_run l G) (by decide) e2 (ru_inv h hc h2.1 b2 j2 rfl)
      have lp := lpS_run (l := l) (G := G) (n := 18) (mc := 8) (ms := 100) (cu := 0 + 0) (su := 0 + 0) (x := nI j) (Q := Pst l G c mM_run [.inl (nI j)]) (by decide) hSk hLk (by have := hM.2.2.2.1.2; omega) h9k h10k fin (cn w 17) 0 (Nat.zero_add _)
      rw [raU_0] at lp
      revert lp hSk h9k
      generalize rkU w (cn w 2 + j) = u
      intro hSk h9k lp
      refine wpn_ok (M := mS_run) (C := cenS) (X := (alk [(96, lvL_size, fsL_size)])) (tb := tS_run) (st := [54]) eoS (XOk_cons qmS_96 (okL_size l G) XOk_nil) kS_run 60 _ _ _ _ _ _ ?_
      simp only [reduceCtorEq, fv0, fv1, fv2, fv3, bI_0, bI_1, bft, MSh_sI_eq, fsP_T, inL_0, inL_s, pad_0, pad_n, pad_s, wpn_s, wp1_s, lg_0, lg_s, lset_0, lset_s, kil_0, kil_s, st1_s, st2_s, isL_i, isL_l, isL_r, isL_n, spl_0, spl_s, cll_n, cll_s, catS_0, catS_s, jmp_s, alk_0, alk_s, otl_n, otl_s, List.nil_append, List.cons_append, List.contains_cons, List.contains_nil, Nat.reduceBEq, Bool.or_false, Bool.false_or, Bool.or_self, Bool.false_eq_true, Bool.true_or, Bool.or_true, if_true, if_false, ite_true, ite_false, ↓reduceIte, List.length_cons, List.length_nil, Nat.reduceAdd, Nat.reduceLT, Nat.reduceLeDiff, Nat.reduceEqDiff, Int.reduceAdd, Int.reduceLE, Int.toNat_natCast, Int.reduceToNat, Int.cast_ofNat_Int, true_and, and_true, false_and, and_false, true_implies, forall_const, eq_self, and_self, or_true, true_or, or_self, false_or, or_false, yI_sI, yR_sI, yC_sI, yN_sI, yI_sR, yR_sR, yC_sR, yN_sR, not_true_eq_false, not_false_eq_true, false_implies, implies_true, Nat.zero_add, Nat.add_zero, Nat.le_refl, Nat.reduceSub, Int.reduceSub, Int.reduceLT, Int.sub_zero, Int.sub_self, List.getElem?_toArray, List.getElem?_cons_zero, List.getElem?_cons_succ, Int.toNat_zero, Int.toNat_one, Int.lt_irrefl, yI_sB, yR_sB, yC_sB, yN_sB, MSh_sB_eq, pS_run_0, stp_iload_n, pS_run_1, stp_ifCond_ge, pS_run_4, stp_aload_n, pS_run_5, stp_bipush, pS_run_7, stp_invokevirtual, qmS_79, cy_S_refuse, ss_C0 hSk, pS_run_10, stp_ireturn, pS_run_11, pS_run_12, stp_iconst, pS_run_13, stp_sipush, pS_run_16, stp_invokestatic, qmS_75, cy_S_within, pS_run_19, stp_ifCond_ne, pS_run_22, pS_run_23, pS_run_25, pS_run_28, pS_run_29, pS_run_30, stp_dup, pS_run_31, stp_getfield, qfS_71, rp_0_9, pS_run_34, pS_run_35, stp_iadd, pS_run_36, stp_putfield, fi_0_9, nr_0_9, pS_run_39, pS_run_40, qfS_12, rp_0_0, ss_R0_0 hSk, ss_C1 hSk, pS_run_43, pS_run_44, pS_run_47, qmS_343, cy_Y_forgetBefore, pS_run_50, pS_run_51, stp_istore_n, pS_run_52, pS_run_53, pS_run_54, pS_run_55, pS_run_56, qfS_19, rp_0_1, ss_R0_1 hSk, ss_C2 hSk, pS_run_59, qmS_96, cy_L_size, pS_run_62, stp_if_icmp_ge, pS_run_65, pS_run_66, pS_run_69, pS_run_70, qmS_277, cy_L_get, pS_run_73, stp_checkcast, qtS_132, pS_run_76, pS_run_77, pS_run_80, qmS_346, cy_O_arrive, pS_run_83, stp_ifCond_eq, pS_run_86, stp_iinc, pS_run_89, pS_run_92, stp_goto, pS_run_95, pS_run_96, bp_m4, ic_1, sp_1000, bp_m7, ic_0, nv_S_run, ml_S_run, Option.toList_none]
      exact lp
end
