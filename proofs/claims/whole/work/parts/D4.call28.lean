/-! calls: drive -/
theorem drOk_f {w : Wd} : ∀ {w' : Wd}, w' = w → drOk w → drOk w' := fun h => by rw [h]; exact id
section
variable {l : Launch} {G : Gc} {c : Nat} {w : Wd}
theorem by_inv2 {a b : Nat} (h : Inv c w) : Inv (c + 1) (rfz (wkW (rfs (fiW w a b 16) 2) a b) 2) := by
  have h1 : Inv (c + 1) (rfz (rfs (fiW w a b 16) 2) 2) := Inv_rf (fi_inv h)
  have g : ∀ t k i, ¬ (t = 13 ∧ i = 12) → ¬ (t = 110 ∨ t = 111) → wI (rfz (wkW (rfs (fiW w a b 16) 2) a b) 2) t k i = wI (rfz (rfs (fiW w a b 16) 2) 2) t k i := fun t k i n2 n3 => by
    generalize rfs (fiW w a b 16) 2 = w0
    unfold rfz
    rw [yI_sI, yI_sI, wkW_I, wkW_I, if_neg (show ¬ (101 = 13 ∧ 0 = 0 ∧ 2 = 12) by omega), if_neg (show ¬ (101 = 111 ∧ 0 = 0) by omega), if_neg (show ¬ (101 = 110 ∧ 0 = 0) by omega), if_neg (show ¬ (t = 13 ∧ k = 0 ∧ i = 12) by omega), if_neg (show ¬ (t = 111 ∧ k = 0) by omega), if_neg (show ¬ (t = 110 ∧ k = 0) by omega)]
  exact Inv_cg (c := c + 1) (w := rfz (rfs (fiW w a b 16) 2) 2) (Nat.le_refl _) rfl (Cp0_cg' (fun t k i ht => g t k i (by omega) (by omega)) (iv_0 h1)) (fun t k i ht => g t k i (Kp_no ht).2.1 (fun z => (Kp_no ht).2.2 (by omega))) h1
/-- a world that the reference sees as w: its drives can go -/
theorem drOk_m {u : Wd} (h : Inv c w) (hc : c < 1000) (h2 : u.2 = w.2) (m : ∀ t k i, isC t = false → wI u t k i = wI w t k i) : MOk u ∧ wkOk u ∧ drOk u := by
  obtain ⟨F, F1, F2, F3, F4⟩ := iv_E h
  have hM := iv_M h
  obtain ⟨T1, -⟩ := iv_T h
  have T2 := T1.2
  have hk := (iv_Y h).2.1.1
  have mt : ∀ t k i, ((107 ≤ t ∧ t ≤ 109) ∨ (t = 13 ∧ (i = 6 ∨ i = 3))) → wI u t k i = wI w t k i := fun t k i ht => m t k i (by rcases ht with ht | ⟨rfl, -⟩; (rcases (show t = 107 ∨ t = 108 ∨ t = 109 by omega) with rfl | rfl | rfl <;> rfl); rfl)
  have egu : grf u = grf w := grf_cg fun t k i ht => mt t k i (by omega)
  have hku : wkOk u := wkOk_cg (MSh_of hM.1 h2) (fun t k i ht => mt t k i (by omega)) hk
  have hEu : RfE u (F.map (fun f => f.1)) := RfE_eq F2 egu (m _ _ _ rfl) (fun i _ => ⟨m _ _ _ rfl, m _ _ _ rfl, m _ _ _ rfl⟩)
  have hlen : (F.map (fun f => f.1)).length + 13 ≤ 500 := by
    rw [List.length_map]
    have := own_len (cn w 17) F (fun f hf => (F4.2.2 f hf).1) F4.2.1
    have := hM.2.2.2.1.2
    omega
  refine ⟨MOk_cg (MSh_of hM.1 h2) (fun t k i ht => m t k i (by rcases ht with ⟨rfl, -⟩ | rfl | rfl <;> rfl)) hM, hku, fun x y hx hy hxy => ?_⟩
  exact (dr_go (w := u) (B := 1400 * c) (t0 := cn w 2) hEu hku (by rw [egu]; exact F3) (by omega) (by omega) (by rw [m _ _ _ rfl]; exact T1.1) hlen hx hy hxy).1
set_option maxRecDepth 100000 in
set_option maxHeartbeats 4000000 in
theorem ca_drive (h : Inv c w) (hc : c < 1000) (v x : Int32) : Cok l G c w mS_drive mM_drive [.inl v, .inl x] := by
  have hS := iv_S h
  have hM := iv_M h
  have h0 := iv_0 h
  have hl := iv_l h
  have hy := iv_y h
  have h3 := hM.2.1
  have h17 := hM.2.2.2.1
  obtain ⟨T1, -⟩ := iv_T h
  have T2 := T1.2
  have ru1 := ruY_hasPlace (p := x) hS h3 h0
  have e1 : ∀ w, fsM_drive [.inr (.inr (some (13, 0))), .inl v, .inl x] w = fsP (MOk w ∧ wkOk w ∧ drOk w) (some (.inl (drV w v x)), drW w v x) := fun _ => rfl
  have rf : ∀ b : Nat, 0 < b ∧ b < 9 → drD w v x = -nI b → Pst l G c mM_drive [.inl v, .inl x] (some (.inl (-nI b))) (rfs w b) := fun b hb hd => by
    have hd2 : drD (rfs w b) v x = -nI b := by rw [← hd]; rfl
    have hz : ¬ -nI b = 0 := fun z => by
      have e : - -nI b = nI b := by simp
      rw [z] at e
      have := (nI_eq (a := 0) (b := b) (by omega) (by omega)).mp (by rw [← e]; rfl)
      omega
    have e : - -nI b = nI b := by simp
    have e2 : fsM_drive [.inr (.inr (some (13, 0))), .inl v, .inl x] (rfs w b) = some (some (.inl (-nI b)), rfz (rfs w b) b) := by
      rw [e1, fsP_t (drOk_m (u := rfs w b) h hc rfl (fun t k i hc => by unfold rfs; rw [yI_sI, if_neg (by rintro ⟨rfl, -⟩; cases hc)]))]
      unfold drV drW
      rw [hd2, if_neg hz, if_neg hz, e, nI_clamp (by omega)]
    have e3 : Inv (c + 1) (rfz (rfs w b) b) := Inv_rf h
    exact Pst_fs (okM_drive l G) (by decide) e2 e3
  refine ⟨18, by decide, Sem_of (by decide) rfl (Nat.le_of_ble_eq_true rfl) ?_⟩
  have t1 : ¬ (1 : Int32) = 0 := by decide
  refine wpn_ok (M := mS_drive) (C := cenS) (X := (alk [(141, lvS_lotAt, fsS_lotAt), (89, lvY_hasPlace, fsY_hasPlace), (202, lvS_mayBeDriven, fsS_mayBeDriven), (129, lvS_hasLot, fsS_hasLot), (104, lvY_find, fsY_find), (205, lvY_firstFree, fsY_firstFree), (209, lvY_take, fsY_take), (213, lvO_leave, fsO_leave), (79, lvS_refuse, fsS_refuse)])) (tb := tS_drive) (st := [85]) eoS (XOk_cons qmS_141 (okS_lotAt l G) (XOk_cons qmS_89 (okY_hasPlace l G) (XOk_cons qmS_202 (okS_mayBeDriven l G) (XOk_cons qmS_129 (okS_hasLot l G) (XOk_cons qmS_104 (okY_find l G) (XOk_cons qmS_205 (okY_firstFree l G) (XOk_cons qmS_209 (okY_take l G) (XOk_cons qmS_213 (okO_leave l G) (XOk_cons qmS_79 (okS_refuse l G) XOk_nil))))))))) kS_drive 150 _ _ _ _ _ _ ?_
  cases h1 : inR v 0 (wI w 13 0 17 - 1) with
  | false =>
    simp only [reduceCtorEq, fv0, fv1, fv2, fv3, bI_0, bI_1, bft, MSh_sI_eq, fsP_T, inL_0, inL_s, pad_0, pad_n, pad_s, wpn_s, wp1_s, lg_0, lg_s, lset_0, lset_s, kil_0, kil_s, st1_s, st2_s, isL_i, isL_l, isL_r, isL_n, spl_0, spl_s, cll_n, cll_s, catS_0, catS_s, jmp_s, alk_0, alk_s, otl_n, otl_s, List.nil_append, List.cons_append, List.contains_cons, List.contains_nil, Nat.reduceBEq, Bool.or_false, Bool.false_or, Bool.or_self, Bool.false_eq_true, Bool.true_or, Bool.or_true, if_true, if_false, ite_true, ite_false, ↓reduceIte, List.length_cons, List.length_nil, Nat.reduceAdd, Nat.reduceLT, Nat.reduceLeDiff, Nat.reduceEqDiff, Int.reduceAdd, Int.reduceLE, Int.toNat_natCast, Int.reduceToNat, Int.cast_ofNat_Int, true_and, and_true, false_and, and_false, true_implies, forall_const, eq_self, and_self, or_true, true_or, or_self, false_or, or_false, yI_sI, yR_sI, yC_sI, yN_sI, yI_sR, yR_sR, yC_sR, yN_sR, not_true_eq_false, not_false_eq_true, false_implies, implies_true, Nat.zero_add, Nat.add_zero, Nat.le_refl, Nat.reduceSub, Int.reduceSub, Int.reduceLT, Int.sub_zero, Int.sub_self, List.getElem?_toArray, List.getElem?_cons_zero, List.getElem?_cons_succ, Int.toNat_zero, Int.toNat_one, Int.lt_irrefl, yI_sB, yR_sB, yC_sB, yN_sB, MSh_sB_eq, pS_drive_0, stp_aload_n, pS_drive_1, stp_iload_n, pS_drive_2, stp_invokevirtual, qmS_141, cy_S_lotAt, ss_C0 hS, pS_drive_5, stp_astore_n, pS_drive_6, pS_drive_7, stp_ifnull, pS_drive_10, pS_drive_11, stp_getfield, qfS_12, rp_0_0, ss_R0_0 hS, ss_C1 hS, pS_drive_14, pS_drive_15, qmS_89, cy_Y_hasPlace, pS_drive_18, stp_ifCond_ne, pS_drive_21, pS_drive_22, stp_bipush, pS_drive_24, qmS_79, cy_S_refuse, pS_drive_27, stp_ireturn, pS_drive_28, pS_drive_29, pS_drive_30, qmS_202, cy_S_mayBeDriven, pS_drive_33, stp_ifCond_eq, pS_drive_36, pS_drive_37, qfS_167, rp_10_7, pS_drive_40, pS_drive_41, stp_if_icmp_eq, pS_drive_44, pS_drive_45, pS_drive_46, qmS_129, cy_S_hasLot, pS_drive_49, pS_drive_52, pS_drive_53, pS_drive_55, pS_drive_58, pS_drive_59, pS_drive_60, pS_drive_63, pS_drive_64, pS_drive_67, pS_drive_68, pS_drive_69, qfS_63, rp_0_7, ss_R0_7 hS, ss_C8 hS, pS_drive_72, qmS_104, cy_Y_find, pS_drive_75, pS_drive_78, pS_drive_79, pS_drive_81, pS_drive_84, pS_drive_85, pS_drive_86, pS_drive_89, pS_drive_90, pS_drive_93, pS_drive_94, qfS_71, rp_0_9, pS_drive_97, qmS_205, cy_Y_firstFree, pS_drive_100, stp_istore, pS_drive_102, pS_drive_103, pS_drive_106, pS_drive_107, pS_drive_110, stp_iload, pS_drive_112, qmS_209, cy_Y_take, pS_drive_115, pS_drive_116, pS_drive_117, pS_drive_119, pS_drive_120, pS_drive_123, qfS_108, rp_8_3, pS_drive_126, stp_iadd, pS_drive_127, qmS_213, cy_O_leave, pS_drive_130, pS_drive_131, qfS_173, rp_10_9, pS_drive_134, bp_m3, bp_m7, bp_m2, nv_S_drive, ml_S_drive, ruS_lotAt hl, h1, rfS_3 hS, lvS_lotAt, lvY_hasPlace, lvS_mayBeDriven, lvS_hasLot, lvY_find, lvY_firstFree, lvY_take, lvO_leave, lvS_refuse]
    exact rf 3 (by decide) (by simp only [drD, h1, if_true]; rfl)
  | true =>
    obtain ⟨j, hj, ev⟩ := okc_in h17 (by omega) h1
    have ej : v.toNatClampNeg = j := by rw [ev]; exact nI_clamp (by have := h17.2; omega)
    have c10 := (iv_L h hj).1.1
    obtain ⟨-, -, -, -, -, -, e7, -⟩ := (iv_L h hj).2.1
    have rla := ruS_lotAt (v := v) hl
    rw [h1, ej] at rla
    have rm := ruS_mayBeDriven hl hj
    cases h2 : inR x 0 (wI w 13 0 3 - 1) with
    | false =>
      rw [h2] at ru1
      simp only [reduceCtorEq, fv0, fv1, fv2, fv3, bI_0, bI_1, bft, MSh_sI_eq, fsP_T, inL_0, inL_s, pad_0, pad_n, pad_s, wpn_s, wp1_s, lg_0, lg_s, lset_0, lset_s, kil_0, kil_s, st1_s, st2_s, isL_i, isL_l, isL_r, isL_n, spl_0, spl_s, cll_n, cll_s, catS_0, catS_s, jmp_s, alk_0, alk_s, otl_n, otl_s, List.nil_append, List.cons_append, List.contains_cons, List.contains_nil, Nat.reduceBEq, Bool.or_false, Bool.false_or, Bool.or_self, Bool.false_eq_true, Bool.true_or, Bool.or_true, if_true, if_false, ite_true, ite_false, ↓reduceIte, List.length_cons, List.length_nil, Nat.reduceAdd, Nat.reduceLT, Nat.reduceLeDiff, Nat.reduceEqDiff, Int.reduceAdd, Int.reduceLE, Int.toNat_natCast, Int.reduceToNat, Int.cast_ofNat_Int, true_and, and_true, false_and, and_false, true_implies, forall_const, eq_self, and_self, or_true, true_or, or_self, false_or, or_false, yI_sI, yR_sI, yC_sI, yN_sI, yI_sR, yR_sR, yC_sR, yN_sR, not_true_eq_false, not_false_eq_true, false_implies, implies_true, Nat.zero_add, Nat.add_zero, Nat.le_refl, Nat.reduceSub, Int.reduceSub, Int.reduceLT, Int.sub_zero, Int.sub_self, List.getElem?_toArray, List.getElem?_cons_zero, List.getElem?_cons_succ, Int.toNat_zero, Int.toNat_one, Int.lt_irrefl, yI_sB, yR_sB, yC_sB, yN_sB, MSh_sB_eq, pS_drive_0, stp_aload_n, pS_drive_1, stp_iload_n, pS_drive_2, stp_invokevirtual, qmS_141, cy_S_lotAt, ss_C0 hS, pS_drive_5, stp_astore_n, pS_drive_6, pS_drive_7, stp_ifnull, pS_drive_10, pS_drive_11, stp_getfield, qfS_12, rp_0_0, ss_R0_0 hS, ss_C1 hS, pS_drive_14, pS_drive_15, qmS_89, cy_Y_hasPlace, pS_drive_18, stp_ifCond_ne, pS_drive_21, pS_drive_22, stp_bipush, pS_drive_24, qmS_79, cy_S_refuse, pS_drive_27, stp_ireturn, pS_drive_28, pS_drive_29, pS_drive_30, qmS_202, cy_S_mayBeDriven, pS_drive_33, stp_ifCond_eq, pS_drive_36, pS_drive_37, qfS_167, rp_10_7, pS_drive_40, pS_drive_41, stp_if_icmp_eq, pS_drive_44, pS_drive_45, pS_drive_46, qmS_129, cy_S_hasLot, pS_drive_49, pS_drive_52, pS_drive_53, pS_drive_55, pS_drive_58, pS_drive_59, pS_drive_60, pS_drive_63, pS_drive_64, pS_drive_67, pS_drive_68, pS_drive_69, qfS_63, rp_0_7, ss_R0_7 hS, ss_C8 hS, pS_drive_72, qmS_104, cy_Y_find, pS_drive_75, pS_drive_78, pS_drive_79, pS_drive_81, pS_drive_84, pS_drive_85, pS_drive_86, pS_drive_89, pS_drive_90, pS_drive_93, pS_drive_94, qfS_71, rp_0_9, pS_drive_97, qmS_205, cy_Y_firstFree, pS_drive_100, stp_istore, pS_drive_102, pS_drive_103, pS_drive_106, pS_drive_107, pS_drive_110, stp_iload, pS_drive_112, qmS_209, cy_Y_take, pS_drive_115, pS_drive_116, pS_drive_117, pS_drive_119, pS_drive_120, pS_drive_123, qfS_108, rp_8_3, pS_drive_126, stp_iadd, pS_drive_127, qmS_213, cy_O_leave, pS_drive_130, pS_drive_131, qfS_173, rp_10_9, pS_drive_134, bp_m3, bp_m7, bp_m2, nv_S_drive, ml_S_drive, rla, ru1, t1, rfS_3 hS, lvS_lotAt, lvY_hasPlace, lvS_mayBeDriven, lvS_hasLot, lvY_find, lvY_firstFree, lvY_take, lvO_leave, lvS_refuse]
      exact rf 3 (by decide) (by simp only [drD, h1, h2, Bool.true_eq_false, if_true, if_false]; rfl)
    | true =>
      rw [h2] at ru1
      obtain ⟨p, hp, ep, ep2, -⟩ := okc_p h3 (by omega) h2
      have rh := ruS_hasLot hl h2
      have d7 : (wI w 123 0 j = -1 ∨ wI w 123 0 j = x ∨ isTkn w x = true ∨ wI w 104 0 (wI w 123 0 j).toNatClampNeg = 3) → drD w v x = -nI 7 := fun hc => by
        by_cases z1 : wI w 123 0 j = -1
        · simp only [drD, h1, h2, ej, z1, Bool.true_eq_false, if_true, if_false]; rfl
        · by_cases z2 : wI w 123 0 j = x
          · simp only [drD, h1, h2, ej, z1, eq_true z2, Bool.true_eq_false, if_true, if_false]; rfl
          · cases z3 : isTkn w x with
            | true => simp only [drD, h1, h2, ej, z1, z2, z3, Bool.true_eq_false, if_true, if_false]; rfl
            | false =>
              have z4 : wI w 104 0 (wI w 123 0 j).toNatClampNeg = 3 := by
                rcases hc with q | q | q | q
                · exact absurd q z1
                · exact absurd q z2
                · rw [q] at z3; cases z3
                · exact q
              simp only [drD, h1, h2, ej, z1, z2, z3, z4, Bool.true_eq_false, Bool.false_eq_true, if_true, if_false]; rfl
      cases hm : mbD w j with
      | false =>
        rw [hm] at rm
        simp only [reduceCtorEq, fv0, fv1, fv2, fv3, bI_0, bI_1, bft, MSh_sI_eq, fsP_T, inL_0, inL_s, pad_0, pad_n, pad_s, wpn_s, wp1_s, lg_0, lg_s, lset_0, lset_s, kil_0, kil_s, st1_s, st2_s, isL_i, isL_l, isL_r, isL_n, spl_0, spl_s, cll_n, cll_s, catS_0, catS_s, jmp_s, alk_0, alk_s, otl_n, otl_s, List.nil_append, List.cons_append, List.contains_cons, List.contains_nil, Nat.reduceBEq, Bool.or_false, Bool.false_or, Bool.or_self, Bool.false_eq_true, Bool.true_or, Bool.or_true, if_true, if_false, ite_true, ite_false, ↓reduceIte, List.length_cons, List.length_nil, Nat.reduceAdd, Nat.reduceLT, Nat.reduceLeDiff, Nat.reduceEqDiff, Int.reduceAdd, Int.reduceLE, Int.toNat_natCast, Int.reduceToNat, Int.cast_ofNat_Int, true_and, and_true, false_and, and_false, true_implies, forall_const, eq_self, and_self, or_true, true_or, or_self, false_or, or_false, yI_sI, yR_sI, yC_sI, yN_sI, yI_sR, yR_sR, yC_sR, yN_sR, not_true_eq_false, not_false_eq_true, false_implies, implies_true, Nat.zero_add, Nat.add_zero, Nat.le_refl, Nat.reduceSub, Int.reduceSub, Int.reduceLT, Int.sub_zero, Int.sub_self, List.getElem?_toArray, List.getElem?_cons_zero, List.getElem?_cons_succ, Int.toNat_zero, Int.toNat_one, Int.lt_irrefl, yI_sB, yR_sB, yC_sB, yN_sB, MSh_sB_eq, pS_drive_0, stp_aload_n, pS_drive_1, stp_iload_n, pS_drive_2, stp_invokevirtual, qmS_141, cy_S_lotAt, ss_C0 hS, pS_drive_5, stp_astore_n, pS_drive_6, pS_drive_7, stp_ifnull, pS_drive_10, pS_drive_11, stp_getfield, qfS_12, rp_0_0, ss_R0_0 hS, ss_C1 hS, pS_drive_14, pS_drive_15, qmS_89, cy_Y_hasPlace, pS_drive_18, stp_ifCond_ne, pS_drive_21, pS_drive_22, stp_bipush, pS_drive_24, qmS_79, cy_S_refuse, pS_drive_27, stp_ireturn, pS_drive_28, pS_drive_29, pS_drive_30, qmS_202, cy_S_mayBeDriven, pS_drive_33, stp_ifCond_eq, pS_drive_36, pS_drive_37, qfS_167, rp_10_7, pS_drive_40, pS_drive_41, stp_if_icmp_eq, pS_drive_44, pS_drive_45, pS_drive_46, qmS_129, cy_S_hasLot, pS_drive_49, pS_drive_52, pS_drive_53, pS_drive_55, pS_drive_58, pS_drive_59, pS_drive_60, pS_drive_63, pS_drive_64, pS_drive_67, pS_drive_68, pS_drive_69, qfS_63, rp_0_7, ss_R0_7 hS, ss_C8 hS, pS_drive_72, qmS_104, cy_Y_find, pS_drive_75, pS_drive_78, pS_drive_79, pS_drive_81, pS_drive_84, pS_drive_85, pS_drive_86, pS_drive_89, pS_drive_90, pS_drive_93, pS_drive_94, qfS_71, rp_0_9, pS_drive_97, qmS_205, cy_Y_firstFree, pS_drive_100, stp_istore, pS_drive_102, pS_drive_103, pS_drive_106, pS_drive_107, pS_drive_110, stp_iload, pS_drive_112, qmS_209, cy_Y_take, pS_drive_115, pS_drive_116, pS_drive_117, pS_drive_119, pS_drive_120, pS_drive_123, qfS_108, rp_8_3, pS_drive_126, stp_iadd, pS_drive_127, qmS_213, cy_O_leave, pS_drive_130, pS_drive_131, qfS_173, rp_10_9, pS_drive_134, bp_m3, bp_m7, bp_m2, nv_S_drive, ml_S_drive, rla, ru1, rm, t1, c10, rfS_7 hS, lvS_lotAt, lvY_hasPlace, lvS_mayBeDriven, lvS_hasLot, lvY_find, lvY_firstFree, lvY_take, lvO_leave, lvS_refuse]
        refine rf 7 (by decide) (d7 ?_)
        unfold mbD at hm
        by_cases z1 : wI w 123 0 j = -1
        · exact Or.inl z1
        · rw [decide_eq_false z1] at hm
          refine Or.inr (Or.inr (Or.inr ?_))
          by_cases z4 : wI w 104 0 (wI w 123 0 j).toNatClampNeg = 3
          · exact z4
          · rw [decide_eq_false z4] at hm; cases hm
      | true =>
        have z1 : ¬ wI w 123 0 j = -1 := fun z => by unfold mbD at hm; rw [decide_eq_true z] at hm; cases hm
        have z4 : ¬ wI w 104 0 (wI w 123 0 j).toNatClampNeg = 3 := fun z => by unfold mbD at hm; rw [decide_eq_true z, Bool.not_true, Bool.and_false] at hm; cases hm
        rw [hm] at rm
        by_cases z2 : wI w 123 0 j = x
        · simp only [reduceCtorEq, fv0, fv1, fv2, fv3, bI_0, bI_1, bft, MSh_sI_eq, fsP_T, inL_0, inL_s, pad_0, pad_n, pad_s, wpn_s, wp1_s, lg_0, lg_s, lset_0, lset_s, kil_0, kil_s, st1_s, st2_s, isL_i, isL_l, isL_r, isL_n, spl_0, spl_s, cll_n, cll_s, catS_0, catS_s, jmp_s, alk_0, alk_s, otl_n, otl_s, List.nil_append, List.cons_append, List.contains_cons, List.contains_nil, Nat.reduceBEq, Bool.or_false, Bool.false_or, Bool.or_self, Bool.false_eq_true, Bool.true_or, Bool.or_true, if_true, if_false, ite_true, ite_false, ↓reduceIte, List.length_cons, List.length_nil, Nat.reduceAdd, Nat.reduceLT, Nat.reduceLeDiff, Nat.reduceEqDiff, Int.reduceAdd, Int.reduceLE, Int.toNat_natCast, Int.reduceToNat, Int.cast_ofNat_Int, true_and, and_true, false_and, and_false, true_implies, forall_const, eq_self, and_self, or_true, true_or, or_self, false_or, or_false, yI_sI, yR_sI, yC_sI, yN_sI, yI_sR, yR_sR, yC_sR, yN_sR, not_true_eq_false, not_false_eq_true, false_implies, implies_true, Nat.zero_add, Nat.add_zero, Nat.le_refl, Nat.reduceSub, Int.reduceSub, Int.reduceLT, Int.sub_zero, Int.sub_self, List.getElem?_toArray, List.getElem?_cons_zero, List.getElem?_cons_succ, Int.toNat_zero, Int.toNat_one, Int.lt_irrefl, yI_sB, yR_sB, yC_sB, yN_sB, MSh_sB_eq, pS_drive_0, stp_aload_n, pS_drive_1, stp_iload_n, pS_drive_2, stp_invokevirtual, qmS_141, cy_S_lotAt, ss_C0 hS, pS_drive_5, stp_astore_n, pS_drive_6, pS_drive_7, stp_ifnull, pS_drive_10, pS_drive_11, stp_getfield, qfS_12, rp_0_0, ss_R0_0 hS, ss_C1 hS, pS_drive_14, pS_drive_15, qmS_89, cy_Y_hasPlace, pS_drive_18, stp_ifCond_ne, pS_drive_21, pS_drive_22, stp_bipush, pS_drive_24, qmS_79, cy_S_refuse, pS_drive_27, stp_ireturn, pS_drive_28, pS_drive_29, pS_drive_30, qmS_202, cy_S_mayBeDriven, pS_drive_33, stp_ifCond_eq, pS_drive_36, pS_drive_37, qfS_167, rp_10_7, pS_drive_40, pS_drive_41, stp_if_icmp_eq, pS_drive_44, pS_drive_45, pS_drive_46, qmS_129, cy_S_hasLot, pS_drive_49, pS_drive_52, pS_drive_53, pS_drive_55, pS_drive_58, pS_drive_59, pS_drive_60, pS_drive_63, pS_drive_64, pS_drive_67, pS_drive_68, pS_drive_69, qfS_63, rp_0_7, ss_R0_7 hS, ss_C8 hS, pS_drive_72, qmS_104, cy_Y_find, pS_drive_75, pS_drive_78, pS_drive_79, pS_drive_81, pS_drive_84, pS_drive_85, pS_drive_86, pS_drive_89, pS_drive_90, pS_drive_93, pS_drive_94, qfS_71, rp_0_9, pS_drive_97, qmS_205, cy_Y_firstFree, pS_drive_100, stp_istore, pS_drive_102, pS_drive_103, pS_drive_106, pS_drive_107, pS_drive_110, stp_iload, pS_drive_112, qmS_209, cy_Y_take, pS_drive_115, pS_drive_116, pS_drive_117, pS_drive_119, pS_drive_120, pS_drive_123, qfS_108, rp_8_3, pS_drive_126, stp_iadd, pS_drive_127, qmS_213, cy_O_leave, pS_drive_130, pS_drive_131, qfS_173, rp_10_9, pS_drive_134, bp_m3, bp_m7, bp_m2, nv_S_drive, ml_S_drive, rla, ru1, rm, t1, c10, e7, eq_true z2, rfS_7 hS, lvS_lotAt, lvY_hasPlace, lvS_mayBeDriven, lvS_hasLot, lvY_find, lvY_firstFree, lvY_take, lvO_leave, lvS_refuse]
          exact rf 7 (by decide) (d7 (Or.inr (Or.inl z2)))
        · cases z3 : isTkn w x with
          | true =>
            rw [z3] at rh
            simp only [reduceCtorEq, fv0, fv1, fv2, fv3, bI_0, bI_1, bft, MSh_sI_eq, fsP_T, inL_0, inL_s, pad_0, pad_n, pad_s, wpn_s, wp1_s, lg_0, lg_s, lset_0, lset_s, kil_0, kil_s, st1_s, st2_s, isL_i, isL_l, isL_r, isL_n, spl_0, spl_s, cll_n, cll_s, catS_0, catS_s, jmp_s, alk_0, alk_s, otl_n, otl_s, List.nil_append, List.cons_append, List.contains_cons, List.contains_nil, Nat.reduceBEq, Bool.or_false, Bool.false_or, Bool.or_self, Bool.false_eq_true, Bool.true_or, Bool.or_true, if_true, if_false, ite_true, ite_false, ↓reduceIte, List.length_cons, List.length_nil, Nat.reduceAdd, Nat.reduceLT, Nat.reduceLeDiff, Nat.reduceEqDiff, Int.reduceAdd, Int.reduceLE, Int.toNat_natCast, Int.reduceToNat, Int.cast_ofNat_Int, true_and, and_true, false_and, and_false, true_implies, forall_const, eq_self, and_self, or_true, true_or, or_self, false_or, or_false, yI_sI, yR_sI, yC_sI, yN_sI, yI_sR, yR_sR, yC_sR, yN_sR, not_true_eq_false, not_false_eq_true, false_implies, implies_true, Nat.zero_add, Nat.add_zero, Nat.le_refl, Nat.reduceSub, Int.reduceSub, Int.reduceLT, Int.sub_zero, Int.sub_self, List.getElem?_toArray, List.getElem?_cons_zero, List.getElem?_cons_succ, Int.toNat_zero, Int.toNat_one, Int.lt_irrefl, yI_sB, yR_sB, yC_sB, yN_sB, MSh_sB_eq, pS_drive_0, stp_aload_n, pS_drive_1, stp_iload_n, pS_drive_2, stp_invokevirtual, qmS_141, cy_S_lotAt, ss_C0 hS, pS_drive_5, stp_astore_n, pS_drive_6, pS_drive_7, stp_ifnull, pS_drive_10, pS_drive_11, stp_getfield, qfS_12, rp_0_0, ss_R0_0 hS, ss_C1 hS, pS_drive_14, pS_drive_15, qmS_89, cy_Y_hasPlace, pS_drive_18, stp_ifCond_ne, pS_drive_21, pS_drive_22, stp_bipush, pS_drive_24, qmS_79, cy_S_refuse, pS_drive_27, stp_ireturn, pS_drive_28, pS_drive_29, pS_drive_30, qmS_202, cy_S_mayBeDriven, pS_drive_33, stp_ifCond_eq, pS_drive_36, pS_drive_37, qfS_167, rp_10_7, pS_drive_40, pS_drive_41, stp_if_icmp_eq, pS_drive_44, pS_drive_45, pS_drive_46, qmS_129, cy_S_hasLot, pS_drive_49, pS_drive_52, pS_drive_53, pS_drive_55, pS_drive_58, pS_drive_59, pS_drive_60, pS_drive_63, pS_drive_64, pS_drive_67, pS_drive_68, pS_drive_69, qfS_63, rp_0_7, ss_R0_7 hS, ss_C8 hS, pS_drive_72, qmS_104, cy_Y_find, pS_drive_75, pS_drive_78, pS_drive_79, pS_drive_81, pS_drive_84, pS_drive_85, pS_drive_86, pS_drive_89, pS_drive_90, pS_drive_93, pS_drive_94, qfS_71, rp_0_9, pS_drive_97, qmS_205, cy_Y_firstFree, pS_drive_100, stp_istore, pS_drive_102, pS_drive_103, pS_drive_106, pS_drive_107, pS_drive_110, stp_iload, pS_drive_112, qmS_209, cy_Y_take, pS_drive_115, pS_drive_116, pS_drive_117, pS_drive_119, pS_drive_120, pS_drive_123, qfS_108, rp_8_3, pS_drive_126, stp_iadd, pS_drive_127, qmS_213, cy_O_leave, pS_drive_130, pS_drive_131, qfS_173, rp_10_9, pS_drive_134, bp_m3, bp_m7, bp_m2, nv_S_drive, ml_S_drive, rla, ru1, rm, rh, t1, c10, e7, z2, rfS_7 hS, lvS_lotAt, lvY_hasPlace, lvS_mayBeDriven, lvS_hasLot, lvY_find, lvY_firstFree, lvY_take, lvO_leave, lvS_refuse]
            exact rf 7 (by decide) (d7 (Or.inr (Or.inr (Or.inl z3))))
          | false =>
            rw [z3] at rh
            have hd0 : drD w v x = 0 := by simp only [drD, h1, h2, ej, z1, z2, z3, z4, Bool.true_eq_false, Bool.false_eq_true, if_false]
            obtain ⟨a, ha, ea⟩ := MOk_at2 hM hj z1
            have ea2 : (wI w 123 0 j).toNatClampNeg = a := by rw [ea]; exact nI_clamp (by have := h3.2; omega)
            have rfi : fsY_find [.inr (.inr (some (1, 0))), .inl (wI w 123 0 j), .inl x, .inr (.inr (some (8, 16)))] w = some (some (.inl (bI (decide (dsM w a p < 1000000)))), fiW w a p 16) := by
              rw [ea, ep]; exact ruY_find hy (by omega) ha hp
            have hS1 : SSh (fiW w a p 16) := SSh_of hS (fiW_2 w a p 16)
            have hI1 : ∀ t k i, ¬ (t = 8 ∨ t = 184 ∨ t = 185) → wI (fiW w a p 16) t k i = wI w t k i := fun t k i n1 => fiS_n n1
            have m1 : ∀ t k i, isC t = false → wI (fiW w a p 16) t k i = wI w t k i := fun t k i hc => hI1 t k i (by rintro (rfl | rfl | rfl) <;> cases hc)
            have wf := (WyF_fi (x := 16) hy ha hp).1
            have ed : dsM (fiW w a p 16) = dsM w := SmW_d (SmW_fi w a p 16 _)
            have eg : grf (fiW w a p 16) = grf w := SmW_g (SmW_fi w a p 16 _)
            rw [ed, eg] at wf
            by_cases hf : dsM w a p < 1000000
            · simp only [reduceCtorEq, fv0, fv1, fv2, fv3, bI_0, bI_1, bft, MSh_sI_eq, fsP_T, inL_0, inL_s, pad_0, pad_n, pad_s, wpn_s, wp1_s, lg_0, lg_s, lset_0, lset_s, kil_0, kil_s, st1_s, st2_s, isL_i, isL_l, isL_r, isL_n, spl_0, spl_s, cll_n, cll_s, catS_0, catS_s, jmp_s, alk_0, alk_s, otl_n, otl_s, List.nil_append, List.cons_append, List.contains_cons, List.contains_nil, Nat.reduceBEq, Bool.or_false, Bool.false_or, Bool.or_self, Bool.false_eq_true, Bool.true_or, Bool.or_true, if_true, if_false, ite_true, ite_false, ↓reduceIte, List.length_cons, List.length_nil, Nat.reduceAdd, Nat.reduceLT, Nat.reduceLeDiff, Nat.reduceEqDiff, Int.reduceAdd, Int.reduceLE, Int.toNat_natCast, Int.reduceToNat, Int.cast_ofNat_Int, true_and, and_true, false_and, and_false, true_implies, forall_const, eq_self, and_self, or_true, true_or, or_self, false_or, or_false, yI_sI, yR_sI, yC_sI, yN_sI, yI_sR, yR_sR, yC_sR, yN_sR, not_true_eq_false, not_false_eq_true, false_implies, implies_true, Nat.zero_add, Nat.add_zero, Nat.le_refl, Nat.reduceSub, Int.reduceSub, Int.reduceLT, Int.sub_zero, Int.sub_self, List.getElem?_toArray, List.getElem?_cons_zero, List.getElem?_cons_succ, Int.toNat_zero, Int.toNat_one, Int.lt_irrefl, yI_sB, yR_sB, yC_sB, yN_sB, MSh_sB_eq, pS_drive_0, stp_aload_n, pS_drive_1, stp_iload_n, pS_drive_2, stp_invokevirtual, qmS_141, cy_S_lotAt, ss_C0 hS, pS_drive_5, stp_astore_n, pS_drive_6, pS_drive_7, stp_ifnull, pS_drive_10, pS_drive_11, stp_getfield, qfS_12, rp_0_0, ss_R0_0 hS, ss_C1 hS, pS_drive_14, pS_drive_15, qmS_89, cy_Y_hasPlace, pS_drive_18, stp_ifCond_ne, pS_drive_21, pS_drive_22, stp_bipush, pS_drive_24, qmS_79, cy_S_refuse, pS_drive_27, stp_ireturn, pS_drive_28, pS_drive_29, pS_drive_30, qmS_202, cy_S_mayBeDriven, pS_drive_33, stp_ifCond_eq, pS_drive_36, pS_drive_37, qfS_167, rp_10_7, pS_drive_40, pS_drive_41, stp_if_icmp_eq, pS_drive_44, pS_drive_45, pS_drive_46, qmS_129, cy_S_hasLot, pS_drive_49, pS_drive_52, pS_drive_53, pS_drive_55, pS_drive_58, pS_drive_59, pS_drive_60, pS_drive_63, pS_drive_64, pS_drive_67, pS_drive_68, pS_drive_69, qfS_63, rp_0_7, ss_R0_7 hS, ss_C8 hS, pS_drive_72, qmS_104, cy_Y_find, pS_drive_75, pS_drive_78, pS_drive_79, pS_drive_81, pS_drive_84, pS_drive_85, pS_drive_86, pS_drive_89, pS_drive_90, pS_drive_93, pS_drive_94, qfS_71, rp_0_9, pS_drive_97, qmS_205, cy_Y_firstFree, pS_drive_100, stp_istore, pS_drive_102, pS_drive_103, pS_drive_106, pS_drive_107, pS_drive_110, stp_iload, pS_drive_112, qmS_209, cy_Y_take, pS_drive_115, pS_drive_116, pS_drive_117, pS_drive_119, pS_drive_120, pS_drive_123, qfS_108, rp_8_3, pS_drive_126, stp_iadd, pS_drive_127, qmS_213, cy_O_leave, pS_drive_130, pS_drive_131, qfS_173, rp_10_9, pS_drive_134, bp_m3, bp_m7, bp_m2, nv_S_drive, ml_S_drive, rla, ru1, rm, rh, rfi, t1, c10, e7, z2, hf, decide_true, lvS_lotAt, lvY_hasPlace, lvS_mayBeDriven, lvS_hasLot, lvY_find, lvY_firstFree, lvY_take, lvO_leave, lvS_refuse]
              obtain ⟨F, F1, F2, F3, F4⟩ := iv_E h
              obtain ⟨wc, w3, -⟩ := wf hf
              have hf1 := fi_inv (a := a) (b := p) h
              have hy1 := iv_y hf1
              have F1f : CpE (fiW w a p 16) (F.map (fun f => f.1)) := CpE_cg (w := w) (Exw_2 (fiW_2 _ _ _ _)) (fun t k i ht => hI1 t k i (by omega)) F1
              obtain ⟨D1, D2, D3, D4⟩ := dv_inv h hc hj ha hp ea hf T1.1 T2 F1 F2 F3 F4
              have rff := ruY_firstFree (x := 16) (t := cn w 2) hy1 (by omega) wc F1f (by rw [eg]; exact F3) (show cn w 2 ≤ 1400 * c by omega) (by omega)
              rw [eg] at rff
              have rtk := ruY_take (x := 16) (t := dvT w (F.map (fun f => f.1)) (cn w 2) a p) hy1 (by omega) wc (by
                obtain ⟨dd, -, q1, q2, -⟩ := lf_ok (κ := wyK (grf w) (dsM w) a p) (m := wyL (grf w) (dsM w) a p) (t := cn w 2) F3 (by omega) (by omega)
                unfold dvT
                rw [q1]
                omega) (by rw [eg]; exact D1)
              rw [eg] at rtk
              have e9 : wI (fiW w a p 16) 0 0 9 = nI (cn w 2) := by rw [hI1 _ _ _ (by omega), h0.1]; exact T1.1
              have eT : lfN (grf w) (F.map (fun f => f.1)) (wyK (grf w) (dsM w) a p) (wyL (grf w) (dsM w) a p) (cn w 2) = dvT w (F.map (fun f => f.1)) (cn w 2) a p := by unfold dvT; rfl
              rw [eT] at rff
              have rtk' : fsY_take [.inr (.inr (some (1, 0))), .inr (.inr (some (8, 16))), .inl (nI (dvT w (F.map (fun f => f.1)) (cn w 2) a p))] (fiW w a p 16) = some (none, dvW w (F.map (fun f => f.1)) (cn w 2) a p) := rtk
              have w3' : wI (dvW w (F.map (fun f => f.1)) (cn w 2) a p) 8 16 3 = nI (dsM w a p) := by
                unfold dvW
                rw [(tkW_E (fiW w a p 16) _ _ _ _).2 _ _ _ (by omega)]
                exact w3
              have hS2 : SSh (dvW w (F.map (fun f => f.1)) (cn w 2) a p) := SSh_of hS (dvW_2 _ _ _ _ _)
              have c102 : j < wC (dvW w (F.map (fun f => f.1)) (cn w 2) a p) 10 := by rw [w2_C (dvW_2 w (F.map (fun f => f.1)) (cn w 2) a p)]; exact c10
              have rlv := ruO_leave (a := nI p) (b := nI (dvT w (F.map (fun f => f.1)) (cn w 2) a p + dsM w a p)) c102
              have c103 : j < wC (dvL w (F.map (fun f => f.1)) (cn w 2) a p j) 10 := by rw [w2_C (dvL_2 w (F.map (fun f => f.1)) (cn w 2) a p j)]; exact c10
              have rlv' : fsO_leave [.inr (.inr (some (10, j))), .inl x, .inl (nI (dvT w (F.map (fun f => f.1)) (cn w 2) a p + dsM w a p))] (dvW w (F.map (fun f => f.1)) (cn w 2) a p) = some (none, dvL w (F.map (fun f => f.1)) (cn w 2) a p j) := by rw [ep]; exact rlv
              have v9 : wI (dvL w (F.map (fun f => f.1)) (cn w 2) a p j) 10 j 9 = nI (dvT w (F.map (fun f => f.1)) (cn w 2) a p + dsM w a p) := by rw [dvL_I _ _ _ _ _ _ _ _ _ (by omega), if_pos ⟨rfl, rfl, rfl⟩]
              have ok3 : MOk (dvL w (F.map (fun f => f.1)) (cn w 2) a p j) ∧ wkOk (dvL w (F.map (fun f => f.1)) (cn w 2) a p j) ∧ drOk (dvL w (F.map (fun f => f.1)) (cn w 2) a p j) := by
                have q1 := dvL_2 w (F.map (fun f => f.1)) (cn w 2) a p j
                have q2 := dvL_m w (F.map (fun f => f.1)) (cn w 2) a p j
                revert q1 q2
                generalize dvL w (F.map (fun f => f.1)) (cn w 2) a p j = u
                intro q1 q2
                exact drOk_m h hc q1 q2
              have q2 := dvL_m w (F.map (fun f => f.1)) (cn w 2) a p j
              have e2 : fsM_drive [.inr (.inr (some (13, 0))), .inl v, .inl x] (dvL w (F.map (fun f => f.1)) (cn w 2) a p j) = some (some (.inl (nI (dvT w (F.map (fun f => f.1)) (cn w 2) a p + dsM w a p))), sI (sI (sI (goU (wkW (dvL w (F.map (fun f => f.1)) (cn w 2) a p j) a p) (goT (wkW (dvL w (F.map (fun f => f.1)) (cn w 2) a p j) a p)) (cn (wkW (dvL w (F.map (fun f => f.1)) (cn w 2) a p j) a p) 12)) 125 0 j (nI (dvT w (F.map (fun f => f.1)) (cn w 2) a p + dsM w a p))) 123 0 j (-1)) 124 0 j x) := by
                revert q2 D3 ok3
                generalize dvL w (F.map (fun f => f.1)) (cn w 2) a p j = u
                intro D3 ok3 q2
                have mk : drD u v x = drD w v x := mskE1 (f := fun w => drD w v x) (fun _ => rfl) q2
                have mv : wkV u a p = wkV w a p := mskE1 (f := fun w => wkV w a p) (fun _ => rfl) q2
                have m123 := q2 123 0 j rfl
                have hd : drD u v x = 0 := mk.trans hd0
                have hn : drN u v x = false := by
                  unfold drN
                  rw [ej, m123, ea2, ep2, decide_eq_false]
                  have mv' : wkV u a p = wkV w a p := mv
                  rw [mv']
                  unfold wkV
                  rw [if_neg (by omega)]
                  exact nI_nm1 (by omega)
                rw [e1, fsP_t ok3]
                unfold drV drW
                rw [hd, if_pos rfl, if_pos rfl, hn, if_neg (by decide), if_neg (by decide)]
                unfold drT drG drK
                rw [ej, m123, ea2, ep2, D3]
              rw [← ep] at D4
              have fin : Pst l G c mM_drive [.inl v, .inl x] (some (.inl (nI (dvT w (F.map (fun f => f.1)) (cn w 2) a p + dsM w a p)))) (dvL w (F.map (fun f => f.1)) (cn w 2) a p j) := Pst_fs (okM_drive l G) (by decide) e2 D4
              have hC1 := ss_C0 hS1
              revert rff rtk' w3' hS2 c102 rlv' c103 v9 fin hS1 e9
              clear e2 D4 D3 D2 D1 q2 ok3 rlv rtk
              generalize dvT w (F.map (fun f => f.1)) (cn w 2) a p = T
              generalize dvL w (F.map (fun f => f.1)) (cn w 2) a p j = u3
              generalize dvW w (F.map (fun f => f.1)) (cn w 2) a p = u2
              generalize fiW w a p 16 = u1
              intro hS1 e9 rff rtk' w3' hS2 c102 c103 rlv' v9 fin
              refine wpn_ok (M := mS_drive) (C := cenS) (X := (alk [(205, lvY_firstFree, fsY_firstFree), (209, lvY_take, fsY_take), (213, lvO_leave, fsO_leave)])) (tb := tS_drive) (st := []) eoS (XOk_cons qmS_205 (okY_firstFree l G) (XOk_cons qmS_209 (okY_take l G) (XOk_cons qmS_213 (okO_leave l G) XOk_nil))) kS_drive 90 _ _ _ _ _ _ ?_
              simp only [reduceCtorEq, fv0, fv1, fv2, fv3, bI_0, bI_1, bft, MSh_sI_eq, fsP_T, inL_0, inL_s, pad_0, pad_n, pad_s, wpn_s, wp1_s, lg_0, lg_s, lset_0, lset_s, kil_0, kil_s, st1_s, st2_s, isL_i, isL_l, isL_r, isL_n, spl_0, spl_s, cll_n, cll_s, catS_0, catS_s, jmp_s, alk_0, alk_s, otl_n, otl_s, List.nil_append, List.cons_append, List.contains_cons, List.contains_nil, Nat.reduceBEq, Bool.or_false, Bool.false_or, Bool.or_self, Bool.false_eq_true, Bool.true_or, Bool.or_true, if_true, if_false, ite_true, ite_false, ↓reduceIte, List.length_cons, List.length_nil, Nat.reduceAdd, Nat.reduceLT, Nat.reduceLeDiff, Nat.reduceEqDiff, Int.reduceAdd, Int.reduceLE, Int.toNat_natCast, Int.reduceToNat, Int.cast_ofNat_Int, true_and, and_true, false_and, and_false, true_implies, forall_const, eq_self, and_self, or_true, true_or, or_self, false_or, or_false, yI_sI, yR_sI, yC_sI, yN_sI, yI_sR, yR_sR, yC_sR, yN_sR, not_true_eq_false, not_false_eq_true, false_implies, implies_true, Nat.zero_add, Nat.add_zero, Nat.le_refl, Nat.reduceSub, Int.reduceSub, Int.reduceLT, Int.sub_zero, Int.sub_self, List.getElem?_toArray, List.getElem?_cons_zero, List.getElem?_cons_succ, Int.toNat_zero, Int.toNat_one, Int.lt_irrefl, yI_sB, yR_sB, yC_sB, yN_sB, MSh_sB_eq, pS_drive_0, stp_aload_n, pS_drive_1, stp_iload_n, pS_drive_2, stp_invokevirtual, qmS_141, cy_S_lotAt, ss_C0 hS1, pS_drive_5, stp_astore_n, pS_drive_6, pS_drive_7, stp_ifnull, pS_drive_10, pS_drive_11, stp_getfield, qfS_12, rp_0_0, ss_R0_0 hS1, ss_C1 hS1, pS_drive_14, pS_drive_15, qmS_89, cy_Y_hasPlace, pS_drive_18, stp_ifCond_ne, pS_drive_21, pS_drive_22, stp_bipush, pS_drive_24, qmS_79, cy_S_refuse, pS_drive_27, stp_ireturn, pS_drive_28, pS_drive_29, pS_drive_30, qmS_202, cy_S_mayBeDriven, pS_drive_33, stp_ifCond_eq, pS_drive_36, pS_drive_37, qfS_167, rp_10_7, pS_drive_40, pS_drive_41, stp_if_icmp_eq, pS_drive_44, pS_drive_45, pS_drive_46, qmS_129, cy_S_hasLot, pS_drive_49, pS_drive_52, pS_drive_53, pS_drive_55, pS_drive_58, pS_drive_59, pS_drive_60, pS_drive_63, pS_drive_64, pS_drive_67, pS_drive_68, pS_drive_69, qfS_63, rp_0_7, ss_R0_7 hS1, ss_C8 hS1, pS_drive_72, qmS_104, cy_Y_find, pS_drive_75, pS_drive_78, pS_drive_79, pS_drive_81, pS_drive_84, pS_drive_85, pS_drive_86, pS_drive_89, pS_drive_90, pS_drive_93, pS_drive_94, qfS_71, rp_0_9, pS_drive_97, qmS_205, cy_Y_firstFree, pS_drive_100, stp_istore, pS_drive_102, pS_drive_103, pS_drive_106, pS_drive_107, pS_drive_110, stp_iload, pS_drive_112, qmS_209, cy_Y_take, pS_drive_115, pS_drive_116, pS_drive_117, pS_drive_119, pS_drive_120, pS_drive_123, qfS_108, rp_8_3, pS_drive_126, stp_iadd, pS_drive_127, qmS_213, cy_O_leave, pS_drive_130, pS_drive_131, qfS_173, rp_10_9, pS_drive_134, bp_m3, bp_m7, bp_m2, nv_S_drive, ml_S_drive, e9, rff, rtk', w3', rlv', v9, c102, c103, nI_add, ss_C0 hS2, ss_R0_7 hS2, ss_C8 hS2, ss_R0_0 hS2, ss_C1 hS2, ss_R0_7 hS1, ss_C8 hS1, ss_R0_0 hS1, ss_C1 hS1, lvY_firstFree, lvY_take, lvO_leave]
              exact fin
            · simp only [reduceCtorEq, fv0, fv1, fv2, fv3, bI_0, bI_1, bft, MSh_sI_eq, fsP_T, inL_0, inL_s, pad_0, pad_n, pad_s, wpn_s, wp1_s, lg_0, lg_s, lset_0, lset_s, kil_0, kil_s, st1_s, st2_s, isL_i, isL_l, isL_r, isL_n, spl_0, spl_s, cll_n, cll_s, catS_0, catS_s, jmp_s, alk_0, alk_s, otl_n, otl_s, List.nil_append, List.cons_append, List.contains_cons, List.contains_nil, Nat.reduceBEq, Bool.or_false, Bool.false_or, Bool.or_self, Bool.false_eq_true, Bool.true_or, Bool.or_true, if_true, if_false, ite_true, ite_false, ↓reduceIte, List.length_cons, List.length_nil, Nat.reduceAdd, Nat.reduceLT, Nat.reduceLeDiff, Nat.reduceEqDiff, Int.reduceAdd, Int.reduceLE, Int.toNat_natCast, Int.reduceToNat, Int.cast_ofNat_Int, true_and, and_true, false_and, and_false, true_implies, forall_const, eq_self, and_self, or_true, true_or, or_self, false_or, or_false, yI_sI, yR_sI, yC_sI, yN_sI, yI_sR, yR_sR, yC_sR, yN_sR, not_true_eq_false, not_false_eq_true, false_implies, implies_true, Nat.zero_add, Nat.add_zero, Nat.le_refl, Nat.reduceSub, Int.reduceSub, Int.reduceLT, Int.sub_zero, Int.sub_self, List.getElem?_toArray, List.getElem?_cons_zero, List.getElem?_cons_succ, Int.toNat_zero, Int.toNat_one, Int.lt_irrefl, yI_sB, yR_sB, yC_sB, yN_sB, MSh_sB_eq, pS_drive_0, stp_aload_n, pS_drive_1, stp_iload_n, pS_drive_2, stp_invokevirtual, qmS_141, cy_S_lotAt, ss_C0 hS, pS_drive_5, stp_astore_n, pS_drive_6, pS_drive_7, stp_ifnull, pS_drive_10, pS_drive_11, stp_getfield, qfS_12, rp_0_0, ss_R0_0 hS, ss_C1 hS, pS_drive_14, pS_drive_15, qmS_89, cy_Y_hasPlace, pS_drive_18, stp_ifCond_ne, pS_drive_21, pS_drive_22, stp_bipush, pS_drive_24, qmS_79, cy_S_refuse, pS_drive_27, stp_ireturn, pS_drive_28, pS_drive_29, pS_drive_30, qmS_202, cy_S_mayBeDriven, pS_drive_33, stp_ifCond_eq, pS_drive_36, pS_drive_37, qfS_167, rp_10_7, pS_drive_40, pS_drive_41, stp_if_icmp_eq, pS_drive_44, pS_drive_45, pS_drive_46, qmS_129, cy_S_hasLot, pS_drive_49, pS_drive_52, pS_drive_53, pS_drive_55, pS_drive_58, pS_drive_59, pS_drive_60, pS_drive_63, pS_drive_64, pS_drive_67, pS_drive_68, pS_drive_69, qfS_63, rp_0_7, ss_R0_7 hS, ss_C8 hS, pS_drive_72, qmS_104, cy_Y_find, pS_drive_75, pS_drive_78, pS_drive_79, pS_drive_81, pS_drive_84, pS_drive_85, pS_drive_86, pS_drive_89, pS_drive_90, pS_drive_93, pS_drive_94, qfS_71, rp_0_9, pS_drive_97, qmS_205, cy_Y_firstFree, pS_drive_100, stp_istore, pS_drive_102, pS_drive_103, pS_drive_106, pS_drive_107, pS_drive_110, stp_iload, pS_drive_112, qmS_209, cy_Y_take, pS_drive_115, pS_drive_116, pS_drive_117, pS_drive_119, pS_drive_120, pS_drive_123, qfS_108, rp_8_3, pS_drive_126, stp_iadd, pS_drive_127, qmS_213, cy_O_leave, pS_drive_130, pS_drive_131, qfS_173, rp_10_9, pS_drive_134, bp_m3, bp_m7, bp_m2, nv_S_drive, ml_S_drive, rla, ru1, rm, rh, rfi, t1, c10, e7, z2, hf, decide_false, rfS_2 hS1, lvS_lotAt, lvY_hasPlace, lvS_mayBeDriven, lvS_hasLot, lvY_find, lvY_firstFree, lvY_take, lvO_leave, lvS_refuse, ss_C0 hS1]
              have mr : ∀ t k i, isC t = false → wI (rfs (fiW w a p 16) 2) t k i = wI w t k i := fun t k i hc => by unfold rfs; rw [yI_sI, if_neg (by rintro ⟨rfl, -⟩; cases hc)]; exact m1 t k i hc
              have ok3 := drOk_m (u := rfs (fiW w a p 16) 2) h hc (show (rfs (fiW w a p 16) 2).2 = w.2 from fiW_2 w a p 16) mr
              have mk := mskE1 (f := fun w => drD w v x) (fun _ => rfl) mr
              have mv := mskE1 (f := fun w => wkV w a p) (fun _ => rfl) mr
              have m123 := mr 123 0 j rfl
              have e2 : fsM_drive [.inr (.inr (some (13, 0))), .inl v, .inl x] (rfs (fiW w a p 16) 2) = some (some (.inl (-2)), rfz (wkW (rfs (fiW w a p 16) 2) a p) 2) := by
                revert mk mv m123 ok3
                generalize rfs (fiW w a p 16) 2 = u
                intro ok3 mk mv m123
                have hd : drD u v x = 0 := mk.trans hd0
                have hn : drN u v x = true := by
                  unfold drN
                  rw [ej, m123, ea2, ep2, decide_eq_true]
                  have mv' : wkV u a p = wkV w a p := mv
                  rw [mv']
                  unfold wkV
                  rw [if_pos (by omega)]
                rw [e1, fsP_t ok3]
                unfold drV drW
                rw [hd, if_pos rfl, if_pos rfl, hn, if_pos rfl, if_pos rfl]
                unfold drK
                rw [ej, m123, ea2, ep2]
              have e3 : Inv (c + 1) (rfz (wkW (rfs (fiW w a p 16) 2) a p) 2) := by_inv2 h
              exact Pst_fs (okM_drive l G) (by decide) e2 e3
end
