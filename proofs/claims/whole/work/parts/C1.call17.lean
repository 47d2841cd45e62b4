/-! calls: copy, lay, account -/
theorem sp_t {w : Wd} {x m : Int32} {a : Nat} (e : wI w 7 0 1 = nI a) (ha : a ≤ 14) (hm : ¬ m < 0) : spB w x m = true ↔ (¬ x < 0 ∧ x.toInt + m.toInt ≤ (a : Int)) := by
  unfold spB
  have a1 := x.toInt_lt
  have a2 := x.le_toInt
  have b1 := m.toInt_lt
  have b2 := m.le_toInt
  rw [decide_eq_true_eq, e, lg_cmp_gt, Int64.lt_iff_toInt_lt, Int64.toInt_add, Int32.toInt_toInt64, Int32.toInt_toInt64, Int32.toInt_toInt64, nI_toInt (by omega), Int.bmod_eq_of_le (by omega) (by omega)]
  constructor
  · rintro ⟨p, -, q⟩
    exact ⟨p, by omega⟩
  · rintro ⟨p, q⟩
    exact ⟨p, hm, by omega⟩
theorem sub_lt {a : Nat} {m x : Int32} (ha : a < 1000) (hm : 0 ≤ m) : (nI a - m < x) ↔ (a : Int) - m.toInt < x.toInt := by
  have h1 := Int32.le_iff_toInt_le.mp hm
  have h2 := m.toInt_lt
  have h3 : (0 : Int32).toInt = 0 := by decide
  rw [Int32.lt_iff_toInt_lt, Int32.toInt_sub, nI_toInt (by omega), Int.bmod_eq_of_le (by omega) (by omega)]
theorem sub_ge {a : Nat} {m x : Int32} (ha : a < 1000) (hm : 0 ≤ m) : (x ≤ nI a - m) ↔ x.toInt ≤ (a : Int) - m.toInt := by
  have h1 := Int32.le_iff_toInt_le.mp hm
  have h2 := m.toInt_lt
  have h3 : (0 : Int32).toInt = 0 := by decide
  rw [Int32.le_iff_toInt_le, Int32.toInt_sub, nI_toInt (by omega), Int.bmod_eq_of_le (by omega) (by omega)]
theorem cl_toInt {x : Int32} (h : ¬ x < 0) : ((x.toNatClampNeg : Nat) : Int) = x.toInt := by
  obtain ⟨i, hi, rfl⟩ := nI_of h
  rw [nI_clamp hi, nI_toInt hi]
theorem Inv_row {c : Nat} {w w' : Wd} (h2 : w'.2 = w.2) (h67 : okc w' 67 14) (hW : IvW w') (hI : ∀ t k i, ¬ (t = 7 ∨ t = 183 ∨ t = 168 ∨ (t = 13 ∧ (i = 66 ∨ i = 67))) → wI w' t k i = wI w t k i) (h : Inv c w) : Inv (c + 1) w' := by
  have hM := MSh_of (iv_M h).1 h2
  have e3 := cn_cg (w := w) (w' := w') (hI 13 0 3 (by omega))
  have e17 := cn_cg (w := w) (w' := w') (hI 13 0 17 (by omega))
  have e38 := cn_cg (w := w) (w' := w') (hI 13 0 38 (by omega))
  refine ⟨SSh_of (iv_S h) h2, ?_, Cp0_cg' (fun t k i ht => hI t k i (by omega)) (iv_0 h), IvN_cg h2 (hI _ _ _ (by omega)) (hI _ _ _ (by omega)) (iv_N h), IvQ_cg h2 (iv_M h).2.2.2.2.1 (fun t k i ht => hI t k i (by omega)) (iv_Q h), fun j hj => LtI_cg (Exw_2 h2) (Nat.le_succ c) (by omega) (by omega) (fun t k i ht => hI t k i (by omega)) (iv_L h (by omega)), IvY_cg (Exw_2 h2) hM (fun t k i ht => hI t k i (by omega)) (iv_Y h), IvE_cg (Exw_2 h2) (Nat.le_succ c) (fun t k i ht => hI t k i (by omega)) (iv_E h), IvP_cg (fun t k i ht => hI t k i (by omega)) (iv_P h), hW, IvT_cg (Nat.le_succ c) (hI _ _ _ (by omega)) (hI _ _ _ (by omega)) (iv_T h), IvK_cg (hI _ _ _ (by omega)) (fun i => hI _ _ _ (by omega)) (iv_K h)⟩
  obtain ⟨-, m3, m6, m17, mR, m63, m58, m123, m67, m47⟩ := iv_M h
  have gm : ∀ k, ¬ (k = 66 ∨ k = 67) → wI w' 13 0 k = wI w 13 0 k := fun k hk => hI _ _ _ (by omega)
  refine ⟨hM, okc_cg (gm _ (by decide)) m3, okc_cg (gm _ (by decide)) m6, okc_cg (gm _ (by decide)) m17, ⟨okc_cg (gm _ (by decide)) mR.1, fun r hr => ?_⟩, okc_cg (gm _ (by decide)) m63, okc_cg (gm _ (by decide)) m58, fun j hj => ?_, h67, ?_⟩
  · rw [cn_cg (gm _ (by decide))] at hr
    unfold cnT
    rw [hI _ _ _ (by omega)]
    exact mR.2 r hr
  · rw [cn_cg (gm _ (by decide))] at hj
    rw [cn_cg (gm _ (by decide)), hI _ _ _ (by omega)]
    exact m123 j hj
  · rcases m47 with q | q
    · exact Or.inl (by rw [gm _ (by decide)]; exact q)
    · exact Or.inr (okc_cg (gm _ (by decide)) q)
section
variable {l : Launch} {G : Gc} {c : Nat} {w : Wd}
theorem cp_inv {x y m : Nat} (h : Inv c w) (h1 : x + m ≤ cn w 67) (h2 : y + m ≤ cn w 67) : Inv (c + 1) (cpU (sB w 183 0 (va_cpy (wI w 183 0) (wI w 183 0) x y m)) x y 0 m) := by
  have e : ∀ t k i, wI (cpU (sB w 183 0 (va_cpy (wI w 183 0) (wI w 183 0) x y m)) x y 0 m) t k i = if t = 168 ∧ k = 0 then cpG w x y 0 m i else if t = 183 ∧ k = 0 then va_cpy (wI w 183 0) (wI w 183 0) x y m i else wI w t k i := fun t k i => by
    unfold cpU
    rw [yI_sB, yI_sB]
    rfl
  have h3 : (cpU (sB w 183 0 (va_cpy (wI w 183 0) (wI w 183 0) x y m)) x y 0 m).2 = w.2 := rfl
  revert e h3
  generalize cpU (sB w 183 0 (va_cpy (wI w 183 0) (wI w 183 0) x y m)) x y 0 m = w'
  intro e h3
  have g : ∀ t k i, ¬ (t = 168 ∨ t = 183) → wI w' t k i = wI w t k i := fun t k i n => by rw [e, if_neg (by omega), if_neg (by omega)]
  obtain ⟨q1, q2, q3, q4⟩ := iv_W h
  refine Inv_row (w := w) h3 (okc_cg (g _ _ _ (by omega)) (iv_M h).2.2.2.2.2.2.2.2.1) ⟨?_, ?_, ?_, fun i hi => ?_⟩ (fun t k i hn => g t k i (by omega)) h
  · rw [g _ _ _ (by omega), g _ _ _ (by omega)]; exact q1
  · rw [g _ _ _ (by omega)]; exact q2
  · rw [g _ _ _ (by omega), g _ _ _ (by omega)]; exact q3
  · rw [cn_cg (g _ _ _ (by omega))] at hi
    rw [e, e, if_neg (by omega), if_pos ⟨rfl, rfl⟩, if_pos ⟨rfl, rfl⟩]
    unfold va_cpy cpG
    by_cases z : y ≤ i ∧ i < y + m
    · rw [if_pos z, if_pos (by omega)]; exact q4 _ (by omega)
    · rw [if_neg z, if_neg (by omega)]; exact q4 i hi
set_option maxRecDepth 100000 in
set_option maxHeartbeats 4000000 in
theorem ca_copy (h : Inv c w) (x y m : Int32) : Cok l G c w mS_copy mM_copy [.inl x, .inl y, .inl m] := by
  have hS := iv_S h
  have hM := iv_M h
  obtain ⟨-, h3, h6, h17, hR, h63, h58, -, h67, -⟩ := id hM
  have rf : ∀ b : Nat, 0 < b ∧ b < 9 → cpD w x y m = -nI b → Pst l G c mM_copy [.inl x, .inl y, .inl m] (some (.inl (-nI b))) (rfs w b) := fun b hb hd => by
    refine Pst_rf (d := fun w => cpD w x y m) (v := fun _ => m) (W := fun w => cpU w x.toNatClampNeg y.toNatClampNeg 0 m.toNatClampNeg) (okM_copy l G) (by decide) (fun _ => rfl) h (b := b) hb rfl ?_
    show cpD w x y m = _
    exact hd
  obtain ⟨e66, e66', e67, -⟩ := iv_W h
  have e67' : wI w 7 0 1 = nI (cn w 67) := e67.trans h67.1
  have rs1 := ruR_spans (x := x) (m := m) hS
  have rs2 := ruR_spans (x := y) (m := m) hS
  refine ⟨18, by decide, Sem_of (by decide) rfl (Nat.le_of_ble_eq_true rfl) ?_⟩
  by_cases q2 : wI w 13 0 66 = 0
  · refine wpn_ok (M := mS_copy) (C := cenS) (X := (alk [(373, lvR_spans, fsR_spans), (79, lvS_refuse, fsS_refuse)])) (tb := tS_copy) (st := []) eoS (XOk_cons qmS_373 (okR_spans l G) (XOk_cons qmS_79 (okS_refuse l G) XOk_nil)) kS_copy 60 _ _ _ _ _ _ ?_
    simp only [reduceCtorEq, fv0, fv1, fv2, fv3, bI_0, bI_1, bft, MSh_sI_eq, fsP_T, inL_0, inL_s, pad_0, pad_n, pad_s, wpn_s, wp1_s, lg_0, lg_s, lset_0, lset_s, kil_0, kil_s, st1_s, st2_s, isL_i, isL_l, isL_r, isL_n, spl_0, spl_s, cll_n, cll_s, catS_0, catS_s, jmp_s, alk_0, alk_s, otl_n, otl_s, List.nil_append, List.cons_append, List.contains_cons, List.contains_nil, Nat.reduceBEq, Bool.or_false, Bool.false_or, Bool.or_self, Bool.false_eq_true, Bool.true_or, Bool.or_true, if_true, if_false, ite_true, ite_false, ↓reduceIte, List.length_cons, List.length_nil, Nat.reduceAdd, Nat.reduceLT, Nat.reduceLeDiff, Nat.reduceEqDiff, Int.reduceAdd, Int.reduceLE, Int.toNat_natCast, Int.reduceToNat, Int.cast_ofNat_Int, true_and, and_true, false_and, and_false, true_implies, forall_const, eq_self, and_self, or_true, true_or, or_self, false_or, or_false, yI_sI, yR_sI, yC_sI, yN_sI, yI_sR, yR_sR, yC_sR, yN_sR, not_true_eq_false, not_false_eq_true, false_implies, implies_true, Nat.zero_add, Nat.add_zero, Nat.le_refl, Nat.reduceSub, Int.reduceSub, Int.reduceLT, Int.sub_zero, Int.sub_self, List.getElem?_toArray, List.getElem?_cons_zero, List.getElem?_cons_succ, Int.toNat_zero, Int.toNat_one, Int.lt_irrefl, yI_sB, yR_sB, yC_sB, yN_sB, MSh_sB_eq, pS_copy_0, stp_aload_n, pS_copy_1, stp_getfield, qfS_56, rp_0_6, ss_C0 hS, ss_R0_6 hS, ss_C7 hS, pS_copy_4, qfS_367, rp_7_2, pS_copy_7, stp_ifCond_ne, pS_copy_10, pS_copy_11, stp_bipush, pS_copy_13, stp_invokevirtual, qmS_79, cy_S_refuse, pS_copy_16, stp_ireturn, pS_copy_17, stp_iload_n, pS_copy_18, stp_ifCond_ge, pS_copy_21, pS_copy_22, pS_copy_24, pS_copy_27, pS_copy_28, pS_copy_29, pS_copy_32, pS_copy_33, pS_copy_34, qmS_373, cy_R_spans, pS_copy_37, stp_ifCond_eq, pS_copy_40, pS_copy_41, pS_copy_44, pS_copy_45, pS_copy_46, pS_copy_49, pS_copy_52, pS_copy_53, pS_copy_55, pS_copy_58, pS_copy_59, pS_copy_60, pS_copy_63, pS_copy_64, pS_copy_65, pS_copy_66, qmS_377, cy_R_move, pS_copy_69, pS_copy_70, bp_m2, bp_m4, bp_m6, nv_S_copy, ml_S_copy, e66, q2, rfS_2 hS, lvS_refuse, lvR_spans]
    exact rf 2 (by decide) (by simp only [cpD, q2, if_true]; rfl)
  · by_cases q4 : 0 ≤ m
    · have q4' : ¬ m < 0 := fun q => by rw [Int32.lt_iff_toInt_lt] at q; rw [Int32.le_iff_toInt_le] at q4; omega
      have hm3 := cl_toInt q4'
      have k6 : (spB w x m = false ∨ spB w y m = false) → cpD w x y m = -nI 6 := fun hc => by
        have cond : x < 0 ∨ y < 0 ∨ wI w 13 0 67 - m < x ∨ ¬ y ≤ wI w 13 0 67 - m := by
          rw [h67.1, sub_lt (by have := h67.2; omega) q4, sub_ge (by have := h67.2; omega) q4]
          apply Classical.byContradiction
          intro hn
          have p1 : ¬ x < 0 := fun z => hn (Or.inl z)
          have p2 : ¬ y < 0 := fun z => hn (Or.inr (Or.inl z))
          have p3 : ¬ ((cn w 67 : Nat) : Int) - m.toInt < x.toInt := fun z => hn (Or.inr (Or.inr (Or.inl z)))
          have p4 : y.toInt ≤ ((cn w 67 : Nat) : Int) - m.toInt := Classical.byContradiction fun z => hn (Or.inr (Or.inr (Or.inr z)))
          rcases hc with hc | hc
          · have := (sp_t (w := w) (x := x) e67' h67.2 q4').mpr ⟨p1, by omega⟩
            rw [hc] at this; cases this
          · have := (sp_t (w := w) (x := y) e67' h67.2 q4').mpr ⟨p2, by omega⟩
            rw [hc] at this; cases this
        unfold cpD
        rw [if_neg q2, if_neg (fun z => z q4), if_pos cond]
        rfl
      cases s1 : spB w x m with
      | false =>
        rw [s1] at rs1
        refine wpn_ok (M := mS_copy) (C := cenS) (X := (alk [(373, lvR_spans, fsR_spans), (79, lvS_refuse, fsS_refuse)])) (tb := tS_copy) (st := []) eoS (XOk_cons qmS_373 (okR_spans l G) (XOk_cons qmS_79 (okS_refuse l G) XOk_nil)) kS_copy 60 _ _ _ _ _ _ ?_
        simp only [reduceCtorEq, fv0, fv1, fv2, fv3, bI_0, bI_1, bft, MSh_sI_eq, fsP_T, inL_0, inL_s, pad_0, pad_n, pad_s, wpn_s, wp1_s, lg_0, lg_s, lset_0, lset_s, kil_0, kil_s, st1_s, st2_s, isL_i, isL_l, isL_r, isL_n, spl_0, spl_s, cll_n, cll_s, catS_0, catS_s, jmp_s, alk_0, alk_s, otl_n, otl_s, List.nil_append, List.cons_append, List.contains_cons, List.contains_nil, Nat.reduceBEq, Bool.or_false, Bool.false_or, Bool.or_self, Bool.false_eq_true, Bool.true_or, Bool.or_true, if_true, if_false, ite_true, ite_false, ↓reduceIte, List.length_cons, List.length_nil, Nat.reduceAdd, Nat.reduceLT, Nat.reduceLeDiff, Nat.reduceEqDiff, Int.reduceAdd, Int.reduceLE, Int.toNat_natCast, Int.reduceToNat, Int.cast_ofNat_Int, true_and, and_true, false_and, and_false, true_implies, forall_const, eq_self, and_self, or_true, true_or, or_self, false_or, or_false, yI_sI, yR_sI, yC_sI, yN_sI, yI_sR, yR_sR, yC_sR, yN_sR, not_true_eq_false, not_false_eq_true, false_implies, implies_true, Nat.zero_add, Nat.add_zero, Nat.le_refl, Nat.reduceSub, Int.reduceSub, Int.reduceLT, Int.sub_zero, Int.sub_self, List.getElem?_toArray, List.getElem?_cons_zero, List.getElem?_cons_succ, Int.toNat_zero, Int.toNat_one, Int.lt_irrefl, yI_sB, yR_sB, yC_sB, yN_sB, MSh_sB_eq, pS_copy_0, stp_aload_n, pS_copy_1, stp_getfield, qfS_56, rp_0_6, ss_C0 hS, ss_R0_6 hS, ss_C7 hS, pS_copy_4, qfS_367, rp_7_2, pS_copy_7, stp_ifCond_ne, pS_copy_10, pS_copy_11, stp_bipush, pS_copy_13, stp_invokevirtual, qmS_79, cy_S_refuse, pS_copy_16, stp_ireturn, pS_copy_17, stp_iload_n, pS_copy_18, stp_ifCond_ge, pS_copy_21, pS_copy_22, pS_copy_24, pS_copy_27, pS_copy_28, pS_copy_29, pS_copy_32, pS_copy_33, pS_copy_34, qmS_373, cy_R_spans, pS_copy_37, stp_ifCond_eq, pS_copy_40, pS_copy_41, pS_copy_44, pS_copy_45, pS_copy_46, pS_copy_49, pS_copy_52, pS_copy_53, pS_copy_55, pS_copy_58, pS_copy_59, pS_copy_60, pS_copy_63, pS_copy_64, pS_copy_65, pS_copy_66, qmS_377, cy_R_move, pS_copy_69, pS_copy_70, bp_m2, bp_m4, bp_m6, nv_S_copy, ml_S_copy, e66, q2, q4, rs1, rfS_6 hS, lvS_refuse, lvR_spans]
        exact rf 6 (by decide) (k6 (Or.inl s1))
      | true =>
        cases s2 : spB w y m with
        | false =>
          rw [s1] at rs1
          rw [s2] at rs2
          refine wpn_ok (M := mS_copy) (C := cenS) (X := (alk [(373, lvR_spans, fsR_spans), (79, lvS_refuse, fsS_refuse)])) (tb := tS_copy) (st := []) eoS (XOk_cons qmS_373 (okR_spans l G) (XOk_cons qmS_79 (okS_refuse l G) XOk_nil)) kS_copy 60 _ _ _ _ _ _ ?_
          simp only [reduceCtorEq, fv0, fv1, fv2, fv3, bI_0, bI_1, bft, MSh_sI_eq, fsP_T, inL_0, inL_s, pad_0, pad_n, pad_s, wpn_s, wp1_s, lg_0, lg_s, lset_0, lset_s, kil_0, kil_s, st1_s, st2_s, isL_i, isL_l, isL_r, isL_n, spl_0, spl_s, cll_n, cll_s, catS_0, catS_s, jmp_s, alk_0, alk_s, otl_n, otl_s, List.nil_append, List.cons_append, List.contains_cons, List.contains_nil, Nat.reduceBEq, Bool.or_false, Bool.false_or, Bool.or_self, Bool.false_eq_true, Bool.true_or, Bool.or_true, if_true, if_false, ite_true, ite_false, ↓reduceIte, List.length_cons, List.length_nil, Nat.reduceAdd, Nat.reduceLT, Nat.reduceLeDiff, Nat.reduceEqDiff, Int.reduceAdd, Int.reduceLE, Int.toNat_natCast, Int.reduceToNat, Int.cast_ofNat_Int, true_and, and_true, false_and, and_false, true_implies, forall_const, eq_self, and_self, or_true, true_or, or_self, false_or, or_false, yI_sI, yR_sI, yC_sI, yN_sI, yI_sR, yR_sR, yC_sR, yN_sR, not_true_eq_false, not_false_eq_true, false_implies, implies_true, Nat.zero_add, Nat.add_zero, Nat.le_refl, Nat.reduceSub, Int.reduceSub, Int.reduceLT, Int.sub_zero, Int.sub_self, List.getElem?_toArray, List.getElem?_cons_zero, List.getElem?_cons_succ, Int.toNat_zero, Int.toNat_one, Int.lt_irrefl, yI_sB, yR_sB, yC_sB, yN_sB, MSh_sB_eq, pS_copy_0, stp_aload_n, pS_copy_1, stp_getfield, qfS_56, rp_0_6, ss_C0 hS, ss_R0_6 hS, ss_C7 hS, pS_copy_4, qfS_367, rp_7_2, pS_copy_7, stp_ifCond_ne, pS_copy_10, pS_copy_11, stp_bipush, pS_copy_13, stp_invokevirtual, qmS_79, cy_S_refuse, pS_copy_16, stp_ireturn, pS_copy_17, stp_iload_n, pS_copy_18, stp_ifCond_ge, pS_copy_21, pS_copy_22, pS_copy_24, pS_copy_27, pS_copy_28, pS_copy_29, pS_copy_32, pS_copy_33, pS_copy_34, qmS_373, cy_R_spans, pS_copy_37, stp_ifCond_eq, pS_copy_40, pS_copy_41, pS_copy_44, pS_copy_45, pS_copy_46, pS_copy_49, pS_copy_52, pS_copy_53, pS_copy_55, pS_copy_58, pS_copy_59, pS_copy_60, pS_copy_63, pS_copy_64, pS_copy_65, pS_copy_66, qmS_377, cy_R_move, pS_copy_69, pS_copy_70, bp_m2, bp_m4, bp_m6, nv_S_copy, ml_S_copy, e66, q2, q4, rs1, rs2, show ¬ (1 : Int32) = 0 by decide, rfS_6 hS, lvS_refuse, lvR_spans]
          exact rf 6 (by decide) (k6 (Or.inr s2))
        | true =>
          rw [s1] at rs1
          rw [s2] at rs2
          obtain ⟨p1, n1⟩ := (sp_t e67' h67.2 q4').mp s1
          obtain ⟨p2, n2⟩ := (sp_t e67' h67.2 q4').mp s2
          have hx3 := cl_toInt p1
          have hy3 := cl_toInt p2
          have l67 := h67.2
          have call := smR_move (l := l) (G := G) hS s1 s2 p1 p2 q4' (by omega) (by omega)
          refine wpn_ok (M := mS_copy) (C := cenS) (X := (alk [(373, lvR_spans, fsR_spans), (79, lvS_refuse, fsS_refuse)])) (tb := tS_copy) (st := []) eoS (XOk_cons qmS_373 (okR_spans l G) (XOk_cons qmS_79 (okS_refuse l G) XOk_nil)) kS_copy 60 _ _ _ _ _ _ ?_
          simp only [reduceCtorEq, fv0, fv1, fv2, fv3, bI_0, bI_1, bft, MSh_sI_eq, fsP_T, inL_0, inL_s, pad_0, pad_n, pad_s, wpn_s, wp1_s, lg_0, lg_s, lset_0, lset_s, kil_0, kil_s, st1_s, st2_s, isL_i, isL_l, isL_r, isL_n, spl_0, spl_s, cll_n, cll_s, catS_0, catS_s, jmp_s, alk_0, alk_s, otl_n, otl_s, List.nil_append, List.cons_append, List.contains_cons, List.contains_nil, Nat.reduceBEq, Bool.or_false, Bool.false_or, Bool.or_self, Bool.false_eq_true, Bool.true_or, Bool.or_true, if_true, if_false, ite_true, ite_false, ↓reduceIte, List.length_cons, List.length_nil, Nat.reduceAdd, Nat.reduceLT, Nat.reduceLeDiff, Nat.reduceEqDiff, Int.reduceAdd, Int.reduceLE, Int.toNat_natCast, Int.reduceToNat, Int.cast_ofNat_Int, true_and, and_true, false_and, and_false, true_implies, forall_const, eq_self, and_self, or_true, true_or, or_self, false_or, or_false, yI_sI, yR_sI, yC_sI, yN_sI, yI_sR, yR_sR, yC_sR, yN_sR, not_true_eq_false, not_false_eq_true, false_implies, implies_true, Nat.zero_add, Nat.add_zero, Nat.le_refl, Nat.reduceSub, Int.reduceSub, Int.reduceLT, Int.sub_zero, Int.sub_self, List.getElem?_toArray, List.getElem?_cons_zero, List.getElem?_cons_succ, Int.toNat_zero, Int.toNat_one, Int.lt_irrefl, yI_sB, yR_sB, yC_sB, yN_sB, MSh_sB_eq, pS_copy_0, stp_aload_n, pS_copy_1, stp_getfield, qfS_56, rp_0_6, ss_C0 hS, ss_R0_6 hS, ss_C7 hS, pS_copy_4, qfS_367, rp_7_2, pS_copy_7, stp_ifCond_ne, pS_copy_10, pS_copy_11, stp_bipush, pS_copy_13, stp_invokevirtual, qmS_79, cy_S_refuse, pS_copy_16, stp_ireturn, pS_copy_17, stp_iload_n, pS_copy_18, stp_ifCond_ge, pS_copy_21, pS_copy_22, pS_copy_24, pS_copy_27, pS_copy_28, pS_copy_29, pS_copy_32, pS_copy_33, pS_copy_34, qmS_373, cy_R_spans, pS_copy_37, stp_ifCond_eq, pS_copy_40, pS_copy_41, pS_copy_44, pS_copy_45, pS_copy_46, pS_copy_49, pS_copy_52, pS_copy_53, pS_copy_55, pS_copy_58, pS_copy_59, pS_copy_60, pS_copy_63, pS_copy_64, pS_copy_65, pS_copy_66, qmS_377, cy_R_move, pS_copy_69, pS_copy_70, bp_m2, bp_m4, bp_m6, nv_S_copy, ml_S_copy, e66, q2, q4, rs1, rs2, show ¬ (1 : Int32) = 0 by decide, lvS_refuse, lvR_spans]
          refine ⟨2, 0, 0, by decide, by decide, by decide, call.mono fun rr w' h' => ?_⟩
          obtain ⟨rfl, rfl⟩ := h'
          have iv := cp_inv (x := x.toNatClampNeg) (y := y.toNatClampNeg) (m := m.toNatClampNeg) h (by omega) (by omega)
          have hS' : SSh (sB w 183 0 (va_cpy (wI w 183 0) (wI w 183 0) x.toNatClampNeg y.toNatClampNeg m.toNatClampNeg)) := SSh_of hS rfl
          have mm : msk (sB w 183 0 (va_cpy (wI w 183 0) (wI w 183 0) x.toNatClampNeg y.toNatClampNeg m.toNatClampNeg)) = msk w := msk_ag rfl fun t k j hc => by
            rw [yI_sB, if_neg (by rintro ⟨rfl, -⟩; cases hc)]
          have hd : cpD w x y m = 0 := by
            have cond : ¬ (x < 0 ∨ y < 0 ∨ wI w 13 0 67 - m < x ∨ ¬ y ≤ wI w 13 0 67 - m) := by
              rw [h67.1, sub_lt (by omega) q4, sub_ge (by omega) q4]
              rintro (z | z | z | z)
              · exact p1 z
              · exact p2 z
              · omega
              · exact z (by omega)
            unfold cpD
            rw [if_neg q2, if_neg (fun z => z q4), if_neg cond]
          revert iv hS' mm
          generalize sB w 183 0 (va_cpy (wI w 183 0) (wI w 183 0) x.toNatClampNeg y.toNatClampNeg m.toNatClampNeg) = w1
          intro iv hS' mm
          refine wpn_ok (M := mS_copy) (C := cenS) (X := (alk [])) (tb := tS_copy) (st := []) eoS XOk_nil kS_copy 60 _ _ _ _ _ _ ?_
          simp only [reduceCtorEq, fv0, fv1, fv2, fv3, bI_0, bI_1, bft, MSh_sI_eq, fsP_T, inL_0, inL_s, pad_0, pad_n, pad_s, wpn_s, wp1_s, lg_0, lg_s, lset_0, lset_s, kil_0, kil_s, st1_s, st2_s, isL_i, isL_l, isL_r, isL_n, spl_0, spl_s, cll_n, cll_s, catS_0, catS_s, jmp_s, alk_0, alk_s, otl_n, otl_s, List.nil_append, List.cons_append, List.contains_cons, List.contains_nil, Nat.reduceBEq, Bool.or_false, Bool.false_or, Bool.or_self, Bool.false_eq_true, Bool.true_or, Bool.or_true, if_true, if_false, ite_true, ite_false, ↓reduceIte, List.length_cons, List.length_nil, Nat.reduceAdd, Nat.reduceLT, Nat.reduceLeDiff, Nat.reduceEqDiff, Int.reduceAdd, Int.reduceLE, Int.toNat_natCast, Int.reduceToNat, Int.cast_ofNat_Int, true_and, and_true, false_and, and_false, true_implies, forall_const, eq_self, and_self, or_true, true_or, or_self, false_or, or_false, yI_sI, yR_sI, yC_sI, yN_sI, yI_sR, yR_sR, yC_sR, yN_sR, not_true_eq_false, not_false_eq_true, false_implies, implies_true, Nat.zero_add, Nat.add_zero, Nat.le_refl, Nat.reduceSub, Int.reduceSub, Int.reduceLT, Int.sub_zero, Int.sub_self, List.getElem?_toArray, List.getElem?_cons_zero, List.getElem?_cons_succ, Int.toNat_zero, Int.toNat_one, Int.lt_irrefl, yI_sB, yR_sB, yC_sB, yN_sB, MSh_sB_eq, pS_copy_0, stp_aload_n, pS_copy_1, stp_getfield, qfS_56, rp_0_6, ss_C0 hS', ss_R0_6 hS', ss_C7 hS', pS_copy_4, qfS_367, rp_7_2, pS_copy_7, stp_ifCond_ne, pS_copy_10, pS_copy_11, stp_bipush, pS_copy_13, stp_invokevirtual, qmS_79, cy_S_refuse, pS_copy_16, stp_ireturn, pS_copy_17, stp_iload_n, pS_copy_18, stp_ifCond_ge, pS_copy_21, pS_copy_22, pS_copy_24, pS_copy_27, pS_copy_28, pS_copy_29, pS_copy_32, pS_copy_33, pS_copy_34, qmS_373, cy_R_spans, pS_copy_37, stp_ifCond_eq, pS_copy_40, pS_copy_41, pS_copy_44, pS_copy_45, pS_copy_46, pS_copy_49, pS_copy_52, pS_copy_53, pS_copy_55, pS_copy_58, pS_copy_59, pS_copy_60, pS_copy_63, pS_copy_64, pS_copy_65, pS_copy_66, qmS_377, cy_R_move, pS_copy_69, pS_copy_70, bp_m2, bp_m4, bp_m6, nv_S_copy, ml_S_copy, Option.toList_none]
          exact Pst_ok2 (w := w) (d := fun w => cpD w x y m) (v := fun _ => m) (W := fun w => cpU w x.toNatClampNeg y.toNatClampNeg 0 m.toNatClampNeg) (okM_copy l G) (by decide) (fun _ => rfl) (fun _ => rfl) (fun _ => rfl) mm hM hd rfl iv
    · refine wpn_ok (M := mS_copy) (C := cenS) (X := (alk [(373, lvR_spans, fsR_spans), (79, lvS_refuse, fsS_refuse)])) (tb := tS_copy) (st := []) eoS (XOk_cons qmS_373 (okR_spans l G) (XOk_cons qmS_79 (okS_refuse l G) XOk_nil)) kS_copy 60 _ _ _ _ _ _ ?_
      simp only [reduceCtorEq, fv0, fv1, fv2, fv3, bI_0, bI_1, bft, MSh_sI_eq, fsP_T, inL_0, inL_s, pad_0, pad_n, pad_s, wpn_s, wp1_s, lg_0, lg_s, lset_0, lset_s, kil_0, kil_s, st1_s, st2_s, isL_i, isL_l, isL_r, isL_n, spl_0, spl_s, cll_n, cll_s, catS_0, catS_s, jmp_s, alk_0, alk_s, otl_n, otl_s, List.nil_append, List.cons_append, List.contains_cons, List.contains_nil, Nat.reduceBEq, Bool.or_false, Bool.false_or, Bool.or_self, Bool.false_eq_true, Bool.true_or, Bool.or_true, if_true, if_false, ite_true, ite_false, ↓reduceIte, List.length_cons, List.length_nil, Nat.reduceAdd, Nat.reduceLT, Nat.reduceLeDiff, Nat.reduceEqDiff, Int.reduceAdd, Int.reduceLE, Int.toNat_natCast, Int.reduceToNat, Int.cast_ofNat_Int, true_and, and_true, false_and, and_false, true_implies, forall_const, eq_self, and_self, or_true, true_or, or_self, false_or, or_false, yI_sI, yR_sI, yC_sI, yN_sI, yI_sR, yR_sR, yC_sR, yN_sR, not_true_eq_false, not_false_eq_true, false_implies, implies_true, Nat.zero_add, Nat.add_zero, Nat.le_refl, Nat.reduceSub, Int.reduceSub, Int.reduceLT, Int.sub_zero, Int.sub_self, List.getElem?_toArray, List.getElem?_cons_zero, List.getElem?_cons_succ, Int.toNat_zero, Int.toNat_one, Int.lt_irrefl, yI_sB, yR_sB, yC_sB, yN_sB, MSh_sB_eq, pS_copy_0, stp_aload_n, pS_copy_1, stp_getfield, qfS_56, rp_0_6, ss_C0 hS, ss_R0_6 hS, ss_C7 hS, pS_copy_4, qfS_367, rp_7_2, pS_copy_7, stp_ifCond_ne, pS_copy_10, pS_copy_11, stp_bipush, pS_copy_13, stp_invokevirtual, qmS_79, cy_S_refuse, pS_copy_16, stp_ireturn, pS_copy_17, stp_iload_n, pS_copy_18, stp_ifCond_ge, pS_copy_21, pS_copy_22, pS_copy_24, pS_copy_27, pS_copy_28, pS_copy_29, pS_copy_32, pS_copy_33, pS_copy_34, qmS_373, cy_R_spans, pS_copy_37, stp_ifCond_eq, pS_copy_40, pS_copy_41, pS_copy_44, pS_copy_45, pS_copy_46, pS_copy_49, pS_copy_52, pS_copy_53, pS_copy_55, pS_copy_58, pS_copy_59, pS_copy_60, pS_copy_63, pS_copy_64, pS_copy_65, pS_copy_66, qmS_377, cy_R_move, pS_copy_69, pS_copy_70, bp_m2, bp_m4, bp_m6, nv_S_copy, ml_S_copy, e66, q2, q4, rfS_4 hS, lvS_refuse, lvR_spans]
      exact rf 4 (by decide) (by simp only [cpD, q2, q4, not_false_eq_true, if_true, if_false]; rfl)
end
