/-! what rules say, in the class -/
def apC (w : Wd) (m j c : Nat) (b x : Int32) : Bool := !decide (x < wI w 12 m 0) && (decide (x < wI w 12 m 1) && (decide (wI w 12 m 6 = 0) || anyN (fun i => meC w m i j b x) c))
def tsC' (w : Wd) (m : Nat) : Nat := (wI w 12 m 6).toNatClampNeg
theorem ruU_isMet {w : Wd} {m j i : Nat} {b x : Int32} (hr : RuS w m) (hj : j < wC w 10) (hi : i < 3) (ht : nI i < wI w 12 m 6) : fsU_isMet [.inr (.inr (some (12, m))), .inl (nI i), .inr (.inr (some (10, j))), .inl b, .inl x] w = some (some (.inl (bI (meC w m i j b x))), w) := by
  have : fsU_isMet [.inr (.inr (some (12, m))), .inl (nI i), .inr (.inr (some (10, j))), .inl b, .inl x] w = fsP (RuS w m ∧ j < wC w 10 ∧ vp_in (nI i) 3 ∧ nI i < wI w 12 m 6) (some (.inl (bI (meC w m (nI i).toNatClampNeg j b x))), w) := rfl
  rw [this, nI_clamp (by omega)]
  exact fsP_t ⟨hr, hj, vp_in_nI (by omega) (by omega), ht⟩
section
variable {l : Launch} {G : Gc} {n : Nat} {Q : Option AV → Wd → Prop} {w : Wd}
set_option maxRecDepth 100000 in
set_option maxHeartbeats 4000000 in
theorem lpU_appliesTo {m j c : Nat} {b x : Int32} (hl : 3 < n) (hr : RuS w m) (hj : j < wC w 10) (hc : wI w 12 m 6 = nI c) (h3 : c ≤ 3) (hQ : Q (some (.inl (bI (decide (wI w 12 m 6 = 0) || anyN (fun i => meC w m i j b x) c)))) w) : ∀ k i, i + k = c → anyN (fun i => meC w m i j b x) i = false → WP l G mU_appliesTo n 0 0 Q 21 [some (.inr (.inr (some (12, m)))), some (.inr (.inr (some (10, j)))), some (.inl b), some (.inl x), some (.inl (nI i))] [] w 0 0
  | 0, i, hi, hf => by
    have e : i = c := hi
    subst e
    obtain ⟨r0, -⟩ := id hr
    rw [hf, Bool.or_false] at hQ
    refine wpn_ok (M := mU_appliesTo) (C := cenU) (X := (alk [])) (tb := tU_appliesTo) (st := [21]) eoU XOk_nil kU_appliesTo 60 _ _ _ _ _ _ ?_
    simp only [reduceCtorEq, fv0, fv1, fv2, fv3, bI_0, bI_1, bft, MSh_sI_eq, fsP_T, inL_0, inL_s, pad_0, pad_n, pad_s, wpn_s, wp1_s, lg_0, lg_s, lset_0, lset_s, kil_0, kil_s, st1_s, st2_s, isL_i, isL_l, isL_r, isL_n, spl_0, spl_s, cll_n, cll_s, catS_0, catS_s, jmp_s, alk_0, alk_s, otl_n, otl_s, List.nil_append, List.cons_append, List.contains_cons, List.contains_nil, Nat.reduceBEq, Bool.or_false, Bool.false_or, Bool.or_self, Bool.false_eq_true, Bool.true_or, Bool.or_true, if_true, if_false, ite_true, ite_false, ↓reduceIte, List.length_cons, List.length_nil, Nat.reduceAdd, Nat.reduceLT, Nat.reduceLeDiff, Nat.reduceEqDiff, Int.reduceAdd, Int.reduceLE, Int.toNat_natCast, Int.reduceToNat, Int.cast_ofNat_Int, true_and, and_true, false_and, and_false, true_implies, forall_const, eq_self, and_self, or_true, true_or, or_self, false_or, or_false, yI_sI, yR_sI, yC_sI, yN_sI, yI_sR, yR_sR, yC_sR, yN_sR, not_true_eq_false, not_false_eq_true, false_implies, implies_true, Nat.zero_add, Nat.add_zero, Nat.le_refl, Nat.reduceSub, Int.reduceSub, Int.reduceLT, Int.sub_zero, Int.sub_self, List.getElem?_toArray, List.getElem?_cons_zero, List.getElem?_cons_succ, Int.toNat_zero, Int.toNat_one, Int.lt_irrefl, yI_sB, yR_sB, yC_sB, yN_sB, MSh_sB_eq, pU_appliesTo_0, stp_iload_n, pU_appliesTo_1, stp_aload_n, pU_appliesTo_2, stp_getfield, qfU_35, rp_12_0, pU_appliesTo_5, stp_if_icmp_lt, pU_appliesTo_8, pU_appliesTo_9, pU_appliesTo_10, qfU_38, rp_12_1, pU_appliesTo_13, pU_appliesTo_16, stp_iconst, pU_appliesTo_17, stp_ireturn, pU_appliesTo_18, pU_appliesTo_19, stp_istore, pU_appliesTo_21, stp_iload, pU_appliesTo_23, pU_appliesTo_24, qfU_25, rp_12_6, pU_appliesTo_27, stp_if_icmp_ge, pU_appliesTo_30, pU_appliesTo_32, pU_appliesTo_33, pU_appliesTo_36, pU_appliesTo_37, pU_appliesTo_39, pU_appliesTo_40, pU_appliesTo_41, pU_appliesTo_42, stp_invokevirtual, qmU_41, cy_U_isMet, pU_appliesTo_45, stp_ifCond_eq, pU_appliesTo_48, pU_appliesTo_49, pU_appliesTo_50, stp_iinc, pU_appliesTo_53, stp_goto, pU_appliesTo_56, pU_appliesTo_57, pU_appliesTo_60, stp_ifCond_ne, pU_appliesTo_63, pU_appliesTo_64, pU_appliesTo_67, pU_appliesTo_68, ic_0, ic_3, ic_1, nv_U_appliesTo, ml_U_appliesTo, r0, hc, Int32.le_refl]
    rw [hc] at hQ
    by_cases q : nI i = 0
    · rw [q] at hQ
      simp [q]
      simpa [bI] using hQ
    · simp only [q, decide_false, show bI false = 0 from rfl] at hQ
      simp [q]
      exact hQ
  | k + 1, i, hi, hf => by
    have ih := lpU_appliesTo hl hr hj hc h3 hQ k (i + 1) (by omega)
    obtain ⟨r0, -⟩ := id hr
    have h1 : ¬ nI c ≤ nI i := nI_ge (by omega) (by omega)
    have h4 : ¬ (3 : Int32) ≤ nI i := nI_ge (b := 3) (by omega) (by omega)
    have ru := ruU_isMet (b := b) (x := x) hr hj (show i < 3 by omega) (by rw [hc]; exact nI_lt (by omega) (by omega))
    have hl1 : lvU_isMet < n := hl
    refine wpn_ok (M := mU_appliesTo) (C := cenU) (X := (alk [(41, lvU_isMet, fsU_isMet)])) (tb := tU_appliesTo) (st := [21]) eoU (XOk_cons qmU_41 (okU_isMet l G) XOk_nil) kU_appliesTo 60 _ _ _ _ _ _ ?_
    cases q : meC w m i j b x
    · have ih := ih (by simp [anyN, hf, q])
      simp only [reduceCtorEq, fv0, fv1, fv2, fv3, bI_0, bI_1, bft, MSh_sI_eq, fsP_T, inL_0, inL_s, pad_0, pad_n, pad_s, wpn_s, wp1_s, lg_0, lg_s, lset_0, lset_s, kil_0, kil_s, st1_s, st2_s, isL_i, isL_l, isL_r, isL_n, spl_0, spl_s, cll_n, cll_s, catS_0, catS_s, jmp_s, alk_0, alk_s, otl_n, otl_s, List.nil_append, List.cons_append, List.contains_cons, List.contains_nil, Nat.reduceBEq, Bool.or_false, Bool.false_or, Bool.or_self, Bool.false_eq_true, Bool.true_or, Bool.or_true, if_true, if_false, ite_true, ite_false, ↓reduceIte, List.length_cons, List.length_nil, Nat.reduceAdd, Nat.reduceLT, Nat.reduceLeDiff, Nat.reduceEqDiff, Int.reduceAdd, Int.reduceLE, Int.toNat_natCast, Int.reduceToNat, Int.cast_ofNat_Int, true_and, and_true, false_and, and_false, true_implies, forall_const, eq_self, and_self, or_true, true_or, or_self, false_or, or_false, yI_sI, yR_sI, yC_sI, yN_sI, yI_sR, yR_sR, yC_sR, yN_sR, not_true_eq_false, not_false_eq_true, false_implies, implies_true, Nat.zero_add, Nat.add_zero, Nat.le_refl, Nat.reduceSub, Int.reduceSub, Int.reduceLT, Int.sub_zero, Int.sub_self, List.getElem?_toArray, List.getElem?_cons_zero, List.getElem?_cons_succ, Int.toNat_zero, Int.toNat_one, Int.lt_irrefl, yI_sB, yR_sB, yC_sB, yN_sB, MSh_sB_eq, pU_appliesTo_0, stp_iload_n, pU_appliesTo_1, stp_aload_n, pU_appliesTo_2, stp_getfield, qfU_35, rp_12_0, pU_appliesTo_5, stp_if_icmp_lt, pU_appliesTo_8, pU_appliesTo_9, pU_appliesTo_10, qfU_38, rp_12_1, pU_appliesTo_13, pU_appliesTo_16, stp_iconst, pU_appliesTo_17, stp_ireturn, pU_appliesTo_18, pU_appliesTo_19, stp_istore, pU_appliesTo_21, stp_iload, pU_appliesTo_23, pU_appliesTo_24, qfU_25, rp_12_6, pU_appliesTo_27, stp_if_icmp_ge, pU_appliesTo_30, pU_appliesTo_32, pU_appliesTo_33, pU_appliesTo_36, pU_appliesTo_37, pU_appliesTo_39, pU_appliesTo_40, pU_appliesTo_41, pU_appliesTo_42, stp_invokevirtual, qmU_41, cy_U_isMet, pU_appliesTo_45, stp_ifCond_eq, pU_appliesTo_48, pU_appliesTo_49, pU_appliesTo_50, stp_iinc, pU_appliesTo_53, stp_goto, pU_appliesTo_56, pU_appliesTo_57, pU_appliesTo_60, stp_ifCond_ne, pU_appliesTo_63, pU_appliesTo_64, pU_appliesTo_67, pU_appliesTo_68, ic_0, ic_3, ic_1, nv_U_appliesTo, ml_U_appliesTo, r0, hj, hc, h1, h4, ru, q, hl1, nI_1]
      exact ih
    · have e : anyN (fun i => meC w m i j b x) c = true := anyN_t (i := i) (by omega) q
      rw [e, Bool.or_true] at hQ
      simp only [reduceCtorEq, fv0, fv1, fv2, fv3, bI_0, bI_1, bft, MSh_sI_eq, fsP_T, inL_0, inL_s, pad_0, pad_n, pad_s, wpn_s, wp1_s, lg_0, lg_s, lset_0, lset_s, kil_0, kil_s, st1_s, st2_s, isL_i, isL_l, isL_r, isL_n, spl_0, spl_s, cll_n, cll_s, catS_0, catS_s, jmp_s, alk_0, alk_s, otl_n, otl_s, List.nil_append, List.cons_append, List.contains_cons, List.contains_nil, Nat.reduceBEq, Bool.or_false, Bool.false_or, Bool.or_self, Bool.false_eq_true, Bool.true_or, Bool.or_true, if_true, if_false, ite_true, ite_false, ↓reduceIte, List.length_cons, List.length_nil, Nat.reduceAdd, Nat.reduceLT, Nat.reduceLeDiff, Nat.reduceEqDiff, Int.reduceAdd, Int.reduceLE, Int.toNat_natCast, Int.reduceToNat, Int.cast_ofNat_Int, true_and, and_true, false_and, and_false, true_implies, forall_const, eq_self, and_self, or_true, true_or, or_self, false_or, or_false, yI_sI, yR_sI, yC_sI, yN_sI, yI_sR, yR_sR, yC_sR, yN_sR, not_true_eq_false, not_false_eq_true, false_implies, implies_true, Nat.zero_add, Nat.add_zero, Nat.le_refl, Nat.reduceSub, Int.reduceSub, Int.reduceLT, Int.sub_zero, Int.sub_self, List.getElem?_toArray, List.getElem?_cons_zero, List.getElem?_cons_succ, Int.toNat_zero, Int.toNat_one, Int.lt_irrefl, yI_sB, yR_sB, yC_sB, yN_sB, MSh_sB_eq, pU_appliesTo_0, stp_iload_n, pU_appliesTo_1, stp_aload_n, pU_appliesTo_2, stp_getfield, qfU_35, rp_12_0, pU_appliesTo_5, stp_if_icmp_lt, pU_appliesTo_8, pU_appliesTo_9, pU_appliesTo_10, qfU_38, rp_12_1, pU_appliesTo_13, pU_appliesTo_16, stp_iconst, pU_appliesTo_17, stp_ireturn, pU_appliesTo_18, pU_appliesTo_19, stp_istore, pU_appliesTo_21, stp_iload, pU_appliesTo_23, pU_appliesTo_24, qfU_25, rp_12_6, pU_appliesTo_27, stp_if_icmp_ge, pU_appliesTo_30, pU_appliesTo_32, pU_appliesTo_33, pU_appliesTo_36, pU_appliesTo_37, pU_appliesTo_39, pU_appliesTo_40, pU_appliesTo_41, pU_appliesTo_42, stp_invokevirtual, qmU_41, cy_U_isMet, pU_appliesTo_45, stp_ifCond_eq, pU_appliesTo_48, pU_appliesTo_49, pU_appliesTo_50, stp_iinc, pU_appliesTo_53, stp_goto, pU_appliesTo_56, pU_appliesTo_57, pU_appliesTo_60, stp_ifCond_ne, pU_appliesTo_63, pU_appliesTo_64, pU_appliesTo_67, pU_appliesTo_68, ic_0, ic_3, ic_1, nv_U_appliesTo, ml_U_appliesTo, r0, hj, hc, h1, h4, ru, q, hl1]
      exact hQ
end
abbrev lvU_appliesTo : Nat := 4
noncomputable def fsU_appliesTo : FS := fun as w => match as with
  | [.inr (.inr (some (12, m))), .inr (.inr (some (10, j))), .inl b, .inl x] => fsP (RuS w m ∧ j < wC w 10 ∧ wI w 12 m 6 = nI (tsC' w m) ∧ tsC' w m ≤ 3) (some (.inl (bI (apC w m j (tsC' w m) b x))), w)
  | _ => none
set_option maxRecDepth 100000 in
set_option maxHeartbeats 4000000 in
theorem okU_appliesTo (l : Launch) (G : Gc) : FsOk l G mU_appliesTo lvU_appliesTo fsU_appliesTo := by
  intro as w r w' h
  simp only [fsU_appliesTo] at h
  split at h
  · rename_i m j b x
    obtain ⟨⟨hr, hj, hc, h3⟩, h⟩ := fsP_s h
    cases h
    obtain ⟨r0, -⟩ := id hr
    refine Sem_of (by decide) rfl (Nat.le_of_ble_eq_true rfl) ?_
    refine wpn_ok (M := mU_appliesTo) (C := cenU) (X := (alk [])) (tb := tU_appliesTo) (st := [21]) eoU XOk_nil kU_appliesTo 60 _ _ _ _ _ _ ?_
    by_cases q1 : x < wI w 12 m 0
    · simp only [reduceCtorEq, fv0, fv1, fv2, fv3, bI_0, bI_1, bft, MSh_sI_eq, fsP_T, inL_0, inL_s, pad_0, pad_n, pad_s, wpn_s, wp1_s, lg_0, lg_s, lset_0, lset_s, kil_0, kil_s, st1_s, st2_s, isL_i, isL_l, isL_r, isL_n, spl_0, spl_s, cll_n, cll_s, catS_0, catS_s, jmp_s, alk_0, alk_s, otl_n, otl_s, List.nil_append, List.cons_append, List.contains_cons, List.contains_nil, Nat.reduceBEq, Bool.or_false, Bool.false_or, Bool.or_self, Bool.false_eq_true, Bool.true_or, Bool.or_true, if_true, if_false, ite_true, ite_false, ↓reduceIte, List.length_cons, List.length_nil, Nat.reduceAdd, Nat.reduceLT, Nat.reduceLeDiff, Nat.reduceEqDiff, Int.reduceAdd, Int.reduceLE, Int.toNat_natCast, Int.reduceToNat, Int.cast_ofNat_Int, true_and, and_true, false_and, and_false, true_implies, forall_const, eq_self, and_self, or_true, true_or, or_self, false_or, or_false, yI_sI, yR_sI, yC_sI, yN_sI, yI_sR, yR_sR, yC_sR, yN_sR, not_true_eq_false, not_false_eq_true, false_implies, implies_true, Nat.zero_add, Nat.add_zero, Nat.le_refl, Nat.reduceSub, Int.reduceSub, Int.reduceLT, Int.sub_zero, Int.sub_self, List.getElem?_toArray, List.getElem?_cons_zero, List.getElem?_cons_succ, Int.toNat_zero, Int.toNat_one, Int.lt_irrefl, yI_sB, yR_sB, yC_sB, yN_sB, MSh_sB_eq, pU_appliesTo_0, stp_iload_n, pU_appliesTo_1, stp_aload_n, pU_appliesTo_2, stp_getfield, qfU_35, rp_12_0, pU_appliesTo_5, stp_if_icmp_lt, pU_appliesTo_8, pU_appliesTo_9, pU_appliesTo_10, qfU_38, rp_12_1, pU_appliesTo_13, pU_appliesTo_16, stp_iconst, pU_appliesTo_17, stp_ireturn, pU_appliesTo_18, pU_appliesTo_19, stp_istore, pU_appliesTo_21, stp_iload, pU_appliesTo_23, pU_appliesTo_24, qfU_25, rp_12_6, pU_appliesTo_27, stp_if_icmp_ge, pU_appliesTo_30, pU_appliesTo_32, pU_appliesTo_33, pU_appliesTo_36, pU_appliesTo_37, pU_appliesTo_39, pU_appliesTo_40, pU_appliesTo_41, pU_appliesTo_42, stp_invokevirtual, qmU_41, cy_U_isMet, pU_appliesTo_45, stp_ifCond_eq, pU_appliesTo_48, pU_appliesTo_49, pU_appliesTo_50, stp_iinc, pU_appliesTo_53, stp_goto, pU_appliesTo_56, pU_appliesTo_57, pU_appliesTo_60, stp_ifCond_ne, pU_appliesTo_63, pU_appliesTo_64, pU_appliesTo_67, pU_appliesTo_68, ic_0, ic_3, ic_1, nv_U_appliesTo, ml_U_appliesTo, r0, q1]
      simp [apC, q1, bI]
    · by_cases q2 : x < wI w 12 m 1
      · simp only [reduceCtorEq, fv0, fv1, fv2, fv3, bI_0, bI_1, bft, MSh_sI_eq, fsP_T, inL_0, inL_s, pad_0, pad_n, pad_s, wpn_s, wp1_s, lg_0, lg_s, lset_0, lset_s, kil_0, kil_s, st1_s, st2_s, isL_i, isL_l, isL_r, isL_n, spl_0, spl_s, cll_n, cll_s, catS_0, catS_s, jmp_s, alk_0, alk_s, otl_n, otl_s, List.nil_append, List.cons_append, List.contains_cons, List.contains_nil, Nat.reduceBEq, Bool.or_false, Bool.false_or, Bool.or_self, Bool.false_eq_true, Bool.true_or, Bool.or_true, if_true, if_false, ite_true, ite_false, ↓reduceIte, List.length_cons, List.length_nil, Nat.reduceAdd, Nat.reduceLT, Nat.reduceLeDiff, Nat.reduceEqDiff, Int.reduceAdd, Int.reduceLE, Int.toNat_natCast, Int.reduceToNat, Int.cast_ofNat_Int, true_and, and_true, false_and, and_false, true_implies, forall_const, eq_self, and_self, or_true, true_or, or_self, false_or, or_false, yI_sI, yR_sI, yC_sI, yN_sI, yI_sR, yR_sR, yC_sR, yN_sR, not_true_eq_false, not_false_eq_true, false_implies, implies_true, Nat.zero_add, Nat.add_zero, Nat.le_refl, Nat.reduceSub, Int.reduceSub, Int.reduceLT, Int.sub_zero, Int.sub_self, List.getElem?_toArray, List.getElem?_cons_zero, List.getElem?_cons_succ, Int.toNat_zero, Int.toNat_one, Int.lt_irrefl, yI_sB, yR_sB, yC_sB, yN_sB, MSh_sB_eq, pU_appliesTo_0, stp_iload_n, pU_appliesTo_1, stp_aload_n, pU_appliesTo_2, stp_getfield, qfU_35, rp_12_0, pU_appliesTo_5, stp_if_icmp_lt, pU_appliesTo_8, pU_appliesTo_9, pU_appliesTo_10, qfU_38, rp_12_1, pU_appliesTo_13, pU_appliesTo_16, stp_iconst, pU_appliesTo_17, stp_ireturn, pU_appliesTo_18, pU_appliesTo_19, stp_istore, pU_appliesTo_21, stp_iload, pU_appliesTo_23, pU_appliesTo_24, qfU_25, rp_12_6, pU_appliesTo_27, stp_if_icmp_ge, pU_appliesTo_30, pU_appliesTo_32, pU_appliesTo_33, pU_appliesTo_36, pU_appliesTo_37, pU_appliesTo_39, pU_appliesTo_40, pU_appliesTo_41, pU_appliesTo_42, stp_invokevirtual, qmU_41, cy_U_isMet, pU_appliesTo_45, stp_ifCond_eq, pU_appliesTo_48, pU_appliesTo_49, pU_appliesTo_50, stp_iinc, pU_appliesTo_53, stp_goto, pU_appliesTo_56, pU_appliesTo_57, pU_appliesTo_60, stp_ifCond_ne, pU_appliesTo_63, pU_appliesTo_64, pU_appliesTo_67, pU_appliesTo_68, ic_0, ic_3, ic_1, nv_U_appliesTo, ml_U_appliesTo, r0, q1, q2]
        refine lpU_appliesTo (by decide) hr hj hc h3 ?_ (tsC' w m) 0 (by omega) rfl
        simp [apC, q1, q2, -Int32.not_lt]
      · simp only [reduceCtorEq, fv0, fv1, fv2, fv3, bI_0, bI_1, bft, MSh_sI_eq, fsP_T, inL_0, inL_s, pad_0, pad_n, pad_s, wpn_s, wp1_s, lg_0, lg_s, lset_0, lset_s, kil_0, kil_s, st1_s, st2_s, isL_i, isL_l, isL_r, isL_n, spl_0, spl_s, cll_n, cll_s, catS_0, catS_s, jmp_s, alk_0, alk_s, otl_n, otl_s, List.nil_append, List.cons_append, List.contains_cons, List.contains_nil, Nat.reduceBEq, Bool.or_false, Bool.false_or, Bool.or_self, Bool.false_eq_true, Bool.true_or, Bool.or_true, if_true, if_false, ite_true, ite_false, ↓reduceIte, List.length_cons, List.length_nil, Nat.reduceAdd, Nat.reduceLT, Nat.reduceLeDiff, Nat.reduceEqDiff, Int.reduceAdd, Int.reduceLE, Int.toNat_natCast, Int.reduceToNat, Int.cast_ofNat_Int, true_and, and_true, false_and, and_false, true_implies, forall_const, eq_self, and_self, or_true, true_or, or_self, false_or, or_false, yI_sI, yR_sI, yC_sI, yN_sI, yI_sR, yR_sR, yC_sR, yN_sR, not_true_eq_false, not_false_eq_true, false_implies, implies_true, Nat.zero_add, Nat.add_zero, Nat.le_refl, Nat.reduceSub, Int.reduceSub, Int.reduceLT, Int.sub_zero, Int.sub_self, List.getElem?_toArray, List.getElem?_cons_zero, List.getElem?_cons_succ, Int.toNat_zero, Int.toNat_one, Int.lt_irrefl, yI_sB, yR_sB, yC_sB, yN_sB, MSh_sB_eq, pU_appliesTo_0, stp_iload_n, pU_appliesTo_1, stp_aload_n, pU_appliesTo_2, stp_getfield, qfU_35, rp_12_0, pU_appliesTo_5, stp_if_icmp_lt, pU_appliesTo_8, pU_appliesTo_9, pU_appliesTo_10, qfU_38, rp_12_1, pU_appliesTo_13, pU_appliesTo_16, stp_iconst, pU_appliesTo_17, stp_ireturn, pU_appliesTo_18, pU_appliesTo_19, stp_istore, pU_appliesTo_21, stp_iload, pU_appliesTo_23, pU_appliesTo_24, qfU_25, rp_12_6, pU_appliesTo_27, stp_if_icmp_ge, pU_appliesTo_30, pU_appliesTo_32, pU_appliesTo_33, pU_appliesTo_36, pU_appliesTo_37, pU_appliesTo_39, pU_appliesTo_40, pU_appliesTo_41, pU_appliesTo_42, stp_invokevirtual, qmU_41, cy_U_isMet, pU_appliesTo_45, stp_ifCond_eq, pU_appliesTo_48, pU_appliesTo_49, pU_appliesTo_50, stp_iinc, pU_appliesTo_53, stp_goto, pU_appliesTo_56, pU_appliesTo_57, pU_appliesTo_60, stp_ifCond_ne, pU_appliesTo_63, pU_appliesTo_64, pU_appliesTo_67, pU_appliesTo_68, ic_0, ic_3, ic_1, nv_U_appliesTo, ml_U_appliesTo, r0, q1, q2]
        simp [apC, q2, bI, -Int32.not_lt]
  · cases h
theorem ruU_appliesTo {w : Wd} {m j : Nat} {b x : Int32} (hr : RuS w m) (hj : j < wC w 10) (hc : wI w 12 m 6 = nI (tsC' w m)) (h3 : tsC' w m ≤ 3) : fsU_appliesTo [.inr (.inr (some (12, m))), .inr (.inr (some (10, j))), .inl b, .inl x] w = some (some (.inl (bI (apC w m j (tsC' w m) b x))), w) := fsP_t ⟨hr, hj, hc, h3⟩
theorem vl_eq {w : Wd} {f b : Int32} {j : Nat} (hc : LtC w j) : vlC w f j b (wI w 13 0 2) = vOf w f j b := by
  obtain ⟨c0, c1, c3, c4, c5, c6, -⟩ := hc
  unfold vlC vOf
  rw [c3, c4, c5, c6]
theorem me_eq {w : Wd} {m r i j : Nat} {b : Int32} (hr : RuC w m r) (hi : i < cnT w r) (hc : LtC w j) : meC w m i j b (wI w 13 0 2) = soB w (3 * r + i) j b := by
  obtain ⟨q1, q2, q3, q4, q5, q6⟩ := hr.2.2.2.2.2.1 i hi
  unfold meC soB
  rw [q1, q2, q3, q4, vl_eq hc]
  have e : cmC (wI w 156 0 (3 * r + i)) (vOf w (wI w 155 0 (3 * r + i)) j b) (wI w 157 0 (3 * r + i)) = cmpB (wI w 156 0 (3 * r + i)) (vOf w (wI w 155 0 (3 * r + i)) j b) (wI w 157 0 (3 * r + i)) := by
    unfold cmC cmpB
    rcases q5 with e | e | e <;> rw [e]
    · rfl
    · rfl
    · rfl
  rw [e]
theorem ap_eq {w : Wd} {m r j : Nat} {b : Int32} (hR : okR w) (hr : RuC w m r) (hrr : r < cn w 48) (hc : LtC w j) : tsC' w m = cnT w r ∧ wI w 12 m 6 = nI (tsC' w m) ∧ tsC' w m ≤ 3 ∧ apC w m j (tsC' w m) b (wI w 13 0 2) = hdB w r j b := by
  obtain ⟨o1, o2⟩ := hR.2 r hrr
  have e : tsC' w m = cnT w r := by unfold tsC' cnT; rw [hr.2.2.1]
  refine ⟨e, by rw [e, hr.2.2.1]; exact o1, by omega, ?_⟩
  unfold apC hdB
  rw [hr.1, hr.2.1, hr.2.2.1, e]
  congr 3
  exact anyN_congr fun i hi => me_eq hr hi hc
/-- class and reference with the rules -/
def Cpr (w : Wd) : Prop := Cpl w ∧ CpR w
/-- a rule of the class, as it is asked -/
theorem ru_rule {w : Wd} {ρ : Nat → Nat} {r j : Nat} {b : Int32} (h : Cpl w) (hr : RuS w (ρ r) ∧ RuC w (ρ r) r) (hrr : r < cn w 48) (hj : j < cn w 17) : fsU_appliesTo [.inr (.inr (some (12, ρ r))), .inr (.inr (some (10, j))), .inl b, .inl (wI w 13 0 2)] w = some (some (.inl (bI (hdB w r j b))), w) := by
  obtain ⟨hs, hc⟩ := Cpl_lot h hj
  obtain ⟨e1, e2, e3, e4⟩ := ap_eq (b := b) h.2.1.2.2.2.2.1 hr.2 hrr hc
  rw [← e4]
  exact ruU_appliesTo hr.1 hs.1 e2 e3
theorem sw_eq {a k : Int32} (ha : a = 0 ∨ a = 1 ∨ a = 2 ∨ a = 3) (hk : k = 0 ∨ k = 1 ∨ k = 2 ∨ k = 3) : (swK a = swK k) = (a = k) := by
  rcases ha with rfl | rfl | rfl | rfl <;> rcases hk with rfl | rfl | rfl | rfl <;> decide
section
variable {l : Launch} {G : Gc} {n : Nat} {Q : Option AV → Wd → Prop} {w : Wd}
set_option maxRecDepth 100000 in
set_option maxHeartbeats 4000000 in
theorem stB_saying {k b : Int32} {i j : Nat} {ρ : Nat → Nat} {l6 : Option AV} (hl : 4 < n) (hk : k = 0 ∨ k = 1 ∨ k = 2 ∨ k = 3) (hC : Cpl w) (hL : LiS w 2 (cn w 48) (fun r => (12, ρ r))) (hR : ∀ r, r < cn w 48 → RuS w (ρ r) ∧ RuC w (ρ r) r) (hj : j < cn w 17) (hi : i < cn w 48) (hQ : sdF w k j b i = true → Q (some (.inl (wI w 150 0 i))) w) (ih : sdF w k j b i = false → ∀ l6, WP l G mB_saying n 0 0 Q 11 [some (.inr (.inr (some (4, 0)))), some (.inl (swK k)), some (.inr (.inr (some (10, j)))), some (.inl b), some (.inl (wI w 13 0 2)), some (.inl (nI i - 1)), l6] [] w 0 0) : WP l G mB_saying n 0 0 Q 11 [some (.inr (.inr (some (4, 0)))), some (.inl (swK k)), some (.inr (.inr (some (10, j)))), some (.inl b), some (.inl (wI w 13 0 2)), some (.inl (nI i)), l6] [] w 0 0 := by
  have hS := hC.1
  have h10 := hC.2.1.2.2.2.2.1.1.2
  have rg := ruL_get hL hi
  try simp only [] at rg
  have hl2 : lvL_get < n := by show 3 < n; omega
  have hl3 : lvU_appliesTo < n := hl
  have h1 : ¬ nI i < 0 := nI_pos (by omega)
  obtain ⟨hs, hc⟩ := Cpl_lot hC hj
  have hr := hR i hi
  have ra := ru_rule (b := b) hC hr hi hj
  have e7 := hr.2.2.2.2.1
  have e8 := hr.2.2.2.2.2.1
  have hsw := sw_eq hr.2.2.2.2.2.2.2 hk
  have hm := hr.1.1
  refine wpn_ok (M := mB_saying) (C := cenB) (X := (alk [(22, lvL_get, fsL_get), (32, lvU_appliesTo, fsU_appliesTo)])) (tb := tB_saying) (st := [11]) eoB (XOk_cons qmB_22 (okL_get l G) (XOk_cons qmB_32 (okU_appliesTo l G) XOk_nil)) kB_saying 60 _ _ _ _ _ _ ?_
  by_cases q1 : wI w 149 0 i = k
  · have q1' : swK (wI w 149 0 i) = swK k := by rw [q1]
    cases q2 : hdB w i j b
    · have := ih (by simp [sdF, q2]) (some (.inr (.inr (some (12, ρ i)))))
      simp only [reduceCtorEq, fv0, fv1, fv2, fv3, bI_0, bI_1, bft, MSh_sI_eq, fsP_T, inL_0, inL_s, pad_0, pad_n, pad_s, wpn_s, wp1_s, lg_0, lg_s, lset_0, lset_s, kil_0, kil_s, st1_s, st2_s, isL_i, isL_l, isL_r, isL_n, spl_0, spl_s, cll_n, cll_s, catS_0, catS_s, jmp_s, alk_0, alk_s, otl_n, otl_s, List.nil_append, List.cons_append, List.contains_cons, List.contains_nil, Nat.reduceBEq, Bool.or_false, Bool.false_or, Bool.or_self, Bool.false_eq_true, Bool.true_or, Bool.or_true, if_true, if_false, ite_true, ite_false, ↓reduceIte, List.length_cons, List.length_nil, Nat.reduceAdd, Nat.reduceLT, Nat.reduceLeDiff, Nat.reduceEqDiff, Int.reduceAdd, Int.reduceLE, Int.toNat_natCast, Int.reduceToNat, Int.cast_ofNat_Int, true_and, and_true, false_and, and_false, true_implies, forall_const, eq_self, and_self, or_true, true_or, or_self, false_or, or_false, yI_sI, yR_sI, yC_sI, yN_sI, yI_sR, yR_sR, yC_sR, yN_sR, not_true_eq_false, not_false_eq_true, false_implies, implies_true, Nat.zero_add, Nat.add_zero, Nat.le_refl, Nat.reduceSub, Int.reduceSub, Int.reduceLT, Int.sub_zero, Int.sub_self, List.getElem?_toArray, List.getElem?_cons_zero, List.getElem?_cons_succ, Int.toNat_zero, Int.toNat_one, Int.lt_irrefl, yI_sB, yR_sB, yC_sB, yN_sB, MSh_sB_eq, pB_saying_0, stp_aload_n, pB_saying_1, stp_getfield, qfB_12, rp_4_0, ss_C4 hS, ss_R4_0 hS, ss_C2 hS, pB_saying_4, stp_invokevirtual, qmB_18, cy_L_size, pB_saying_7, stp_iconst, pB_saying_8, stp_isub, pB_saying_9, stp_istore, pB_saying_11, stp_iload, pB_saying_13, stp_ifCond_lt, pB_saying_16, pB_saying_17, pB_saying_20, pB_saying_22, qmB_22, cy_L_get, pB_saying_25, stp_checkcast, qtB_26, pB_saying_28, stp_astore, pB_saying_30, stp_aload, pB_saying_32, qfB_28, rp_12_7, pB_saying_35, stp_iload_n, pB_saying_36, stp_if_icmp_ne, pB_saying_39, pB_saying_41, pB_saying_42, pB_saying_43, pB_saying_45, qmB_32, cy_U_appliesTo, pB_saying_48, stp_ifCond_eq, pB_saying_51, pB_saying_53, qfB_36, rp_12_8, pB_saying_56, stp_ireturn, pB_saying_57, stp_iinc, pB_saying_60, stp_goto, pB_saying_63, pB_saying_64, pB_saying_65, pB_saying_68, stp_sipush, pB_saying_71, pB_saying_74, pB_saying_75, ic_1, ic_m1, ic_2, sp_1440, ic_0, nv_B_saying, ml_B_saying, h1, rg, hm, hl2, hl3, e7, q1', ra, q2, hs.1, nI_pr]
      exact this
    · have := hQ (by simp [sdF, q1, q2])
      simp only [reduceCtorEq, fv0, fv1, fv2, fv3, bI_0, bI_1, bft, MSh_sI_eq, fsP_T, inL_0, inL_s, pad_0, pad_n, pad_s, wpn_s, wp1_s, lg_0, lg_s, lset_0, lset_s, kil_0, kil_s, st1_s, st2_s, isL_i, isL_l, isL_r, isL_n, spl_0, spl_s, cll_n, cll_s, catS_0, catS_s, jmp_s, alk_0, alk_s, otl_n, otl_s, List.nil_append, List.cons_append, List.contains_cons, List.contains_nil, Nat.reduceBEq, Bool.or_false, Bool.false_or, Bool.or_self, Bool.false_eq_true, Bool.true_or, Bool.or_true, if_true, if_false, ite_true, ite_false, ↓reduceIte, List.length_cons, List.length_nil, Nat.reduceAdd, Nat.reduceLT, Nat.reduceLeDiff, Nat.reduceEqDiff, Int.reduceAdd, Int.reduceLE, Int.toNat_natCast, Int.reduceToNat, Int.cast_ofNat_Int, true_and, and_true, false_and, and_false, true_implies, forall_const, eq_self, and_self, or_true, true_or, or_self, false_or, or_false, yI_sI, yR_sI, yC_sI, yN_sI, yI_sR, yR_sR, yC_sR, yN_sR, not_true_eq_false, not_false_eq_true, false_implies, implies_true, Nat.zero_add, Nat.add_zero, Nat.le_refl, Nat.reduceSub, Int.reduceSub, Int.reduceLT, Int.sub_zero, Int.sub_self, List.getElem?_toArray, List.getElem?_cons_zero, List.getElem?_cons_succ, Int.toNat_zero, Int.toNat_one, Int.lt_irrefl, yI_sB, yR_sB, yC_sB, yN_sB, MSh_sB_eq, pB_saying_0, stp_aload_n, pB_saying_1, stp_getfield, qfB_12, rp_4_0, ss_C4 hS, ss_R4_0 hS, ss_C2 hS, pB_saying_4, stp_invokevirtual, qmB_18, cy_L_size, pB_saying_7, stp_iconst, pB_saying_8, stp_isub, pB_saying_9, stp_istore, pB_saying_11, stp_iload, pB_saying_13, stp_ifCond_lt, pB_saying_16, pB_saying_17, pB_saying_20, pB_saying_22, qmB_22, cy_L_get, pB_saying_25, stp_checkcast, qtB_26, pB_saying_28, stp_astore, pB_saying_30, stp_aload, pB_saying_32, qfB_28, rp_12_7, pB_saying_35, stp_iload_n, pB_saying_36, stp_if_icmp_ne, pB_saying_39, pB_saying_41, pB_saying_42, pB_saying_43, pB_saying_45, qmB_32, cy_U_appliesTo, pB_saying_48, stp_ifCond_eq, pB_saying_51, pB_saying_53, qfB_36, rp_12_8, pB_saying_56, stp_ireturn, pB_saying_57, stp_iinc, pB_saying_60, stp_goto, pB_saying_63, pB_saying_64, pB_saying_65, pB_saying_68, stp_sipush, pB_saying_71, pB_saying_74, pB_saying_75, ic_1, ic_m1, ic_2, sp_1440, ic_0, nv_B_saying, ml_B_saying, h1, rg, hm, hl2, hl3, e7, e8, q1', ra, q2, hs.1]
      exact this
  · have q1' : ¬ swK (wI w 149 0 i) = swK k := by rw [hsw]; exact q1
    have := ih (by simp [sdF, q1]) (some (.inr (.inr (some (12, ρ i)))))
    simp only [reduceCtorEq, fv0, fv1, fv2, fv3, bI_0, bI_1, bft, MSh_sI_eq, fsP_T, inL_0, inL_s, pad_0, pad_n, pad_s, wpn_s, wp1_s, lg_0, lg_s, lset_0, lset_s, kil_0, kil_s, st1_s, st2_s, isL_i, isL_l, isL_r, isL_n, spl_0, spl_s, cll_n, cll_s, catS_0, catS_s, jmp_s, alk_0, alk_s, otl_n, otl_s, List.nil_append, List.cons_append, List.contains_cons, List.contains_nil, Nat.reduceBEq, Bool.or_false, Bool.false_or, Bool.or_self, Bool.false_eq_true, Bool.true_or, Bool.or_true, if_true, if_false, ite_true, ite_false, ↓reduceIte, List.length_cons, List.length_nil, Nat.reduceAdd, Nat.reduceLT, Nat.reduceLeDiff, Nat.reduceEqDiff, Int.reduceAdd, Int.reduceLE, Int.toNat_natCast, Int.reduceToNat, Int.cast_ofNat_Int, true_and, and_true, false_and, and_false, true_implies, forall_const, eq_self, and_self, or_true, true_or, or_self, false_or, or_false, yI_sI, yR_sI, yC_sI, yN_sI, yI_sR, yR_sR, yC_sR, yN_sR, not_true_eq_false, not_false_eq_true, false_implies, implies_true, Nat.zero_add, Nat.add_zero, Nat.le_refl, Nat.reduceSub, Int.reduceSub, Int.reduceLT, Int.sub_zero, Int.sub_self, List.getElem?_toArray, List.getElem?_cons_zero, List.getElem?_cons_succ, Int.toNat_zero, Int.toNat_one, Int.lt_irrefl, yI_sB, yR_sB, yC_sB, yN_sB, MSh_sB_eq, pB_saying_0, stp_aload_n, pB_saying_1, stp_getfield, qfB_12, rp_4_0, ss_C4 hS, ss_R4_0 hS, ss_C2 hS, pB_saying_4, stp_invokevirtual, qmB_18, cy_L_size, pB_saying_7, stp_iconst, pB_saying_8, stp_isub, pB_saying_9, stp_istore, pB_saying_11, stp_iload, pB_saying_13, stp_ifCond_lt, pB_saying_16, pB_saying_17, pB_saying_20, pB_saying_22, qmB_22, cy_L_get, pB_saying_25, stp_checkcast, qtB_26, pB_saying_28, stp_astore, pB_saying_30, stp_aload, pB_saying_32, qfB_28, rp_12_7, pB_saying_35, stp_iload_n, pB_saying_36, stp_if_icmp_ne, pB_saying_39, pB_saying_41, pB_saying_42, pB_saying_43, pB_saying_45, qmB_32, cy_U_appliesTo, pB_saying_48, stp_ifCond_eq, pB_saying_51, pB_saying_53, qfB_36, rp_12_8, pB_saying_56, stp_ireturn, pB_saying_57, stp_iinc, pB_saying_60, stp_goto, pB_saying_63, pB_saying_64, pB_saying_65, pB_saying_68, stp_sipush, pB_saying_71, pB_saying_74, pB_saying_75, ic_1, ic_m1, ic_2, sp_1440, ic_0, nv_B_saying, ml_B_saying, h1, rg, hm, hl2, hl3, e7, q1', nI_pr]
    exact this
set_option maxRecDepth 100000 in
set_option maxHeartbeats 4000000 in
theorem lpB_saying {k b : Int32} {j : Nat} {ρ : Nat → Nat} (hl : 4 < n) (hk : k = 0 ∨ k = 1 ∨ k = 2 ∨ k = 3) (hC : Cpl w) (hL : LiS w 2 (cn w 48) (fun r => (12, ρ r))) (hR : ∀ r, r < cn w 48 → RuS w (ρ r) ∧ RuC w (ρ r) r) (hj : j < cn w 17) : ∀ i l6, i ≤ cn w 48 → Q (some (.inl (sdV w k (lstN (sdF w k j b) i)))) w → WP l G mB_saying n 0 0 Q 11 [some (.inr (.inr (some (4, 0)))), some (.inl (swK k)), some (.inr (.inr (some (10, j)))), some (.inl b), some (.inl (wI w 13 0 2)), some (.inl (nI i - 1)), l6] [] w 0 0
  | 0, l6, hi, hQ => by
    have hS := hC.1
    have h1 : nI 0 - 1 < 0 := by decide
    refine wpn_ok (M := mB_saying) (C := cenB) (X := (alk [])) (tb := tB_saying) (st := [11]) eoB XOk_nil kB_saying 60 _ _ _ _ _ _ ?_
    simp only [reduceCtorEq, fv0, fv1, fv2, fv3, bI_0, bI_1, bft, MSh_sI_eq, fsP_T, inL_0, inL_s, pad_0, pad_n, pad_s, wpn_s, wp1_s, lg_0, lg_s, lset_0, lset_s, kil_0, kil_s, st1_s, st2_s, isL_i, isL_l, isL_r, isL_n, spl_0, spl_s, cll_n, cll_s, catS_0, catS_s, jmp_s, alk_0, alk_s, otl_n, otl_s, List.nil_append, List.cons_append, List.contains_cons, List.contains_nil, Nat.reduceBEq, Bool.or_false, Bool.false_or, Bool.or_self, Bool.false_eq_true, Bool.true_or, Bool.or_true, if_true, if_false, ite_true, ite_false, ↓reduceIte, List.length_cons, List.length_nil, Nat.reduceAdd, Nat.reduceLT, Nat.reduceLeDiff, Nat.reduceEqDiff, Int.reduceAdd, Int.reduceLE, Int.toNat_natCast, Int.reduceToNat, Int.cast_ofNat_Int, true_and, and_true, false_and, and_false, true_implies, forall_const, eq_self, and_self, or_true, true_or, or_self, false_or, or_false, yI_sI, yR_sI, yC_sI, yN_sI, yI_sR, yR_sR, yC_sR, yN_sR, not_true_eq_false, not_false_eq_true, false_implies, implies_true, Nat.zero_add, Nat.add_zero, Nat.le_refl, Nat.reduceSub, Int.reduceSub, Int.reduceLT, Int.sub_zero, Int.sub_self, List.getElem?_toArray, List.getElem?_cons_zero, List.getElem?_cons_succ, Int.toNat_zero, Int.toNat_one, Int.lt_irrefl, yI_sB, yR_sB, yC_sB, yN_sB, MSh_sB_eq, pB_saying_0, stp_aload_n, pB_saying_1, stp_getfield, qfB_12, rp_4_0, ss_C4 hS, ss_R4_0 hS, ss_C2 hS, pB_saying_4, stp_invokevirtual, qmB_18, cy_L_size, pB_saying_7, stp_iconst, pB_saying_8, stp_isub, pB_saying_9, stp_istore, pB_saying_11, stp_iload, pB_saying_13, stp_ifCond_lt, pB_saying_16, pB_saying_17, pB_saying_20, pB_saying_22, qmB_22, cy_L_get, pB_saying_25, stp_checkcast, qtB_26, pB_saying_28, stp_astore, pB_saying_30, stp_aload, pB_saying_32, qfB_28, rp_12_7, pB_saying_35, stp_iload_n, pB_saying_36, stp_if_icmp_ne, pB_saying_39, pB_saying_41, pB_saying_42, pB_saying_43, pB_saying_45, qmB_32, cy_U_appliesTo, pB_saying_48, stp_ifCond_eq, pB_saying_51, pB_saying_53, qfB_36, rp_12_8, pB_saying_56, stp_ireturn, pB_saying_57, stp_iinc, pB_saying_60, stp_goto, pB_saying_63, pB_saying_64, pB_saying_65, pB_saying_68, stp_sipush, pB_saying_71, pB_saying_74, pB_saying_75, ic_1, ic_m1, ic_2, sp_1440, ic_0, nv_B_saying, ml_B_saying, h1]
    simp only [lstN, sdV] at hQ
    rcases hk with rfl | rfl | rfl | rfl
    · simpa [swK] using hQ
    · simpa [swK] using hQ
    · simpa [swK] using hQ
    · simpa [swK] using hQ
  | i + 1, l6, hi, hQ => by
    rw [nI_pred]
    refine stB_saying hl hk hC hL hR hj (by omega) (fun q => ?_) (fun q l6' => ?_)
    · simp only [lstN, q, if_true, sdV] at hQ
      exact hQ
    · refine lpB_saying hl hk hC hL hR hj i l6' (by omega) ?_
      simp only [lstN, q] at hQ
      exact hQ
end
abbrev lvB_saying : Nat := 5
noncomputable def fsB_saying : FS := fun as w => match as with
  | [.inr (.inr (some (4, 0))), .inl k, .inr (.inr (some (10, j))), .inl b, .inl x] => fsP (Cpr w ∧ j < cn w 17 ∧ x = wI w 13 0 2 ∧ (k = 0 ∨ k = 1 ∨ k = 2)) (some (.inl (sdI w (swK k) j b)), w)
  | _ => none
theorem swsw {k : Int32} (h : k = 0 ∨ k = 1 ∨ k = 2) : swK (swK k) = k ∧ (swK k = 0 ∨ swK k = 1 ∨ swK k = 2 ∨ swK k = 3) := by
  rcases h with rfl | rfl | rfl <;> decide
set_option maxRecDepth 100000 in
set_option maxHeartbeats 4000000 in
theorem okB_saying (l : Launch) (G : Gc) : FsOk l G mB_saying lvB_saying fsB_saying := by
  intro as w r w' h
  simp only [fsB_saying] at h
  split at h
  · rename_i k j b x
    obtain ⟨⟨⟨hC, ρ, hL, hR⟩, hj, hx, hk⟩, h⟩ := fsP_s h
    cases h
    subst hx
    have hS := hC.1
    have rs := ruL_size hL
    obtain ⟨k1, k2⟩ := swsw hk
    refine Sem_of (by decide) rfl (Nat.le_of_ble_eq_true rfl) ?_
    refine wpn_ok (M := mB_saying) (C := cenB) (X := (alk [(18, lvL_size, fsL_size)])) (tb := tB_saying) (st := [11]) eoB (XOk_cons qmB_18 (okL_size l G) XOk_nil) kB_saying 60 _ _ _ _ _ _ ?_
    simp only [reduceCtorEq, fv0, fv1, fv2, fv3, bI_0, bI_1, bft, MSh_sI_eq, fsP_T, inL_0, inL_s, pad_0, pad_n, pad_s, wpn_s, wp1_s, lg_0, lg_s, lset_0, lset_s, kil_0, kil_s, st1_s, st2_s, isL_i, isL_l, isL_r, isL_n, spl_0, spl_s, cll_n, cll_s, catS_0, catS_s, jmp_s, alk_0, alk_s, otl_n, otl_s, List.nil_append, List.cons_append, List.contains_cons, List.contains_nil, Nat.reduceBEq, Bool.or_false, Bool.false_or, Bool.or_self, Bool.false_eq_true, Bool.true_or, Bool.or_true, if_true, if_false, ite_true, ite_false, ↓reduceIte, List.length_cons, List.length_nil, Nat.reduceAdd, Nat.reduceLT, Nat.reduceLeDiff, Nat.reduceEqDiff, Int.reduceAdd, Int.reduceLE, Int.toNat_natCast, Int.reduceToNat, Int.cast_ofNat_Int, true_and, and_true, false_and, and_false, true_implies, forall_const, eq_self, and_self, or_true, true_or, or_self, false_or, or_false, yI_sI, yR_sI, yC_sI, yN_sI, yI_sR, yR_sR, yC_sR, yN_sR, not_true_eq_false, not_false_eq_true, false_implies, implies_true, Nat.zero_add, Nat.add_zero, Nat.le_refl, Nat.reduceSub, Int.reduceSub, Int.reduceLT, Int.sub_zero, Int.sub_self, List.getElem?_toArray, List.getElem?_cons_zero, List.getElem?_cons_succ, Int.toNat_zero, Int.toNat_one, Int.lt_irrefl, yI_sB, yR_sB, yC_sB, yN_sB, MSh_sB_eq, pB_saying_0, stp_aload_n, pB_saying_1, stp_getfield, qfB_12, rp_4_0, ss_C4 hS, ss_R4_0 hS, ss_C2 hS, pB_saying_4, stp_invokevirtual, qmB_18, cy_L_size, pB_saying_7, stp_iconst, pB_saying_8, stp_isub, pB_saying_9, stp_istore, pB_saying_11, stp_iload, pB_saying_13, stp_ifCond_lt, pB_saying_16, pB_saying_17, pB_saying_20, pB_saying_22, qmB_22, cy_L_get, pB_saying_25, stp_checkcast, qtB_26, pB_saying_28, stp_astore, pB_saying_30, stp_aload, pB_saying_32, qfB_28, rp_12_7, pB_saying_35, stp_iload_n, pB_saying_36, stp_if_icmp_ne, pB_saying_39, pB_saying_41, pB_saying_42, pB_saying_43, pB_saying_45, qmB_32, cy_U_appliesTo, pB_saying_48, stp_ifCond_eq, pB_saying_51, pB_saying_53, qfB_36, rp_12_8, pB_saying_56, stp_ireturn, pB_saying_57, stp_iinc, pB_saying_60, stp_goto, pB_saying_63, pB_saying_64, pB_saying_65, pB_saying_68, stp_sipush, pB_saying_71, pB_saying_74, pB_saying_75, ic_1, ic_m1, ic_2, sp_1440, ic_0, nv_B_saying, ml_B_saying, rs, lvB_saying, lvL_size]
    have := lpB_saying (l := l) (G := G) (n := 5) (Q := fun r2 w2 => r2 = some (.inl (sdI w (swK k) j b)) ∧ w2 = w) (b := b) (by decide) k2 hC hL hR hj (cn w 48) none (Nat.le_refl _) ⟨rfl, rfl⟩
    rw [k1] at this
    exact this
  · cases h
theorem ruB_saying {w : Wd} {k b : Int32} {j : Nat} (h : Cpr w) (hj : j < cn w 17) (hk : k = 0 ∨ k = 1 ∨ k = 2) : fsB_saying [.inr (.inr (some (4, 0))), .inl k, .inr (.inr (some (10, j))), .inl b, .inl (wI w 13 0 2)] w = some (some (.inl (sdI w (swK k) j b)), w) := fsP_t ⟨h, hj, rfl, hk⟩
abbrev lvB_isDry : Nat := 6
noncomputable def fsB_isDry : FS := fun as w => match as with
  | [.inr (.inr (some (4, 0))), .inr (.inr (some (10, j))), .inl x] => fsP (Cpr w ∧ j < cn w 17 ∧ x = wI w 13 0 2) (some (.inl (bI (dryB w j))), w)
  | _ => none
set_option maxRecDepth 100000 in
set_option maxHeartbeats 4000000 in
theorem okB_isDry (l : Launch) (G : Gc) : FsOk l G mB_isDry lvB_isDry fsB_isDry := by
  intro as w r w' h
  simp only [fsB_isDry] at h
  split at h
  · rename_i j x
    obtain ⟨⟨hC, hj, hx⟩, h⟩ := fsP_s h
    cases h
    subst hx
    have hS := hC.1.1
    obtain ⟨hs, hc⟩ := Cpl_lot hC.1 hj
    have e6 := hc.2.2.2.2.2.1
    have rt := ruO_thirst (x := wI w 13 0 2) hs.1
    rw [e6] at rt
    have ra := ruB_saying (k := 2) (b := -1) hC hj (Or.inr (Or.inr rfl))
    rw [show swK 2 = 3 by decide] at ra
    refine Sem_of (by decide) rfl (Nat.le_of_ble_eq_true rfl) ?_
    refine wpn_ok (M := mB_isDry) (C := cenB) (X := (alk [(39, lvO_thirst, fsO_thirst), (45, lvB_saying, fsB_saying)])) (tb := tB_isDry) (st := []) eoB (XOk_cons qmB_39 (okO_thirst l G) (XOk_cons qmB_45 (okB_saying l G) XOk_nil)) kB_isDry 60 _ _ _ _ _ _ ?_
    simp only [reduceCtorEq, fv0, fv1, fv2, fv3, bI_0, bI_1, bft, MSh_sI_eq, fsP_T, inL_0, inL_s, pad_0, pad_n, pad_s, wpn_s, wp1_s, lg_0, lg_s, lset_0, lset_s, kil_0, kil_s, st1_s, st2_s, isL_i, isL_l, isL_r, isL_n, spl_0, spl_s, cll_n, cll_s, catS_0, catS_s, jmp_s, alk_0, alk_s, otl_n, otl_s, List.nil_append, List.cons_append, List.contains_cons, List.contains_nil, Nat.reduceBEq, Bool.or_false, Bool.false_or, Bool.or_self, Bool.false_eq_true, Bool.true_or, Bool.or_true, if_true, if_false, ite_true, ite_false, ↓reduceIte, List.length_cons, List.length_nil, Nat.reduceAdd, Nat.reduceLT, Nat.reduceLeDiff, Nat.reduceEqDiff, Int.reduceAdd, Int.reduceLE, Int.toNat_natCast, Int.reduceToNat, Int.cast_ofNat_Int, true_and, and_true, false_and, and_false, true_implies, forall_const, eq_self, and_self, or_true, true_or, or_self, false_or, or_false, yI_sI, yR_sI, yC_sI, yN_sI, yI_sR, yR_sR, yC_sR, yN_sR, not_true_eq_false, not_false_eq_true, false_implies, implies_true, Nat.zero_add, Nat.add_zero, Nat.le_refl, Nat.reduceSub, Int.reduceSub, Int.reduceLT, Int.sub_zero, Int.sub_self, List.getElem?_toArray, List.getElem?_cons_zero, List.getElem?_cons_succ, Int.toNat_zero, Int.toNat_one, Int.lt_irrefl, yI_sB, yR_sB, yC_sB, yN_sB, MSh_sB_eq, pB_isDry_0, stp_aload_n, pB_isDry_1, stp_iload_n, pB_isDry_2, stp_invokevirtual, qmB_39, cy_O_thirst, pB_isDry_5, pB_isDry_6, stp_iconst, pB_isDry_7, pB_isDry_8, pB_isDry_9, pB_isDry_10, qmB_45, cy_B_saying, ss_C4 hS, pB_isDry_13, stp_if_icmp_le, pB_isDry_16, pB_isDry_17, stp_goto, pB_isDry_20, pB_isDry_21, stp_ireturn, ic_2, ic_m1, ic_1, ic_0, nv_B_isDry, ml_B_isDry, hs.1, rt, ra, lvB_isDry, lvO_thirst, lvB_saying]
    by_cases q : wI w 13 0 2 - wI w 126 0 j ≤ sdI w 3 j (-1) <;> simp [q, dryB, thI, bI, -Int32.not_le]
  · cases h
theorem ruB_isDry {w : Wd} {j : Nat} (h : Cpr w) (hj : j < cn w 17) : fsB_isDry [.inr (.inr (some (4, 0))), .inr (.inr (some (10, j))), .inl (wI w 13 0 2)] w = some (some (.inl (bI (dryB w j))), w) := fsP_t ⟨h, hj, rfl⟩
section
variable {l : Launch} {G : Gc} {n : Nat} {Q : Option AV → Wd → Prop} {w : Wd}
set_option maxRecDepth 100000 in
set_option maxHeartbeats 4000000 in
theorem stB_bars {b : Int32} {i j : Nat} {ρ : Nat → Nat} {l5 : Option AV} (hl : 4 < n) (hC : Cpl w) (hL : LiS w 2 (cn w 48) (fun r => (12, ρ r))) (hR : ∀ r, r < cn w 48 → RuS w (ρ r) ∧ RuC w (ρ r) r) (hj : j < cn w 17) (hi : i < cn w 48) (hQ : brF w b j i = true → Q (some (.inl 1)) w) (ih : brF w b j i = false → ∀ l5, WP l G mB_bars n 0 0 Q 3 [some (.inr (.inr (some (4, 0)))), some (.inl b), some (.inr (.inr (some (10, j)))), some (.inl (wI w 13 0 2)), some (.inl (nI (i + 1))), l5] [] w 0 0) : WP l G mB_bars n 0 0 Q 3 [some (.inr (.inr (some (4, 0)))), some (.inl b), some (.inr (.inr (some (10, j)))), some (.inl (wI w 13 0 2)), some (.inl (nI i)), l5] [] w 0 0 := by
  have hS := hC.1
  have h10 := hC.2.1.2.2.2.2.1.1.2
  have rs := ruL_size hL
  have rg := ruL_get hL hi
  try simp only [] at rg
  have hl1 : lvL_size < n := by show 1 < n; omega
  have hl2 : lvL_get < n := by show 3 < n; omega
  have hl3 : lvU_appliesTo < n := hl
  have h1 : ¬ nI (cn w 48) ≤ nI i := nI_ge (by omega) (by omega)
  obtain ⟨hs, hc⟩ := Cpl_lot hC hj
  have hr := hR i hi
  have ra := ru_rule (b := b) hC hr hi hj
  have e7 := hr.2.2.2.2.1
  have e8 := hr.2.2.2.2.2.1
  have hsw := sw_eq (k := 2) hr.2.2.2.2.2.2.2 (Or.inr (Or.inr (Or.inl rfl)))
  rw [show swK 2 = 3 by decide] at hsw
  have hm := hr.1.1
  refine wpn_ok (M := mB_bars) (C := cenB) (X := (alk [(18, lvL_size, fsL_size), (22, lvL_get, fsL_get), (32, lvU_appliesTo, fsU_appliesTo)])) (tb := tB_bars) (st := [3]) eoB (XOk_cons qmB_18 (okL_size l G) (XOk_cons qmB_22 (okL_get l G) (XOk_cons qmB_32 (okU_appliesTo l G) XOk_nil))) kB_bars 60 _ _ _ _ _ _ ?_
  by_cases q1 : wI w 149 0 i = 2
  · have q1' : swK (wI w 149 0 i) = 3 := by rw [q1]; decide
    by_cases q3 : wI w 150 0 i = b
    · cases q2 : hdB w i j b
      · have := ih (by simp [brF, q2]) (some (.inr (.inr (some (12, ρ i)))))
        simp only [reduceCtorEq, fv0, fv1, fv2, fv3, bI_0, bI_1, bft, MSh_sI_eq, fsP_T, inL_0, inL_s, pad_0, pad_n, pad_s, wpn_s, wp1_s, lg_0, lg_s, lset_0, lset_s, kil_0, kil_s, st1_s, st2_s, isL_i, isL_l, isL_r, isL_n, spl_0, spl_s, cll_n, cll_s, catS_0, catS_s, jmp_s, alk_0, alk_s, otl_n, otl_s, List.nil_append, List.cons_append, List.contains_cons, List.contains_nil, Nat.reduceBEq, Bool.or_false, Bool.false_or, Bool.or_self, Bool.false_eq_true, Bool.true_or, Bool.or_true, if_true, if_false, ite_true, ite_false, ↓reduceIte, List.length_cons, List.length_nil, Nat.reduceAdd, Nat.reduceLT, Nat.reduceLeDiff, Nat.reduceEqDiff, Int.reduceAdd, Int.reduceLE, Int.toNat_natCast, Int.reduceToNat, Int.cast_ofNat_Int, true_and, and_true, false_and, and_false, true_implies, forall_const, eq_self, and_self, or_true, true_or, or_self, false_or, or_false, yI_sI, yR_sI, yC_sI, yN_sI, yI_sR, yR_sR, yC_sR, yN_sR, not_true_eq_false, not_false_eq_true, false_implies, implies_true, Nat.zero_add, Nat.add_zero, Nat.le_refl, Nat.reduceSub, Int.reduceSub, Int.reduceLT, Int.sub_zero, Int.sub_self, List.getElem?_toArray, List.getElem?_cons_zero, List.getElem?_cons_succ, Int.toNat_zero, Int.toNat_one, Int.lt_irrefl, yI_sB, yR_sB, yC_sB, yN_sB, MSh_sB_eq, pB_bars_0, stp_iconst, pB_bars_1, stp_istore, pB_bars_3, stp_iload, pB_bars_5, stp_aload_n, pB_bars_6, stp_getfield, qfB_12, rp_4_0, ss_C4 hS, ss_R4_0 hS, ss_C2 hS, pB_bars_9, stp_invokevirtual, qmB_18, cy_L_size, pB_bars_12, stp_if_icmp_ge, pB_bars_15, pB_bars_16, pB_bars_19, pB_bars_21, qmB_22, cy_L_get, pB_bars_24, stp_checkcast, qtB_26, pB_bars_27, stp_astore, pB_bars_29, stp_aload, pB_bars_31, qfB_28, rp_12_7, pB_bars_34, pB_bars_35, stp_if_icmp_ne, pB_bars_38, pB_bars_40, qfB_36, rp_12_8, pB_bars_43, stp_iload_n, pB_bars_44, pB_bars_47, pB_bars_49, pB_bars_50, pB_bars_51, pB_bars_52, qmB_32, cy_U_appliesTo, pB_bars_55, stp_ifCond_eq, pB_bars_58, pB_bars_59, stp_ireturn, pB_bars_60, stp_iinc, pB_bars_63, stp_goto, pB_bars_66, pB_bars_67, ic_0, ic_3, ic_1, nv_B_bars, ml_B_bars, h1, rs, rg, hm, hl1, hl2, hl3, e7, e8, q1', q3, ra, q2, hs.1, nI_1]
        exact this
      · have := hQ (by simp [brF, q1, q2, q3])
        simp only [reduceCtorEq, fv0, fv1, fv2, fv3, bI_0, bI_1, bft, MSh_sI_eq, fsP_T, inL_0, inL_s, pad_0, pad_n, pad_s, wpn_s, wp1_s, lg_0, lg_s, lset_0, lset_s, kil_0, kil_s, st1_s, st2_s, isL_i, isL_l, isL_r, isL_n, spl_0, spl_s, cll_n, cll_s, catS_0, catS_s, jmp_s, alk_0, alk_s, otl_n, otl_s, List.nil_append, List.cons_append, List.contains_cons, List.contains_nil, Nat.reduceBEq, Bool.or_false, Bool.false_or, Bool.or_self, Bool.false_eq_true, Bool.true_or, Bool.or_true, if_true, if_false, ite_true, ite_false, ↓reduceIte, List.length_cons, List.length_nil, Nat.reduceAdd, Nat.reduceLT, Nat.reduceLeDiff, Nat.reduceEqDiff, Int.reduceAdd, Int.reduceLE, Int.toNat_natCast, Int.reduceToNat, Int.cast_ofNat_Int, true_and, and_true, false_and, and_false, true_implies, forall_const, eq_self, and_self, or_true, true_or, or_self, false_or, or_false, yI_sI, yR_sI, yC_sI, yN_sI, yI_sR, yR_sR, yC_sR, yN_sR, not_true_eq_false, not_false_eq_true, false_implies, implies_true, Nat.zero_add, Nat.add_zero, Nat.le_refl, Nat.reduceSub, Int.reduceSub, Int.reduceLT, Int.sub_zero, Int.sub_self, List.getElem?_toArray, List.getElem?_cons_zero, List.getElem?_cons_succ, Int.toNat_zero, Int.toNat_one, Int.lt_irrefl, yI_sB, yR_sB, yC_sB, yN_sB, MSh_sB_eq, pB_bars_0, stp_iconst, pB_bars_1, stp_istore, pB_bars_3, stp_iload, pB_bars_5, stp_aload_n, pB_bars_6, stp_getfield, qfB_12, rp_4_0, ss_C4 hS, ss_R4_0 hS, ss_C2 hS, pB_bars_9, stp_invokevirtual, qmB_18, cy_L_size, pB_bars_12, stp_if_icmp_ge, pB_bars_15, pB_bars_16, pB_bars_19, pB_bars_21, qmB_22, cy_L_get, pB_bars_24, stp_checkcast, qtB_26, pB_bars_27, stp_astore, pB_bars_29, stp_aload, pB_bars_31, qfB_28, rp_12_7, pB_bars_34, pB_bars_35, stp_if_icmp_ne, pB_bars_38, pB_bars_40, qfB_36, rp_12_8, pB_bars_43, stp_iload_n, pB_bars_44, pB_bars_47, pB_bars_49, pB_bars_50, pB_bars_51, pB_bars_52, qmB_32, cy_U_appliesTo, pB_bars_55, stp_ifCond_eq, pB_bars_58, pB_bars_59, stp_ireturn, pB_bars_60, stp_iinc, pB_bars_63, stp_goto, pB_bars_66, pB_bars_67, ic_0, ic_3, ic_1, nv_B_bars, ml_B_bars, h1, rs, rg, hm, hl1, hl2, hl3, e7, e8, q1', q3, ra, q2, hs.1]
        exact this
    · have := ih (by simp [brF, q3]) (some (.inr (.inr (some (12, ρ i)))))
      simp only [reduceCtorEq, fv0, fv1, fv2, fv3, bI_0, bI_1, bft, MSh_sI_eq, fsP_T, inL_0, inL_s, pad_0, pad_n, pad_s, wpn_s, wp1_s, lg_0, lg_s, lset_0, lset_s, kil_0, kil_s, st1_s, st2_s, isL_i, isL_l, isL_r, isL_n, spl_0, spl_s, cll_n, cll_s, catS_0, catS_s, jmp_s, alk_0, alk_s, otl_n, otl_s, List.nil_append, List.cons_append, List.contains_cons, List.contains_nil, Nat.reduceBEq, Bool.or_false, Bool.false_or, Bool.or_self, Bool.false_eq_true, Bool.true_or, Bool.or_true, if_true, if_false, ite_true, ite_false, ↓reduceIte, List.length_cons, List.length_nil, Nat.reduceAdd, Nat.reduceLT, Nat.reduceLeDiff, Nat.reduceEqDiff, Int.reduceAdd, Int.reduceLE, Int.toNat_natCast, Int.reduceToNat, Int.cast_ofNat_Int, true_and, and_true, false_and, and_false, true_implies, forall_const, eq_self, and_self, or_true, true_or, or_self, false_or, or_false, yI_sI, yR_sI, yC_sI, yN_sI, yI_sR, yR_sR, yC_sR, yN_sR, not_true_eq_false, not_false_eq_true, false_implies, implies_true, Nat.zero_add, Nat.add_zero, Nat.le_refl, Nat.reduceSub, Int.reduceSub, Int.reduceLT, Int.sub_zero, Int.sub_self, List.getElem?_toArray, List.getElem?_cons_zero, List.getElem?_cons_succ, Int.toNat_zero, Int.toNat_one, Int.lt_irrefl, yI_sB, yR_sB, yC_sB, yN_sB, MSh_sB_eq, pB_bars_0, stp_iconst, pB_bars_1, stp_istore, pB_bars_3, stp_iload, pB_bars_5, stp_aload_n, pB_bars_6, stp_getfield, qfB_12, rp_4_0, ss_C4 hS, ss_R4_0 hS, ss_C2 hS, pB_bars_9, stp_invokevirtual, qmB_18, cy_L_size, pB_bars_12, stp_if_icmp_ge, pB_bars_15, pB_bars_16, pB_bars_19, pB_bars_21, qmB_22, cy_L_get, pB_bars_24, stp_checkcast, qtB_26, pB_bars_27, stp_astore, pB_bars_29, stp_aload, pB_bars_31, qfB_28, rp_12_7, pB_bars_34, pB_bars_35, stp_if_icmp_ne, pB_bars_38, pB_bars_40, qfB_36, rp_12_8, pB_bars_43, stp_iload_n, pB_bars_44, pB_bars_47, pB_bars_49, pB_bars_50, pB_bars_51, pB_bars_52, qmB_32, cy_U_appliesTo, pB_bars_55, stp_ifCond_eq, pB_bars_58, pB_bars_59, stp_ireturn, pB_bars_60, stp_iinc, pB_bars_63, stp_goto, pB_bars_66, pB_bars_67, ic_0, ic_3, ic_1, nv_B_bars, ml_B_bars, h1, rs, rg, hm, hl1, hl2, hl3, e7, e8, q1', q3, nI_1]
      exact this
  · have q1' : ¬ swK (wI w 149 0 i) = 3 := by rw [hsw]; exact q1
    have := ih (by simp [brF, q1]) (some (.inr (.inr (some (12, ρ i)))))
    simp only [reduceCtorEq, fv0, fv1, fv2, fv3, bI_0, bI_1, bft, MSh_sI_eq, fsP_T, inL_0, inL_s, pad_0, pad_n, pad_s, wpn_s, wp1_s, lg_0, lg_s, lset_0, lset_s, kil_0, kil_s, st1_s, st2_s, isL_i, isL_l, isL_r, isL_n, spl_0, spl_s, cll_n, cll_s, catS_0, catS_s, jmp_s, alk_0, alk_s, otl_n, otl_s, List.nil_append, List.cons_append, List.contains_cons, List.contains_nil, Nat.reduceBEq, Bool.or_false, Bool.false_or, Bool.or_self, Bool.false_eq_true, Bool.true_or, Bool.or_true, if_true, if_false, ite_true, ite_false, ↓reduceIte, List.length_cons, List.length_nil, Nat.reduceAdd, Nat.reduceLT, Nat.reduceLeDiff, Nat.reduceEqDiff, Int.reduceAdd, Int.reduceLE, Int.toNat_natCast, Int.reduceToNat, Int.cast_ofNat_Int, true_and, and_true, false_and, and_false, true_implies, forall_const, eq_self, and_self, or_true, true_or, or_self, false_or, or_false, yI_sI, yR_sI, yC_sI, yN_sI, yI_sR, yR_sR, yC_sR, yN_sR, not_true_eq_false, not_false_eq_true, false_implies, implies_true, Nat.zero_add, Nat.add_zero, Nat.le_refl, Nat.reduceSub, Int.reduceSub, Int.reduceLT, Int.sub_zero, Int.sub_self, List.getElem?_toArray, List.getElem?_cons_zero, List.getElem?_cons_succ, Int.toNat_zero, Int.toNat_one, Int.lt_irrefl, yI_sB, yR_sB, yC_sB, yN_sB, MSh_sB_eq, pB_bars_0, stp_iconst, pB_bars_1, stp_istore, pB_bars_3, stp_iload, pB_bars_5, stp_aload_n, pB_bars_6, stp_getfield, qfB_12, rp_4_0, ss_C4 hS, ss_R4_0 hS, ss_C2 hS, pB_bars_9, stp_invokevirtual, qmB_18, cy_L_size, pB_bars_12, stp_if_icmp_ge, pB_bars_15, pB_bars_16, pB_bars_19, pB_bars_21, qmB_22, cy_L_get, pB_bars_24, stp_checkcast, qtB_26, pB_bars_27, stp_astore, pB_bars_29, stp_aload, pB_bars_31, qfB_28, rp_12_7, pB_bars_34, pB_bars_35, stp_if_icmp_ne, pB_bars_38, pB_bars_40, qfB_36, rp_12_8, pB_bars_43, stp_iload_n, pB_bars_44, pB_bars_47, pB_bars_49, pB_bars_50, pB_bars_51, pB_bars_52, qmB_32, cy_U_appliesTo, pB_bars_55, stp_ifCond_eq, pB_bars_58, pB_bars_59, stp_ireturn, pB_bars_60, stp_iinc, pB_bars_63, stp_goto, pB_bars_66, pB_bars_67, ic_0, ic_3, ic_1, nv_B_bars, ml_B_bars, h1, rs, rg, hm, hl1, hl2, hl3, e7, q1', nI_1]
    exact this
set_option maxRecDepth 100000 in
set_option maxHeartbeats 4000000 in
theorem lpB_bars {b : Int32} {j : Nat} {ρ : Nat → Nat} (hl : 4 < n) (hC : Cpl w) (hL : LiS w 2 (cn w 48) (fun r => (12, ρ r))) (hR : ∀ r, r < cn w 48 → RuS w (ρ r) ∧ RuC w (ρ r) r) (hj : j < cn w 17) (hQ : Q (some (.inl (bI (anyN (brF w b j) (cn w 48))))) w) : ∀ k i l5, i + k = cn w 48 → anyN (brF w b j) i = false → WP l G mB_bars n 0 0 Q 3 [some (.inr (.inr (some (4, 0)))), some (.inl b), some (.inr (.inr (some (10, j)))), some (.inl (wI w 13 0 2)), some (.inl (nI i)), l5] [] w 0 0
  | 0, i, l5, hi, hf => by
    have e : i = cn w 48 := hi
    subst e
    have hS := hC.1
    have rs := ruL_size hL
    have hl1 : lvL_size < n := by show 1 < n; omega
    rw [hf] at hQ
    refine wpn_ok (M := mB_bars) (C := cenB) (X := (alk [(18, lvL_size, fsL_size)])) (tb := tB_bars) (st := [3]) eoB (XOk_cons qmB_18 (okL_size l G) XOk_nil) kB_bars 60 _ _ _ _ _ _ ?_
    simp only [reduceCtorEq, fv0, fv1, fv2, fv3, bI_0, bI_1, bft, MSh_sI_eq, fsP_T, inL_0, inL_s, pad_0, pad_n, pad_s, wpn_s, wp1_s, lg_0, lg_s, lset_0, lset_s, kil_0, kil_s, st1_s, st2_s, isL_i, isL_l, isL_r, isL_n, spl_0, spl_s, cll_n, cll_s, catS_0, catS_s, jmp_s, alk_0, alk_s, otl_n, otl_s, List.nil_append, List.cons_append, List.contains_cons, List.contains_nil, Nat.reduceBEq, Bool.or_false, Bool.false_or, Bool.or_self, Bool.false_eq_true, Bool.true_or, Bool.or_true, if_true, if_false, ite_true, ite_false, ↓reduceIte, List.length_cons, List.length_nil, Nat.reduceAdd, Nat.reduceLT, Nat.reduceLeDiff, Nat.reduceEqDiff, Int.reduceAdd, Int.reduceLE, Int.toNat_natCast, Int.reduceToNat, Int.cast_ofNat_Int, true_and, and_true, false_and, and_false, true_implies, forall_const, eq_self, and_self, or_true, true_or, or_self, false_or, or_false, yI_sI, yR_sI, yC_sI, yN_sI, yI_sR, yR_sR, yC_sR, yN_sR, not_true_eq_false, not_false_eq_true, false_implies, implies_true, Nat.zero_add, Nat.add_zero, Nat.le_refl, Nat.reduceSub, Int.reduceSub, Int.reduceLT, Int.sub_zero, Int.sub_self, List.getElem?_toArray, List.getElem?_cons_zero, List.getElem?_cons_succ, Int.toNat_zero, Int.toNat_one, Int.lt_irrefl, yI_sB, yR_sB, yC_sB, yN_sB, MSh_sB_eq, pB_bars_0, stp_iconst, pB_bars_1, stp_istore, pB_bars_3, stp_iload, pB_bars_5, stp_aload_n, pB_bars_6, stp_getfield, qfB_12, rp_4_0, ss_C4 hS, ss_R4_0 hS, ss_C2 hS, pB_bars_9, stp_invokevirtual, qmB_18, cy_L_size, pB_bars_12, stp_if_icmp_ge, pB_bars_15, pB_bars_16, pB_bars_19, pB_bars_21, qmB_22, cy_L_get, pB_bars_24, stp_checkcast, qtB_26, pB_bars_27, stp_astore, pB_bars_29, stp_aload, pB_bars_31, qfB_28, rp_12_7, pB_bars_34, pB_bars_35, stp_if_icmp_ne, pB_bars_38, pB_bars_40, qfB_36, rp_12_8, pB_bars_43, stp_iload_n, pB_bars_44, pB_bars_47, pB_bars_49, pB_bars_50, pB_bars_51, pB_bars_52, qmB_32, cy_U_appliesTo, pB_bars_55, stp_ifCond_eq, pB_bars_58, pB_bars_59, stp_ireturn, pB_bars_60, stp_iinc, pB_bars_63, stp_goto, pB_bars_66, pB_bars_67, ic_0, ic_3, ic_1, nv_B_bars, ml_B_bars, rs, hl1, Int32.le_refl]
    exact hQ
  | k + 1, i, l5, hi, hf => stB_bars hl hC hL hR hj (by omega) (fun h => by have := anyN_t (f := brF w b j) (n := cn w 48) (by omega) h; rw [this] at hQ; exact hQ) (fun h l5' => lpB_bars hl hC hL hR hj hQ k (i + 1) l5' (by omega) (by simp [anyN, hf, h]))
end
abbrev lvB_bars : Nat := 5
noncomputable def fsB_bars : FS := fun as w => match as with
  | [.inr (.inr (some (4, 0))), .inl b, .inr (.inr (some (10, j))), .inl x] => fsP (Cpr w ∧ j < cn w 17 ∧ x = wI w 13 0 2) (some (.inl (bI (brB w b j))), w)
  | _ => none
set_option maxRecDepth 100000 in
set_option maxHeartbeats 4000000 in
theorem okB_bars (l : Launch) (G : Gc) : FsOk l G mB_bars lvB_bars fsB_bars := by
  intro as w r w' h
  simp only [fsB_bars] at h
  split at h
  · rename_i b j x
    obtain ⟨⟨⟨hC, ρ, hL, hR⟩, hj, hx⟩, h⟩ := fsP_s h
    cases h
    subst hx
    have hS := hC.1
    refine Sem_of (by decide) rfl (Nat.le_of_ble_eq_true rfl) ?_
    refine wpn_ok (M := mB_bars) (C := cenB) (X := (alk [])) (tb := tB_bars) (st := [3]) eoB XOk_nil kB_bars 60 _ _ _ _ _ _ ?_
    simp only [reduceCtorEq, fv0, fv1, fv2, fv3, bI_0, bI_1, bft, MSh_sI_eq, fsP_T, inL_0, inL_s, pad_0, pad_n, pad_s, wpn_s, wp1_s, lg_0, lg_s, lset_0, lset_s, kil_0, kil_s, st1_s, st2_s, isL_i, isL_l, isL_r, isL_n, spl_0, spl_s, cll_n, cll_s, catS_0, catS_s, jmp_s, alk_0, alk_s, otl_n, otl_s, List.nil_append, List.cons_append, List.contains_cons, List.contains_nil, Nat.reduceBEq, Bool.or_false, Bool.false_or, Bool.or_self, Bool.false_eq_true, Bool.true_or, Bool.or_true, if_true, if_false, ite_true, ite_false, ↓reduceIte, List.length_cons, List.length_nil, Nat.reduceAdd, Nat.reduceLT, Nat.reduceLeDiff, Nat.reduceEqDiff, Int.reduceAdd, Int.reduceLE, Int.toNat_natCast, Int.reduceToNat, Int.cast_ofNat_Int, true_and, and_true, false_and, and_false, true_implies, forall_const, eq_self, and_self, or_true, true_or, or_self, false_or, or_false, yI_sI, yR_sI, yC_sI, yN_sI, yI_sR, yR_sR, yC_sR, yN_sR, not_true_eq_false, not_false_eq_true, false_implies, implies_true, Nat.zero_add, Nat.add_zero, Nat.le_refl, Nat.reduceSub, Int.reduceSub, Int.reduceLT, Int.sub_zero, Int.sub_self, List.getElem?_toArray, List.getElem?_cons_zero, List.getElem?_cons_succ, Int.toNat_zero, Int.toNat_one, Int.lt_irrefl, yI_sB, yR_sB, yC_sB, yN_sB, MSh_sB_eq, pB_bars_0, stp_iconst, pB_bars_1, stp_istore, pB_bars_3, stp_iload, pB_bars_5, stp_aload_n, pB_bars_6, stp_getfield, qfB_12, rp_4_0, ss_C4 hS, ss_R4_0 hS, ss_C2 hS, pB_bars_9, stp_invokevirtual, qmB_18, cy_L_size, pB_bars_12, stp_if_icmp_ge, pB_bars_15, pB_bars_16, pB_bars_19, pB_bars_21, qmB_22, cy_L_get, pB_bars_24, stp_checkcast, qtB_26, pB_bars_27, stp_astore, pB_bars_29, stp_aload, pB_bars_31, qfB_28, rp_12_7, pB_bars_34, pB_bars_35, stp_if_icmp_ne, pB_bars_38, pB_bars_40, qfB_36, rp_12_8, pB_bars_43, stp_iload_n, pB_bars_44, pB_bars_47, pB_bars_49, pB_bars_50, pB_bars_51, pB_bars_52, qmB_32, cy_U_appliesTo, pB_bars_55, stp_ifCond_eq, pB_bars_58, pB_bars_59, stp_ireturn, pB_bars_60, stp_iinc, pB_bars_63, stp_goto, pB_bars_66, pB_bars_67, ic_0, ic_3, ic_1, nv_B_bars, ml_B_bars]
    exact lpB_bars (by decide) hC hL hR hj ⟨rfl, rfl⟩ (cn w 48) 0 none (by omega) rfl
  · cases h
theorem ruB_bars {w : Wd} {b : Int32} {j : Nat} (h : Cpr w) (hj : j < cn w 17) : fsB_bars [.inr (.inr (some (4, 0))), .inl b, .inr (.inr (some (10, j))), .inl (wI w 13 0 2)] w = some (some (.inl (bI (brB w b j))), w) := fsP_t ⟨h, hj, rfl⟩
