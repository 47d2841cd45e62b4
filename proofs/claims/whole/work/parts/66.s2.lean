/-! marks, lots and sales of the class -/
section
variable {l : Launch} {G : Gc} {n : Nat} {Q : Option AV → Wd → Prop} {w : Wd}
set_option maxRecDepth 100000 in
set_option maxHeartbeats 4000000 in
theorem stK_areNear {a b : Int32} {s : Int32 × Int32 × Int32} {k : Nat} (hk : k < 4) (h : WP l G mK_areNear n 0 0 Q 10 [some (.inl a), some (.inl b), some (.inl (nrS s).1), some (.inl (nrS s).2.1), some (.inl (nrS s).2.2), some (.inl (nI (k + 1)))] [] w 0 0) : WP l G mK_areNear n 0 0 Q 10 [some (.inl a), some (.inl b), some (.inl s.1), some (.inl s.2.1), some (.inl s.2.2), some (.inl (nI k))] [] w 0 0 := by
  have h1 : ¬ (4 : Int32) ≤ nI k := nI_ge (b := 4) hk (by omega)
  have h2 : ¬ (10 : Int32) = 0 := by decide
  refine wpn_ok (M := mK_areNear) (C := cenK) (X := (alk [])) (tb := tK_areNear) (st := [10]) eoK XOk_nil kK_areNear 60 _ _ _ _ _ _ ?_
  simp only [reduceCtorEq, fv0, fv1, fv2, fv3, bI_0, bI_1, bft, MSh_sI_eq, fsP_T, inL_0, inL_s, pad_0, pad_n, pad_s, wpn_s, wp1_s, lg_0, lg_s, lset_0, lset_s, kil_0, kil_s, st1_s, st2_s, isL_i, isL_l, isL_r, isL_n, spl_0, spl_s, cll_n, cll_s, catS_0, catS_s, jmp_s, alk_0, alk_s, otl_n, otl_s, List.nil_append, List.cons_append, List.contains_cons, List.contains_nil, Nat.reduceBEq, Bool.or_false, Bool.false_or, Bool.or_self, Bool.false_eq_true, Bool.true_or, Bool.or_true, if_true, if_false, ite_true, ite_false, ↓reduceIte, List.length_cons, List.length_nil, Nat.reduceAdd, Nat.reduceLT, Nat.reduceLeDiff, Nat.reduceEqDiff, Int.reduceAdd, Int.reduceLE, Int.toNat_natCast, Int.reduceToNat, Int.cast_ofNat_Int, true_and, and_true, false_and, and_false, true_implies, forall_const, eq_self, and_self, or_true, true_or, or_self, false_or, or_false, yI_sI, yR_sI, yC_sI, yN_sI, yI_sR, yR_sR, yC_sR, yN_sR, not_true_eq_false, not_false_eq_true, false_implies, implies_true, Nat.zero_add, Nat.add_zero, Nat.le_refl, Nat.reduceSub, Int.reduceSub, Int.reduceLT, Int.sub_zero, Int.sub_self, List.getElem?_toArray, List.getElem?_cons_zero, List.getElem?_cons_succ, Int.toNat_zero, Int.toNat_one, Int.lt_irrefl, yI_sB, yR_sB, yC_sB, yN_sB, MSh_sB_eq, pK_areNear_0, stp_iconst, pK_areNear_1, stp_istore_n, pK_areNear_2, stp_iload_n, pK_areNear_3, pK_areNear_4, pK_areNear_5, stp_istore, pK_areNear_7, pK_areNear_8, pK_areNear_10, stp_iload, pK_areNear_12, pK_areNear_13, stp_if_icmp_ge, pK_areNear_16, pK_areNear_17, pK_areNear_18, stp_bipush, pK_areNear_20, stp_irem, pK_areNear_21, pK_areNear_23, pK_areNear_25, pK_areNear_26, stp_if_icmp_eq, pK_areNear_29, pK_areNear_30, stp_goto, pK_areNear_33, pK_areNear_34, stp_iadd, pK_areNear_35, pK_areNear_36, pK_areNear_37, pK_areNear_39, stp_idiv, pK_areNear_40, pK_areNear_41, pK_areNear_43, pK_areNear_45, pK_areNear_46, pK_areNear_48, stp_iinc, pK_areNear_51, pK_areNear_54, pK_areNear_55, pK_areNear_56, stp_if_icmp_ne, pK_areNear_59, pK_areNear_60, pK_areNear_63, pK_areNear_64, stp_ireturn, ic_0, ic_4, bp_10, ic_1, nv_K_areNear, ml_K_areNear, h1, h2, nI_1]
  by_cases e : rem10 s.2.1 = rem10 s.2.2
  · simp only [nrS, e, rem10] at h e ⊢
    simp only [e, if_true, not_true_eq_false, false_implies, and_true, forall_const] at h ⊢
    exact h
  · simp only [nrS, e, if_false] at h
    simp only [rem10] at e
    simp only [e, not_false_eq_true, forall_const, false_implies, true_and]
    exact h
end
abbrev lvK_areNear : Nat := 1
def fsK_areNear : FS := fun as w => match as with
  | [.inl a, .inl b] => some (some (.inl (bI (nearB a b))), w)
  | _ => none
set_option maxRecDepth 100000 in
set_option maxHeartbeats 4000000 in
theorem okK_areNear (l : Launch) (G : Gc) : FsOk l G mK_areNear lvK_areNear fsK_areNear := by
  intro as w r w' h
  simp only [fsK_areNear] at h
  split at h
  · rename_i a b
    cases h
    refine Sem_of (by decide) rfl (Nat.le_of_ble_eq_true rfl) ?_
    refine wpn_ok (M := mK_areNear) (C := cenK) (X := (alk [])) (tb := tK_areNear) (st := [10]) eoK XOk_nil kK_areNear 60 _ _ _ _ _ _ ?_
    simp only [reduceCtorEq, fv0, fv1, fv2, fv3, bI_0, bI_1, bft, MSh_sI_eq, fsP_T, inL_0, inL_s, pad_0, pad_n, pad_s, wpn_s, wp1_s, lg_0, lg_s, lset_0, lset_s, kil_0, kil_s, st1_s, st2_s, isL_i, isL_l, isL_r, isL_n, spl_0, spl_s, cll_n, cll_s, catS_0, catS_s, jmp_s, alk_0, alk_s, otl_n, otl_s, List.nil_append, List.cons_append, List.contains_cons, List.contains_nil, Nat.reduceBEq, Bool.or_false, Bool.false_or, Bool.or_self, Bool.false_eq_true, Bool.true_or, Bool.or_true, if_true, if_false, ite_true, ite_false, ↓reduceIte, List.length_cons, List.length_nil, Nat.reduceAdd, Nat.reduceLT, Nat.reduceLeDiff, Nat.reduceEqDiff, Int.reduceAdd, Int.reduceLE, Int.toNat_natCast, Int.reduceToNat, Int.cast_ofNat_Int, true_and, and_true, false_and, and_false, true_implies, forall_const, eq_self, and_self, or_true, true_or, or_self, false_or, or_false, yI_sI, yR_sI, yC_sI, yN_sI, yI_sR, yR_sR, yC_sR, yN_sR, not_true_eq_false, not_false_eq_true, false_implies, implies_true, Nat.zero_add, Nat.add_zero, Nat.le_refl, Nat.reduceSub, Int.reduceSub, Int.reduceLT, Int.sub_zero, Int.sub_self, List.getElem?_toArray, List.getElem?_cons_zero, List.getElem?_cons_succ, Int.toNat_zero, Int.toNat_one, Int.lt_irrefl, yI_sB, yR_sB, yC_sB, yN_sB, MSh_sB_eq, pK_areNear_0, stp_iconst, pK_areNear_1, stp_istore_n, pK_areNear_2, stp_iload_n, pK_areNear_3, pK_areNear_4, pK_areNear_5, stp_istore, pK_areNear_7, pK_areNear_8, pK_areNear_10, stp_iload, pK_areNear_12, pK_areNear_13, stp_if_icmp_ge, pK_areNear_16, pK_areNear_17, pK_areNear_18, stp_bipush, pK_areNear_20, stp_irem, pK_areNear_21, pK_areNear_23, pK_areNear_25, pK_areNear_26, stp_if_icmp_eq, pK_areNear_29, pK_areNear_30, stp_goto, pK_areNear_33, pK_areNear_34, stp_iadd, pK_areNear_35, pK_areNear_36, pK_areNear_37, pK_areNear_39, stp_idiv, pK_areNear_40, pK_areNear_41, pK_areNear_43, pK_areNear_45, pK_areNear_46, pK_areNear_48, stp_iinc, pK_areNear_51, pK_areNear_54, pK_areNear_55, pK_areNear_56, stp_if_icmp_ne, pK_areNear_59, pK_areNear_60, pK_areNear_63, pK_areNear_64, stp_ireturn, ic_0, ic_4, bp_10, ic_1, nv_K_areNear, ml_K_areNear]
    refine stK_areNear (s := (0, a, b)) (k := 0) (by omega) (stK_areNear (k := 1) (by omega) (stK_areNear (k := 2) (by omega) (stK_areNear (k := 3) (by omega) ?_)))
    have h1 : (4 : Int32) ≤ nI (3 + 1) := by decide
    refine wpn_ok (M := mK_areNear) (C := cenK) (X := (alk [])) (tb := tK_areNear) (st := []) eoK XOk_nil kK_areNear 60 _ _ _ _ _ _ ?_
    simp only [reduceCtorEq, fv0, fv1, fv2, fv3, bI_0, bI_1, bft, MSh_sI_eq, fsP_T, inL_0, inL_s, pad_0, pad_n, pad_s, wpn_s, wp1_s, lg_0, lg_s, lset_0, lset_s, kil_0, kil_s, st1_s, st2_s, isL_i, isL_l, isL_r, isL_n, spl_0, spl_s, cll_n, cll_s, catS_0, catS_s, jmp_s, alk_0, alk_s, otl_n, otl_s, List.nil_append, List.cons_append, List.contains_cons, List.contains_nil, Nat.reduceBEq, Bool.or_false, Bool.false_or, Bool.or_self, Bool.false_eq_true, Bool.true_or, Bool.or_true, if_true, if_false, ite_true, ite_false, ↓reduceIte, List.length_cons, List.length_nil, Nat.reduceAdd, Nat.reduceLT, Nat.reduceLeDiff, Nat.reduceEqDiff, Int.reduceAdd, Int.reduceLE, Int.toNat_natCast, Int.reduceToNat, Int.cast_ofNat_Int, true_and, and_true, false_and, and_false, true_implies, forall_const, eq_self, and_self, or_true, true_or, or_self, false_or, or_false, yI_sI, yR_sI, yC_sI, yN_sI, yI_sR, yR_sR, yC_sR, yN_sR, not_true_eq_false, not_false_eq_true, false_implies, implies_true, Nat.zero_add, Nat.add_zero, Nat.le_refl, Nat.reduceSub, Int.reduceSub, Int.reduceLT, Int.sub_zero, Int.sub_self, List.getElem?_toArray, List.getElem?_cons_zero, List.getElem?_cons_succ, Int.toNat_zero, Int.toNat_one, Int.lt_irrefl, yI_sB, yR_sB, yC_sB, yN_sB, MSh_sB_eq, pK_areNear_0, stp_iconst, pK_areNear_1, stp_istore_n, pK_areNear_2, stp_iload_n, pK_areNear_3, pK_areNear_4, pK_areNear_5, stp_istore, pK_areNear_7, pK_areNear_8, pK_areNear_10, stp_iload, pK_areNear_12, pK_areNear_13, stp_if_icmp_ge, pK_areNear_16, pK_areNear_17, pK_areNear_18, stp_bipush, pK_areNear_20, stp_irem, pK_areNear_21, pK_areNear_23, pK_areNear_25, pK_areNear_26, stp_if_icmp_eq, pK_areNear_29, pK_areNear_30, stp_goto, pK_areNear_33, pK_areNear_34, stp_iadd, pK_areNear_35, pK_areNear_36, pK_areNear_37, pK_areNear_39, stp_idiv, pK_areNear_40, pK_areNear_41, pK_areNear_43, pK_areNear_45, pK_areNear_46, pK_areNear_48, stp_iinc, pK_areNear_51, pK_areNear_54, pK_areNear_55, pK_areNear_56, stp_if_icmp_ne, pK_areNear_59, pK_areNear_60, pK_areNear_63, pK_areNear_64, stp_ireturn, ic_0, ic_4, bp_10, ic_1, nv_K_areNear, ml_K_areNear, h1]
    simp +contextual [nearB, bI]
  · cases h
/-- class and reference side by side, as far as places, marks and lots go -/
def Cpl (w : Wd) : Prop := SSh w ∧ MOk w ∧ Cp0 w ∧ CpL w
section
variable {l : Launch} {G : Gc} {n : Nat} {Q : Option AV → Wd → Prop} {w : Wd}
set_option maxRecDepth 100000 in
set_option maxHeartbeats 4000000 in
theorem lpK_ownerOf {m : Int32} (hS : SSh w) (h63 : okc w 63 20) (hc : Cp0 w) (hQ : Q (some (.inl (whI w m))) w) : ∀ k i, i + k = cn w 63 → fstN (fnF w m) i = none → WP l G mK_ownerOf n 0 0 Q 2 [some (.inr (.inr (some (5, 0)))), some (.inl m), some (.inl (nI i))] [] w 0 0
  | 0, i, hi, hf => by
    have e : i = cn w 63 := hi
    subst e
    have e1 : wI w 5 0 2 = nI (cn w 63) := hc.2.2.2.1.trans h63.1
    have : whI w m = -1 := by simp [whI, fnd, hf]
    rw [this] at hQ
    refine wpn_ok (M := mK_ownerOf) (C := cenK) (X := (alk [])) (tb := tK_ownerOf) (st := [2]) eoK XOk_nil kK_ownerOf 60 _ _ _ _ _ _ ?_
    simp only [reduceCtorEq, fv0, fv1, fv2, fv3, bI_0, bI_1, bft, MSh_sI_eq, fsP_T, inL_0, inL_s, pad_0, pad_n, pad_s, wpn_s, wp1_s, lg_0, lg_s, lset_0, lset_s, kil_0, kil_s, st1_s, st2_s, isL_i, isL_l, isL_r, isL_n, spl_0, spl_s, cll_n, cll_s, catS_0, catS_s, jmp_s, alk_0, alk_s, otl_n, otl_s, List.nil_append, List.cons_append, List.contains_cons, List.contains_nil, Nat.reduceBEq, Bool.or_false, Bool.false_or, Bool.or_self, Bool.false_eq_true, Bool.true_or, Bool.or_true, if_true, if_false, ite_true, ite_false, ↓reduceIte, List.length_cons, List.length_nil, Nat.reduceAdd, Nat.reduceLT, Nat.reduceLeDiff, Nat.reduceEqDiff, Int.reduceAdd, Int.reduceLE, Int.toNat_natCast, Int.reduceToNat, Int.cast_ofNat_Int, true_and, and_true, false_and, and_false, true_implies, forall_const, eq_self, and_self, or_true, true_or, or_self, false_or, or_false, yI_sI, yR_sI, yC_sI, yN_sI, yI_sR, yR_sR, yC_sR, yN_sR, not_true_eq_false, not_false_eq_true, false_implies, implies_true, Nat.zero_add, Nat.add_zero, Nat.le_refl, Nat.reduceSub, Int.reduceSub, Int.reduceLT, Int.sub_zero, Int.sub_self, List.getElem?_toArray, List.getElem?_cons_zero, List.getElem?_cons_succ, Int.toNat_zero, Int.toNat_one, Int.lt_irrefl, yI_sB, yR_sB, yC_sB, yN_sB, MSh_sB_eq, pK_ownerOf_0, stp_iconst, pK_ownerOf_1, stp_istore_n, pK_ownerOf_2, stp_iload_n, pK_ownerOf_3, stp_aload_n, pK_ownerOf_4, stp_getfield, qfK_18, rp_5_2, ss_C5 hS, pK_ownerOf_7, stp_if_icmp_ge, pK_ownerOf_10, pK_ownerOf_11, stp_bipush, pK_ownerOf_13, pK_ownerOf_16, pK_ownerOf_17, qfK_9, rp_5_0, ss_R5_0 hS, ss_C175 hS, ss_N175 hS, pK_ownerOf_20, pK_ownerOf_21, stp_iaload, pK_ownerOf_22, pK_ownerOf_23, stp_if_icmp_ne, pK_ownerOf_26, pK_ownerOf_27, qfK_15, rp_5_1, ss_R5_1 hS, ss_C176 hS, ss_N176 hS, pK_ownerOf_30, pK_ownerOf_31, pK_ownerOf_32, stp_ireturn, pK_ownerOf_33, stp_iinc, pK_ownerOf_36, stp_goto, pK_ownerOf_39, pK_ownerOf_40, ic_0, bp_20, ic_1, ic_m1, nv_K_ownerOf, ml_K_ownerOf, e1, Int32.le_refl]
    exact hQ
  | k + 1, i, hi, hf => by
    have ih := lpK_ownerOf hS h63 hc hQ k (i + 1) (by omega)
    have h20 := h63.2
    have e1 : wI w 5 0 2 = nI (cn w 63) := hc.2.2.2.1.trans h63.1
    have h1 : ¬ nI (cn w 63) ≤ nI i := nI_ge (by omega) (by omega)
    have h4 : ¬ (20 : Int32) ≤ nI i := nI_ge (b := 20) (by omega) (by omega)
    have h2 : vp_in (nI i) 20 := vp_in_nI (by omega) (by omega)
    have h3 : (nI i).toNatClampNeg = i := nI_clamp (by omega)
    obtain ⟨m1, m2⟩ := hc.2.2.2.2.2.2.2 i (by omega)
    refine wpn_ok (M := mK_ownerOf) (C := cenK) (X := (alk [])) (tb := tK_ownerOf) (st := [2]) eoK XOk_nil kK_ownerOf 60 _ _ _ _ _ _ ?_
    by_cases e : wI w 164 0 i = m
    · have q := fstN_at (f := fnF w m) hf (by simp [fnF, e]) k
      rw [show i + 1 + k = cn w 63 by omega] at q
      have : whI w m = wI w 165 0 i := by simp [whI, fnd, q]
      rw [this] at hQ
      simp only [reduceCtorEq, fv0, fv1, fv2, fv3, bI_0, bI_1, bft, MSh_sI_eq, fsP_T, inL_0, inL_s, pad_0, pad_n, pad_s, wpn_s, wp1_s, lg_0, lg_s, lset_0, lset_s, kil_0, kil_s, st1_s, st2_s, isL_i, isL_l, isL_r, isL_n, spl_0, spl_s, cll_n, cll_s, catS_0, catS_s, jmp_s, alk_0, alk_s, otl_n, otl_s, List.nil_append, List.cons_append, List.contains_cons, List.contains_nil, Nat.reduceBEq, Bool.or_false, Bool.false_or, Bool.or_self, Bool.false_eq_true, Bool.true_or, Bool.or_true, if_true, if_false, ite_true, ite_false, ↓reduceIte, List.length_cons, List.length_nil, Nat.reduceAdd, Nat.reduceLT, Nat.reduceLeDiff, Nat.reduceEqDiff, Int.reduceAdd, Int.reduceLE, Int.toNat_natCast, Int.reduceToNat, Int.cast_ofNat_Int, true_and, and_true, false_and, and_false, true_implies, forall_const, eq_self, and_self, or_true, true_or, or_self, false_or, or_false, yI_sI, yR_sI, yC_sI, yN_sI, yI_sR, yR_sR, yC_sR, yN_sR, not_true_eq_false, not_false_eq_true, false_implies, implies_true, Nat.zero_add, Nat.add_zero, Nat.le_refl, Nat.reduceSub, Int.reduceSub, Int.reduceLT, Int.sub_zero, Int.sub_self, List.getElem?_toArray, List.getElem?_cons_zero, List.getElem?_cons_succ, Int.toNat_zero, Int.toNat_one, Int.lt_irrefl, yI_sB, yR_sB, yC_sB, yN_sB, MSh_sB_eq, pK_ownerOf_0, stp_iconst, pK_ownerOf_1, stp_istore_n, pK_ownerOf_2, stp_iload_n, pK_ownerOf_3, stp_aload_n, pK_ownerOf_4, stp_getfield, qfK_18, rp_5_2, ss_C5 hS, pK_ownerOf_7, stp_if_icmp_ge, pK_ownerOf_10, pK_ownerOf_11, stp_bipush, pK_ownerOf_13, pK_ownerOf_16, pK_ownerOf_17, qfK_9, rp_5_0, ss_R5_0 hS, ss_C175 hS, ss_N175 hS, pK_ownerOf_20, pK_ownerOf_21, stp_iaload, pK_ownerOf_22, pK_ownerOf_23, stp_if_icmp_ne, pK_ownerOf_26, pK_ownerOf_27, qfK_15, rp_5_1, ss_R5_1 hS, ss_C176 hS, ss_N176 hS, pK_ownerOf_30, pK_ownerOf_31, pK_ownerOf_32, stp_ireturn, pK_ownerOf_33, stp_iinc, pK_ownerOf_36, stp_goto, pK_ownerOf_39, pK_ownerOf_40, ic_0, bp_20, ic_1, ic_m1, nv_K_ownerOf, ml_K_ownerOf, e1, h1, h2, h3, h4, m1, m2, e]
      exact hQ
    · have ih := ih (by simp [fstN, hf, fnF, e])
      simp only [reduceCtorEq, fv0, fv1, fv2, fv3, bI_0, bI_1, bft, MSh_sI_eq, fsP_T, inL_0, inL_s, pad_0, pad_n, pad_s, wpn_s, wp1_s, lg_0, lg_s, lset_0, lset_s, kil_0, kil_s, st1_s, st2_s, isL_i, isL_l, isL_r, isL_n, spl_0, spl_s, cll_n, cll_s, catS_0, catS_s, jmp_s, alk_0, alk_s, otl_n, otl_s, List.nil_append, List.cons_append, List.contains_cons, List.contains_nil, Nat.reduceBEq, Bool.or_false, Bool.false_or, Bool.or_self, Bool.false_eq_true, Bool.true_or, Bool.or_true, if_true, if_false, ite_true, ite_false, ↓reduceIte, List.length_cons, List.length_nil, Nat.reduceAdd, Nat.reduceLT, Nat.reduceLeDiff, Nat.reduceEqDiff, Int.reduceAdd, Int.reduceLE, Int.toNat_natCast, Int.reduceToNat, Int.cast_ofNat_Int, true_and, and_true, false_and, and_false, true_implies, forall_const, eq_self, and_self, or_true, true_or, or_self, false_or, or_false, yI_sI, yR_sI, yC_sI, yN_sI, yI_sR, yR_sR, yC_sR, yN_sR, not_true_eq_false, not_false_eq_true, false_implies, implies_true, Nat.zero_add, Nat.add_zero, Nat.le_refl, Nat.reduceSub, Int.reduceSub, Int.reduceLT, Int.sub_zero, Int.sub_self, List.getElem?_toArray, List.getElem?_cons_zero, List.getElem?_cons_succ, Int.toNat_zero, Int.toNat_one, Int.lt_irrefl, yI_sB, yR_sB, yC_sB, yN_sB, MSh_sB_eq, pK_ownerOf_0, stp_iconst, pK_ownerOf_1, stp_istore_n, pK_ownerOf_2, stp_iload_n, pK_ownerOf_3, stp_aload_n, pK_ownerOf_4, stp_getfield, qfK_18, rp_5_2, ss_C5 hS, pK_ownerOf_7, stp_if_icmp_ge, pK_ownerOf_10, pK_ownerOf_11, stp_bipush, pK_ownerOf_13, pK_ownerOf_16, pK_ownerOf_17, qfK_9, rp_5_0, ss_R5_0 hS, ss_C175 hS, ss_N175 hS, pK_ownerOf_20, pK_ownerOf_21, stp_iaload, pK_ownerOf_22, pK_ownerOf_23, stp_if_icmp_ne, pK_ownerOf_26, pK_ownerOf_27, qfK_15, rp_5_1, ss_R5_1 hS, ss_C176 hS, ss_N176 hS, pK_ownerOf_30, pK_ownerOf_31, pK_ownerOf_32, stp_ireturn, pK_ownerOf_33, stp_iinc, pK_ownerOf_36, stp_goto, pK_ownerOf_39, pK_ownerOf_40, ic_0, bp_20, ic_1, ic_m1, nv_K_ownerOf, ml_K_ownerOf, e1, h1, h2, h3, h4, m1, m2, e, nI_1]
      exact ih
set_option maxRecDepth 100000 in
set_option maxHeartbeats 4000000 in
theorem lpK_countNear {m : Int32} (hl : 1 < n) (hS : SSh w) (h63 : okc w 63 20) (hc : Cp0 w) (hQ : Q (some (.inl (cntN (nrF w m) (cn w 63)))) w) : ∀ k i, i + k = cn w 63 → WP l G mK_countNear n 0 0 Q 4 [some (.inr (.inr (some (5, 0)))), some (.inl m), some (.inl (cntN (nrF w m) i)), some (.inl (nI i))] [] w 0 0
  | 0, i, hi => by
    have e : i = cn w 63 := hi
    subst e
    have e1 : wI w 5 0 2 = nI (cn w 63) := hc.2.2.2.1.trans h63.1
    refine wpn_ok (M := mK_countNear) (C := cenK) (X := (alk [])) (tb := tK_countNear) (st := [4]) eoK XOk_nil kK_countNear 60 _ _ _ _ _ _ ?_
    simp only [reduceCtorEq, fv0, fv1, fv2, fv3, bI_0, bI_1, bft, MSh_sI_eq, fsP_T, inL_0, inL_s, pad_0, pad_n, pad_s, wpn_s, wp1_s, lg_0, lg_s, lset_0, lset_s, kil_0, kil_s, st1_s, st2_s, isL_i, isL_l, isL_r, isL_n, spl_0, spl_s, cll_n, cll_s, catS_0, catS_s, jmp_s, alk_0, alk_s, otl_n, otl_s, List.nil_append, List.cons_append, List.contains_cons, List.contains_nil, Nat.reduceBEq, Bool.or_false, Bool.false_or, Bool.or_self, Bool.false_eq_true, Bool.true_or, Bool.or_true, if_true, if_false, ite_true, ite_false, ↓reduceIte, List.length_cons, List.length_nil, Nat.reduceAdd, Nat.reduceLT, Nat.reduceLeDiff, Nat.reduceEqDiff, Int.reduceAdd, Int.reduceLE, Int.toNat_natCast, Int.reduceToNat, Int.cast_ofNat_Int, true_and, and_true, false_and, and_false, true_implies, forall_const, eq_self, and_self, or_true, true_or, or_self, false_or, or_false, yI_sI, yR_sI, yC_sI, yN_sI, yI_sR, yR_sR, yC_sR, yN_sR, not_true_eq_false, not_false_eq_true, false_implies, implies_true, Nat.zero_add, Nat.add_zero, Nat.le_refl, Nat.reduceSub, Int.reduceSub, Int.reduceLT, Int.sub_zero, Int.sub_self, List.getElem?_toArray, List.getElem?_cons_zero, List.getElem?_cons_succ, Int.toNat_zero, Int.toNat_one, Int.lt_irrefl, yI_sB, yR_sB, yC_sB, yN_sB, MSh_sB_eq, pK_countNear_0, stp_iconst, pK_countNear_1, stp_istore_n, pK_countNear_2, pK_countNear_3, pK_countNear_4, stp_iload_n, pK_countNear_5, stp_aload_n, pK_countNear_6, stp_getfield, qfK_18, rp_5_2, ss_C5 hS, pK_countNear_9, stp_if_icmp_ge, pK_countNear_12, pK_countNear_13, stp_bipush, pK_countNear_15, pK_countNear_18, pK_countNear_19, pK_countNear_20, qfK_9, rp_5_0, ss_R5_0 hS, ss_C175 hS, ss_N175 hS, pK_countNear_23, pK_countNear_24, stp_iaload, pK_countNear_25, pK_countNear_26, stp_invokestatic, qmK_22, cy_K_areNear, pK_countNear_29, stp_ifCond_eq, pK_countNear_32, pK_countNear_33, stp_goto, pK_countNear_36, pK_countNear_37, stp_iadd, pK_countNear_38, pK_countNear_39, stp_iinc, pK_countNear_42, pK_countNear_45, pK_countNear_46, stp_ireturn, ic_0, bp_20, ic_1, nv_K_countNear, ml_K_countNear, e1, Int32.le_refl]
    exact hQ
  | k + 1, i, hi => by
    have ih := lpK_countNear hl hS h63 hc hQ k (i + 1) (by omega)
    have h20 := h63.2
    have e1 : wI w 5 0 2 = nI (cn w 63) := hc.2.2.2.1.trans h63.1
    have h1 : ¬ nI (cn w 63) ≤ nI i := nI_ge (by omega) (by omega)
    have h4 : ¬ (20 : Int32) ≤ nI i := nI_ge (b := 20) (by omega) (by omega)
    have h2 : vp_in (nI i) 20 := vp_in_nI (by omega) (by omega)
    have h3 : (nI i).toNatClampNeg = i := nI_clamp (by omega)
    obtain ⟨m1, m2⟩ := hc.2.2.2.2.2.2.2 i (by omega)
    have hl1 : lvK_areNear < n := hl
    refine wpn_ok (M := mK_countNear) (C := cenK) (X := (alk [(22, lvK_areNear, fsK_areNear)])) (tb := tK_countNear) (st := [4]) eoK (XOk_cons qmK_22 (okK_areNear l G) XOk_nil) kK_countNear 60 _ _ _ _ _ _ ?_
    cases e : nearB (wI w 164 0 i) m
    · simp only [cntN, nrF, e, bI] at ih
      simp only [reduceCtorEq, fv0, fv1, fv2, fv3, bI_0, bI_1, bft, MSh_sI_eq, fsP_T, inL_0, inL_s, pad_0, pad_n, pad_s, wpn_s, wp1_s, lg_0, lg_s, lset_0, lset_s, kil_0, kil_s, st1_s, st2_s, isL_i, isL_l, isL_r, isL_n, spl_0, spl_s, cll_n, cll_s, catS_0, catS_s, jmp_s, alk_0, alk_s, otl_n, otl_s, List.nil_append, List.cons_append, List.contains_cons, List.contains_nil, Nat.reduceBEq, Bool.or_false, Bool.false_or, Bool.or_self, Bool.false_eq_true, Bool.true_or, Bool.or_true, if_true, if_false, ite_true, ite_false, ↓reduceIte, List.length_cons, List.length_nil, Nat.reduceAdd, Nat.reduceLT, Nat.reduceLeDiff, Nat.reduceEqDiff, Int.reduceAdd, Int.reduceLE, Int.toNat_natCast, Int.reduceToNat, Int.cast_ofNat_Int, true_and, and_true, false_and, and_false, true_implies, forall_const, eq_self, and_self, or_true, true_or, or_self, false_or, or_false, yI_sI, yR_sI, yC_sI, yN_sI, yI_sR, yR_sR, yC_sR, yN_sR, not_true_eq_false, not_false_eq_true, false_implies, implies_true, Nat.zero_add, Nat.add_zero, Nat.le_refl, Nat.reduceSub, Int.reduceSub, Int.reduceLT, Int.sub_zero, Int.sub_self, List.getElem?_toArray, List.getElem?_cons_zero, List.getElem?_cons_succ, Int.toNat_zero, Int.toNat_one, Int.lt_irrefl, yI_sB, yR_sB, yC_sB, yN_sB, MSh_sB_eq, pK_countNear_0, stp_iconst, pK_countNear_1, stp_istore_n, pK_countNear_2, pK_countNear_3, pK_countNear_4, stp_iload_n, pK_countNear_5, stp_aload_n, pK_countNear_6, stp_getfield, qfK_18, rp_5_2, ss_C5 hS, pK_countNear_9, stp_if_icmp_ge, pK_countNear_12, pK_countNear_13, stp_bipush, pK_countNear_15, pK_countNear_18, pK_countNear_19, pK_countNear_20, qfK_9, rp_5_0, ss_R5_0 hS, ss_C175 hS, ss_N175 hS, pK_countNear_23, pK_countNear_24, stp_iaload, pK_countNear_25, pK_countNear_26, stp_invokestatic, qmK_22, cy_K_areNear, pK_countNear_29, stp_ifCond_eq, pK_countNear_32, pK_countNear_33, stp_goto, pK_countNear_36, pK_countNear_37, stp_iadd, pK_countNear_38, pK_countNear_39, stp_iinc, pK_countNear_42, pK_countNear_45, pK_countNear_46, stp_ireturn, ic_0, bp_20, ic_1, nv_K_countNear, ml_K_countNear, e1, h1, h2, h3, h4, m1, m2, fsK_areNear, e, hl1, nI_1]
      simpa [bI] using ih
    · simp only [cntN, nrF, e, bI] at ih
      simp only [reduceCtorEq, fv0, fv1, fv2, fv3, bI_0, bI_1, bft, MSh_sI_eq, fsP_T, inL_0, inL_s, pad_0, pad_n, pad_s, wpn_s, wp1_s, lg_0, lg_s, lset_0, lset_s, kil_0, kil_s, st1_s, st2_s, isL_i, isL_l, isL_r, isL_n, spl_0, spl_s, cll_n, cll_s, catS_0, catS_s, jmp_s, alk_0, alk_s, otl_n, otl_s, List.nil_append, List.cons_append, List.contains_cons, List.contains_nil, Nat.reduceBEq, Bool.or_false, Bool.false_or, Bool.or_self, Bool.false_eq_true, Bool.true_or, Bool.or_true, if_true, if_false, ite_true, ite_false, ↓reduceIte, List.length_cons, List.length_nil, Nat.reduceAdd, Nat.reduceLT, Nat.reduceLeDiff, Nat.reduceEqDiff, Int.reduceAdd, Int.reduceLE, Int.toNat_natCast, Int.reduceToNat, Int.cast_ofNat_Int, true_and, and_true, false_and, and_false, true_implies, forall_const, eq_self, and_self, or_true, true_or, or_self, false_or, or_false, yI_sI, yR_sI, yC_sI, yN_sI, yI_sR, yR_sR, yC_sR, yN_sR, not_true_eq_false, not_false_eq_true, false_implies, implies_true, Nat.zero_add, Nat.add_zero, Nat.le_refl, Nat.reduceSub, Int.reduceSub, Int.reduceLT, Int.sub_zero, Int.sub_self, List.getElem?_toArray, List.getElem?_cons_zero, List.getElem?_cons_succ, Int.toNat_zero, Int.toNat_one, Int.lt_irrefl, yI_sB, yR_sB, yC_sB, yN_sB, MSh_sB_eq, pK_countNear_0, stp_iconst, pK_countNear_1, stp_istore_n, pK_countNear_2, pK_countNear_3, pK_countNear_4, stp_iload_n, pK_countNear_5, stp_aload_n, pK_countNear_6, stp_getfield, qfK_18, rp_5_2, ss_C5 hS, pK_countNear_9, stp_if_icmp_ge, pK_countNear_12, pK_countNear_13, stp_bipush, pK_countNear_15, pK_countNear_18, pK_countNear_19, pK_countNear_20, qfK_9, rp_5_0, ss_R5_0 hS, ss_C175 hS, ss_N175 hS, pK_countNear_23, pK_countNear_24, stp_iaload, pK_countNear_25, pK_countNear_26, stp_invokestatic, qmK_22, cy_K_areNear, pK_countNear_29, stp_ifCond_eq, pK_countNear_32, pK_countNear_33, stp_goto, pK_countNear_36, pK_countNear_37, stp_iadd, pK_countNear_38, pK_countNear_39, stp_iinc, pK_countNear_42, pK_countNear_45, pK_countNear_46, stp_ireturn, ic_0, bp_20, ic_1, nv_K_countNear, ml_K_countNear, e1, h1, h2, h3, h4, m1, m2, fsK_areNear, e, hl1, nI_1]
      simpa [bI] using ih
end
abbrev lvK_ownerOf : Nat := 1
noncomputable def fsK_ownerOf : FS := fun as w => match as with
  | [.inr (.inr (some (5, 0))), .inl m] => fsP (SSh w ∧ okc w 63 20 ∧ Cp0 w) (some (.inl (whI w m)), w)
  | _ => none
set_option maxRecDepth 100000 in
set_option maxHeartbeats 4000000 in
theorem okK_ownerOf (l : Launch) (G : Gc) : FsOk l G mK_ownerOf lvK_ownerOf fsK_ownerOf := by
  intro as w r w' h
  simp only [fsK_ownerOf] at h
  split at h
  · rename_i m
    obtain ⟨⟨hS, h63, hc⟩, h⟩ := fsP_s h
    cases h
    refine Sem_of (by decide) rfl (Nat.le_of_ble_eq_true rfl) ?_
    refine wpn_ok (M := mK_ownerOf) (C := cenK) (X := (alk [])) (tb := tK_ownerOf) (st := [2]) eoK XOk_nil kK_ownerOf 60 _ _ _ _ _ _ ?_
    simp only [reduceCtorEq, fv0, fv1, fv2, fv3, bI_0, bI_1, bft, MSh_sI_eq, fsP_T, inL_0, inL_s, pad_0, pad_n, pad_s, wpn_s, wp1_s, lg_0, lg_s, lset_0, lset_s, kil_0, kil_s, st1_s, st2_s, isL_i, isL_l, isL_r, isL_n, spl_0, spl_s, cll_n, cll_s, catS_0, catS_s, jmp_s, alk_0, alk_s, otl_n, otl_s, List.nil_append, List.cons_append, List.contains_cons, List.contains_nil, Nat.reduceBEq, Bool.or_false, Bool.false_or, Bool.or_self, Bool.false_eq_true, Bool.true_or, Bool.or_true, if_true, if_false, ite_true, ite_false, ↓reduceIte, List.length_cons, List.length_nil, Nat.reduceAdd, Nat.reduceLT, Nat.reduceLeDiff, Nat.reduceEqDiff, Int.reduceAdd, Int.reduceLE, Int.toNat_natCast, Int.reduceToNat, Int.cast_ofNat_Int, true_and, and_true, false_and, and_false, true_implies, forall_const, eq_self, and_self, or_true, true_or, or_self, false_or, or_false, yI_sI, yR_sI, yC_sI, yN_sI, yI_sR, yR_sR, yC_sR, yN_sR, not_true_eq_false, not_false_eq_true, false_implies, implies_true, Nat.zero_add, Nat.add_zero, Nat.le_refl, Nat.reduceSub, Int.reduceSub, Int.reduceLT, Int.sub_zero, Int.sub_self, List.getElem?_toArray, List.getElem?_cons_zero, List.getElem?_cons_succ, Int.toNat_zero, Int.toNat_one, Int.lt_irrefl, yI_sB, yR_sB, yC_sB, yN_sB, MSh_sB_eq, pK_ownerOf_0, stp_iconst, pK_ownerOf_1, stp_istore_n, pK_ownerOf_2, stp_iload_n, pK_ownerOf_3, stp_aload_n, pK_ownerOf_4, stp_getfield, qfK_18, rp_5_2, ss_C5 hS, pK_ownerOf_7, stp_if_icmp_ge, pK_ownerOf_10, pK_ownerOf_11, stp_bipush, pK_ownerOf_13, pK_ownerOf_16, pK_ownerOf_17, qfK_9, rp_5_0, ss_R5_0 hS, ss_C175 hS, ss_N175 hS, pK_ownerOf_20, pK_ownerOf_21, stp_iaload, pK_ownerOf_22, pK_ownerOf_23, stp_if_icmp_ne, pK_ownerOf_26, pK_ownerOf_27, qfK_15, rp_5_1, ss_R5_1 hS, ss_C176 hS, ss_N176 hS, pK_ownerOf_30, pK_ownerOf_31, pK_ownerOf_32, stp_ireturn, pK_ownerOf_33, stp_iinc, pK_ownerOf_36, stp_goto, pK_ownerOf_39, pK_ownerOf_40, ic_0, bp_20, ic_1, ic_m1, nv_K_ownerOf, ml_K_ownerOf]
    exact lpK_ownerOf hS h63 hc ⟨rfl, rfl⟩ (cn w 63) 0 (by omega) rfl
  · cases h
theorem ruK_ownerOf {w : Wd} {m : Int32} (h : Cpl w) : fsK_ownerOf [.inr (.inr (some (5, 0))), .inl m] w = some (some (.inl (whI w m)), w) := fsP_t ⟨h.1, h.2.1.2.2.2.2.2.1, h.2.2.1⟩
abbrev lvK_countNear : Nat := 2
noncomputable def fsK_countNear : FS := fun as w => match as with
  | [.inr (.inr (some (5, 0))), .inl m] => fsP (SSh w ∧ okc w 63 20 ∧ Cp0 w) (some (.inl (cntN (nrF w m) (cn w 63))), w)
  | _ => none
set_option maxRecDepth 100000 in
set_option maxHeartbeats 4000000 in
theorem okK_countNear (l : Launch) (G : Gc) : FsOk l G mK_countNear lvK_countNear fsK_countNear := by
  intro as w r w' h
  simp only [fsK_countNear] at h
  split at h
  · rename_i m
    obtain ⟨⟨hS, h63, hc⟩, h⟩ := fsP_s h
    cases h
    refine Sem_of (by decide) rfl (Nat.le_of_ble_eq_true rfl) ?_
    refine wpn_ok (M := mK_countNear) (C := cenK) (X := (alk [])) (tb := tK_countNear) (st := [4]) eoK XOk_nil kK_countNear 60 _ _ _ _ _ _ ?_
    simp only [reduceCtorEq, fv0, fv1, fv2, fv3, bI_0, bI_1, bft, MSh_sI_eq, fsP_T, inL_0, inL_s, pad_0, pad_n, pad_s, wpn_s, wp1_s, lg_0, lg_s, lset_0, lset_s, kil_0, kil_s, st1_s, st2_s, isL_i, isL_l, isL_r, isL_n, spl_0, spl_s, cll_n, cll_s, catS_0, catS_s, jmp_s, alk_0, alk_s, otl_n, otl_s, List.nil_append, List.cons_append, List.contains_cons, List.contains_nil, Nat.reduceBEq, Bool.or_false, Bool.false_or, Bool.or_self, Bool.false_eq_true, Bool.true_or, Bool.or_true, if_true, if_false, ite_true, ite_false, ↓reduceIte, List.length_cons, List.length_nil, Nat.reduceAdd, Nat.reduceLT, Nat.reduceLeDiff, Nat.reduceEqDiff, Int.reduceAdd, Int.reduceLE, Int.toNat_natCast, Int.reduceToNat, Int.cast_ofNat_Int, true_and, and_true, false_and, and_false, true_implies, forall_const, eq_self, and_self, or_true, true_or, or_self, false_or, or_false, yI_sI, yR_sI, yC_sI, yN_sI, yI_sR, yR_sR, yC_sR, yN_sR, not_true_eq_false, not_false_eq_true, false_implies, implies_true, Nat.zero_add, Nat.add_zero, Nat.le_refl, Nat.reduceSub, Int.reduceSub, Int.reduceLT, Int.sub_zero, Int.sub_self, List.getElem?_toArray, List.getElem?_cons_zero, List.getElem?_cons_succ, Int.toNat_zero, Int.toNat_one, Int.lt_irrefl, yI_sB, yR_sB, yC_sB, yN_sB, MSh_sB_eq, pK_countNear_0, stp_iconst, pK_countNear_1, stp_istore_n, pK_countNear_2, pK_countNear_3, pK_countNear_4, stp_iload_n, pK_countNear_5, stp_aload_n, pK_countNear_6, stp_getfield, qfK_18, rp_5_2, ss_C5 hS, pK_countNear_9, stp_if_icmp_ge, pK_countNear_12, pK_countNear_13, stp_bipush, pK_countNear_15, pK_countNear_18, pK_countNear_19, pK_countNear_20, qfK_9, rp_5_0, ss_R5_0 hS, ss_C175 hS, ss_N175 hS, pK_countNear_23, pK_countNear_24, stp_iaload, pK_countNear_25, pK_countNear_26, stp_invokestatic, qmK_22, cy_K_areNear, pK_countNear_29, stp_ifCond_eq, pK_countNear_32, pK_countNear_33, stp_goto, pK_countNear_36, pK_countNear_37, stp_iadd, pK_countNear_38, pK_countNear_39, stp_iinc, pK_countNear_42, pK_countNear_45, pK_countNear_46, stp_ireturn, ic_0, bp_20, ic_1, nv_K_countNear, ml_K_countNear]
    exact lpK_countNear (by decide) hS h63 hc ⟨rfl, rfl⟩ (cn w 63) 0 (by omega)
  · cases h
theorem ruK_countNear {w : Wd} {m : Int32} (h : Cpl w) : fsK_countNear [.inr (.inr (some (5, 0))), .inl m] w = some (some (.inl (cntN (nrF w m) (cn w 63))), w) := fsP_t ⟨h.1, h.2.1.2.2.2.2.2.1, h.2.2.1⟩
/-- a mark in doubt for an owner -/
def dbG (w : Wd) (m o : Int32) : Nat → Bool := fun i => !decide (wI w 165 0 i = o) && nearB (wI w 164 0 i) m
def dbO (w : Wd) (m o : Int32) : Bool := !decide (whI w m = o) || anyN (dbG w m o) (cn w 63)
section
variable {l : Launch} {G : Gc} {n : Nat} {Q : Option AV → Wd → Prop} {w : Wd}
set_option maxRecDepth 100000 in
set_option maxHeartbeats 4000000 in
theorem lpK_doubt {m o : Int32} (hl : 1 < n) (hS : SSh w) (h63 : okc w 63 20) (hc : Cp0 w) (hQ : Q (some (.inl (bI (anyN (dbG w m o) (cn w 63))))) w) : ∀ k i, i + k = cn w 63 → anyN (dbG w m o) i = false → WP l G mK_doubt n 0 0 Q 13 [some (.inr (.inr (some (5, 0)))), some (.inl m), some (.inl o), some (.inl (nI i))] [] w 0 0
  | 0, i, hi, hf => by
    have e : i = cn w 63 := hi
    subst e
    have e1 : wI w 5 0 2 = nI (cn w 63) := hc.2.2.2.1.trans h63.1
    rw [hf] at hQ
    refine wpn_ok (M := mK_doubt) (C := cenK) (X := (alk [])) (tb := tK_doubt) (st := [13]) eoK XOk_nil kK_doubt 60 _ _ _ _ _ _ ?_
    simp only [reduceCtorEq, fv0, fv1, fv2, fv3, bI_0, bI_1, bft, MSh_sI_eq, fsP_T, inL_0, inL_s, pad_0, pad_n, pad_s, wpn_s, wp1_s, lg_0, lg_s, lset_0, lset_s, kil_0, kil_s, st1_s, st2_s, isL_i, isL_l, isL_r, isL_n, spl_0, spl_s, cll_n, cll_s, catS_0, catS_s, jmp_s, alk_0, alk_s, otl_n, otl_s, List.nil_append, List.cons_append, List.contains_cons, List.contains_nil, Nat.reduceBEq, Bool.or_false, Bool.false_or, Bool.or_self, Bool.false_eq_true, Bool.true_or, Bool.or_true, if_true, if_false, ite_true, ite_false, ↓reduceIte, List.length_cons, List.length_nil, Nat.reduceAdd, Nat.reduceLT, Nat.reduceLeDiff, Nat.reduceEqDiff, Int.reduceAdd, Int.reduceLE, Int.toNat_natCast, Int.reduceToNat, Int.cast_ofNat_Int, true_and, and_true, false_and, and_false, true_implies, forall_const, eq_self, and_self, or_true, true_or, or_self, false_or, or_false, yI_sI, yR_sI, yC_sI, yN_sI, yI_sR, yR_sR, yC_sR, yN_sR, not_true_eq_false, not_false_eq_true, false_implies, implies_true, Nat.zero_add, Nat.add_zero, Nat.le_refl, Nat.reduceSub, Int.reduceSub, Int.reduceLT, Int.sub_zero, Int.sub_self, List.getElem?_toArray, List.getElem?_cons_zero, List.getElem?_cons_succ, Int.toNat_zero, Int.toNat_one, Int.lt_irrefl, yI_sB, yR_sB, yC_sB, yN_sB, MSh_sB_eq, pK_doubt_0, stp_aload_n, pK_doubt_1, stp_iload_n, pK_doubt_2, stp_invokevirtual, qmK_26, cy_K_ownerOf, ss_C5 hS, pK_doubt_5, pK_doubt_6, stp_if_icmp_eq, pK_doubt_9, stp_iconst, pK_doubt_10, stp_ireturn, pK_doubt_11, pK_doubt_12, stp_istore_n, pK_doubt_13, pK_doubt_14, pK_doubt_15, stp_getfield, qfK_18, rp_5_2, pK_doubt_18, stp_if_icmp_ge, pK_doubt_21, pK_doubt_22, stp_bipush, pK_doubt_24, pK_doubt_27, pK_doubt_28, qfK_15, rp_5_1, ss_R5_1 hS, ss_C176 hS, ss_N176 hS, pK_doubt_31, pK_doubt_32, stp_iaload, pK_doubt_33, pK_doubt_34, pK_doubt_37, pK_doubt_38, qfK_9, rp_5_0, ss_R5_0 hS, ss_C175 hS, ss_N175 hS, pK_doubt_41, pK_doubt_42, pK_doubt_43, pK_doubt_44, stp_invokestatic, qmK_22, cy_K_areNear, pK_doubt_47, stp_ifCond_eq, pK_doubt_50, pK_doubt_51, pK_doubt_52, stp_iinc, pK_doubt_55, stp_goto, pK_doubt_58, pK_doubt_59, ic_1, ic_0, bp_20, nv_K_doubt, ml_K_doubt, e1, Int32.le_refl]
    exact hQ
  | k + 1, i, hi, hf => by
    have ih := lpK_doubt hl hS h63 hc hQ k (i + 1) (by omega)
    have h20 := h63.2
    have e1 : wI w 5 0 2 = nI (cn w 63) := hc.2.2.2.1.trans h63.1
    have h1 : ¬ nI (cn w 63) ≤ nI i := nI_ge (by omega) (by omega)
    have h4 : ¬ (20 : Int32) ≤ nI i := nI_ge (b := 20) (by omega) (by omega)
    have h2 : vp_in (nI i) 20 := vp_in_nI (by omega) (by omega)
    have h3 : (nI i).toNatClampNeg = i := nI_clamp (by omega)
    obtain ⟨m1, m2⟩ := hc.2.2.2.2.2.2.2 i (by omega)
    have hl1 : lvK_areNear < n := hl
    refine wpn_ok (M := mK_doubt) (C := cenK) (X := (alk [(22, lvK_areNear, fsK_areNear)])) (tb := tK_doubt) (st := [13]) eoK (XOk_cons qmK_22 (okK_areNear l G) XOk_nil) kK_doubt 60 _ _ _ _ _ _ ?_
    by_cases e : wI w 165 0 i = o
    · have ih := ih (by simp [anyN, hf, dbG, e])
      simp only [reduceCtorEq, fv0, fv1, fv2, fv3, bI_0, bI_1, bft, MSh_sI_eq, fsP_T, inL_0, inL_s, pad_0, pad_n, pad_s, wpn_s, wp1_s, lg_0, lg_s, lset_0, lset_s, kil_0, kil_s, st1_s, st2_s, isL_i, isL_l, isL_r, isL_n, spl_0, spl_s, cll_n, cll_s, catS_0, catS_s, jmp_s, alk_0, alk_s, otl_n, otl_s, List.nil_append, List.cons_append, List.contains_cons, List.contains_nil, Nat.reduceBEq, Bool.or_false, Bool.false_or, Bool.or_self, Bool.false_eq_true, Bool.true_or, Bool.or_true, if_true, if_false, ite_true, ite_false, ↓reduceIte, List.length_cons, List.length_nil, Nat.reduceAdd, Nat.reduceLT, Nat.reduceLeDiff, Nat.reduceEqDiff, Int.reduceAdd, Int.reduceLE, Int.toNat_natCast, Int.reduceToNat, Int.cast_ofNat_Int, true_and, and_true, false_and, and_false, true_implies, forall_const, eq_self, and_self, or_true, true_or, or_self, false_or, or_false, yI_sI, yR_sI, yC_sI, yN_sI, yI_sR, yR_sR, yC_sR, yN_sR, not_true_eq_false, not_false_eq_true, false_implies, implies_true, Nat.zero_add, Nat.add_zero, Nat.le_refl, Nat.reduceSub, Int.reduceSub, Int.reduceLT, Int.sub_zero, Int.sub_self, List.getElem?_toArray, List.getElem?_cons_zero, List.getElem?_cons_succ, Int.toNat_zero, Int.toNat_one, Int.lt_irrefl, yI_sB, yR_sB, yC_sB, yN_sB, MSh_sB_eq, pK_doubt_0, stp_aload_n, pK_doubt_1, stp_iload_n, pK_doubt_2, stp_invokevirtual, qmK_26, cy_K_ownerOf, ss_C5 hS, pK_doubt_5, pK_doubt_6, stp_if_icmp_eq, pK_doubt_9, stp_iconst, pK_doubt_10, stp_ireturn, pK_doubt_11, pK_doubt_12, stp_istore_n, pK_doubt_13, pK_doubt_14, pK_doubt_15, stp_getfield, qfK_18, rp_5_2, pK_doubt_18, stp_if_icmp_ge, pK_doubt_21, pK_doubt_22, stp_bipush, pK_doubt_24, pK_doubt_27, pK_doubt_28, qfK_15, rp_5_1, ss_R5_1 hS, ss_C176 hS, ss_N176 hS, pK_doubt_31, pK_doubt_32, stp_iaload, pK_doubt_33, pK_doubt_34, pK_doubt_37, pK_doubt_38, qfK_9, rp_5_0, ss_R5_0 hS, ss_C175 hS, ss_N175 hS, pK_doubt_41, pK_doubt_42, pK_doubt_43, pK_doubt_44, stp_invokestatic, qmK_22, cy_K_areNear, pK_doubt_47, stp_ifCond_eq, pK_doubt_50, pK_doubt_51, pK_doubt_52, stp_iinc, pK_doubt_55, stp_goto, pK_doubt_58, pK_doubt_59, ic_1, ic_0, bp_20, nv_K_doubt, ml_K_doubt, e1, h1, h2, h3, h4, m1, m2, e, nI_1]
      exact ih
    · cases en : nearB (wI w 164 0 i) m
      · have ih := ih (by simp [anyN, hf, dbG, en])
        simp only [reduceCtorEq, fv0, fv1, fv2, fv3, bI_0, bI_1, bft, MSh_sI_eq, fsP_T, inL_0, inL_s, pad_0, pad_n, pad_s, wpn_s, wp1_s, lg_0, lg_s, lset_0, lset_s, kil_0, kil_s, st1_s, st2_s, isL_i, isL_l, isL_r, isL_n, spl_0, spl_s, cll_n, cll_s, catS_0, catS_s, jmp_s, alk_0, alk_s, otl_n, otl_s, List.nil_append, List.cons_append, List.contains_cons, List.contains_nil, Nat.reduceBEq, Bool.or_false, Bool.false_or, Bool.or_self, Bool.false_eq_true, Bool.true_or, Bool.or_true, if_true, if_false, ite_true, ite_false, ↓reduceIte, List.length_cons, List.length_nil, Nat.reduceAdd, Nat.reduceLT, Nat.reduceLeDiff, Nat.reduceEqDiff, Int.reduceAdd, Int.reduceLE, Int.toNat_natCast, Int.reduceToNat, Int.cast_ofNat_Int, true_and, and_true, false_and, and_false, true_implies, forall_const, eq_self, and_self, or_true, true_or, or_self, false_or, or_false, yI_sI, yR_sI, yC_sI, yN_sI, yI_sR, yR_sR, yC_sR, yN_sR, not_true_eq_false, not_false_eq_true, false_implies, implies_true, Nat.zero_add, Nat.add_zero, Nat.le_refl, Nat.reduceSub, Int.reduceSub, Int.reduceLT, Int.sub_zero, Int.sub_self, List.getElem?_toArray, List.getElem?_cons_zero, List.getElem?_cons_succ, Int.toNat_zero, Int.toNat_one, Int.lt_irrefl, yI_sB, yR_sB, yC_sB, yN_sB, MSh_sB_eq, pK_doubt_0, stp_aload_n, pK_doubt_1, stp_iload_n, pK_doubt_2, stp_invokevirtual, qmK_26, cy_K_ownerOf, ss_C5 hS, pK_doubt_5, pK_doubt_6, stp_if_icmp_eq, pK_doubt_9, stp_iconst, pK_doubt_10, stp_ireturn, pK_doubt_11, pK_doubt_12, stp_istore_n, pK_doubt_13, pK_doubt_14, pK_doubt_15, stp_getfield, qfK_18, rp_5_2, pK_doubt_18, stp_if_icmp_ge, pK_doubt_21, pK_doubt_22, stp_bipush, pK_doubt_24, pK_doubt_27, pK_doubt_28, qfK_15, rp_5_1, ss_R5_1 hS, ss_C176 hS, ss_N176 hS, pK_doubt_31, pK_doubt_32, stp_iaload, pK_doubt_33, pK_doubt_34, pK_doubt_37, pK_doubt_38, qfK_9, rp_5_0, ss_R5_0 hS, ss_C175 hS, ss_N175 hS, pK_doubt_41, pK_doubt_42, pK_doubt_43, pK_doubt_44, stp_invokestatic, qmK_22, cy_K_areNear, pK_doubt_47, stp_ifCond_eq, pK_doubt_50, pK_doubt_51, pK_doubt_52, stp_iinc, pK_doubt_55, stp_goto, pK_doubt_58, pK_doubt_59, ic_1, ic_0, bp_20, nv_K_doubt, ml_K_doubt, e1, h1, h2, h3, h4, m1, m2, e, fsK_areNear, en, hl1, nI_1]
        exact ih
      · have : anyN (dbG w m o) (cn w 63) = true := anyN_t (i := i) (by omega) (by simp [dbG, e, en])
        rw [this] at hQ
        simp only [reduceCtorEq, fv0, fv1, fv2, fv3, bI_0, bI_1, bft, MSh_sI_eq, fsP_T, inL_0, inL_s, pad_0, pad_n, pad_s, wpn_s, wp1_s, lg_0, lg_s, lset_0, lset_s, kil_0, kil_s, st1_s, st2_s, isL_i, isL_l, isL_r, isL_n, spl_0, spl_s, cll_n, cll_s, catS_0, catS_s, jmp_s, alk_0, alk_s, otl_n, otl_s, List.nil_append, List.cons_append, List.contains_cons, List.contains_nil, Nat.reduceBEq, Bool.or_false, Bool.false_or, Bool.or_self, Bool.false_eq_true, Bool.true_or, Bool.or_true, if_true, if_false, ite_true, ite_false, ↓reduceIte, List.length_cons, List.length_nil, Nat.reduceAdd, Nat.reduceLT, Nat.reduceLeDiff, Nat.reduceEqDiff, Int.reduceAdd, Int.reduceLE, Int.toNat_natCast, Int.reduceToNat, Int.cast_ofNat_Int, true_and, and_true, false_and, and_false, true_implies, forall_const, eq_self, and_self, or_true, true_or, or_self, false_or, or_false, yI_sI, yR_sI, yC_sI, yN_sI, yI_sR, yR_sR, yC_sR, yN_sR, not_true_eq_false, not_false_eq_true, false_implies, implies_true, Nat.zero_add, Nat.add_zero, Nat.le_refl, Nat.reduceSub, Int.reduceSub, Int.reduceLT, Int.sub_zero, Int.sub_self, List.getElem?_toArray, List.getElem?_cons_zero, List.getElem?_cons_succ, Int.toNat_zero, Int.toNat_one, Int.lt_irrefl, yI_sB, yR_sB, yC_sB, yN_sB, MSh_sB_eq, pK_doubt_0, stp_aload_n, pK_doubt_1, stp_iload_n, pK_doubt_2, stp_invokevirtual, qmK_26, cy_K_ownerOf, ss_C5 hS, pK_doubt_5, pK_doubt_6, stp_if_icmp_eq, pK_doubt_9, stp_iconst, pK_doubt_10, stp_ireturn, pK_doubt_11, pK_doubt_12, stp_istore_n, pK_doubt_13, pK_doubt_14, pK_doubt_15, stp_getfield, qfK_18, rp_5_2, pK_doubt_18, stp_if_icmp_ge, pK_doubt_21, pK_doubt_22, stp_bipush, pK_doubt_24, pK_doubt_27, pK_doubt_28, qfK_15, rp_5_1, ss_R5_1 hS, ss_C176 hS, ss_N176 hS, pK_doubt_31, pK_doubt_32, stp_iaload, pK_doubt_33, pK_doubt_34, pK_doubt_37, pK_doubt_38, qfK_9, rp_5_0, ss_R5_0 hS, ss_C175 hS, ss_N175 hS, pK_doubt_41, pK_doubt_42, pK_doubt_43, pK_doubt_44, stp_invokestatic, qmK_22, cy_K_areNear, pK_doubt_47, stp_ifCond_eq, pK_doubt_50, pK_doubt_51, pK_doubt_52, stp_iinc, pK_doubt_55, stp_goto, pK_doubt_58, pK_doubt_59, ic_1, ic_0, bp_20, nv_K_doubt, ml_K_doubt, e1, h1, h2, h3, h4, m1, m2, e, fsK_areNear, en, hl1]
        exact hQ
end
abbrev lvK_doubt : Nat := 2
noncomputable def fsK_doubt : FS := fun as w => match as with
  | [.inr (.inr (some (5, 0))), .inl m, .inl o] => fsP (Cpl w) (some (.inl (bI (dbO w m o))), w)
  | _ => none
set_option maxRecDepth 100000 in
set_option maxHeartbeats 4000000 in
theorem okK_doubt (l : Launch) (G : Gc) : FsOk l G mK_doubt lvK_doubt fsK_doubt := by
  intro as w r w' h
  simp only [fsK_doubt] at h
  split at h
  · rename_i m o
    obtain ⟨hC, h⟩ := fsP_s h
    cases h
    have hS := hC.1
    refine Sem_of (by decide) rfl (Nat.le_of_ble_eq_true rfl) ?_
    refine wpn_ok (M := mK_doubt) (C := cenK) (X := (alk [(26, lvK_ownerOf, fsK_ownerOf)])) (tb := tK_doubt) (st := [13]) eoK (XOk_cons qmK_26 (okK_ownerOf l G) XOk_nil) kK_doubt 60 _ _ _ _ _ _ ?_
    by_cases e : whI w m = o
    · simp only [reduceCtorEq, fv0, fv1, fv2, fv3, bI_0, bI_1, bft, MSh_sI_eq, fsP_T, inL_0, inL_s, pad_0, pad_n, pad_s, wpn_s, wp1_s, lg_0, lg_s, lset_0, lset_s, kil_0, kil_s, st1_s, st2_s, isL_i, isL_l, isL_r, isL_n, spl_0, spl_s, cll_n, cll_s, catS_0, catS_s, jmp_s, alk_0, alk_s, otl_n, otl_s, List.nil_append, List.cons_append, List.contains_cons, List.contains_nil, Nat.reduceBEq, Bool.or_false, Bool.false_or, Bool.or_self, Bool.false_eq_true, Bool.true_or, Bool.or_true, if_true, if_false, ite_true, ite_false, ↓reduceIte, List.length_cons, List.length_nil, Nat.reduceAdd, Nat.reduceLT, Nat.reduceLeDiff, Nat.reduceEqDiff, Int.reduceAdd, Int.reduceLE, Int.toNat_natCast, Int.reduceToNat, Int.cast_ofNat_Int, true_and, and_true, false_and, and_false, true_implies, forall_const, eq_self, and_self, or_true, true_or, or_self, false_or, or_false, yI_sI, yR_sI, yC_sI, yN_sI, yI_sR, yR_sR, yC_sR, yN_sR, not_true_eq_false, not_false_eq_true, false_implies, implies_true, Nat.zero_add, Nat.add_zero, Nat.le_refl, Nat.reduceSub, Int.reduceSub, Int.reduceLT, Int.sub_zero, Int.sub_self, List.getElem?_toArray, List.getElem?_cons_zero, List.getElem?_cons_succ, Int.toNat_zero, Int.toNat_one, Int.lt_irrefl, yI_sB, yR_sB, yC_sB, yN_sB, MSh_sB_eq, pK_doubt_0, stp_aload_n, pK_doubt_1, stp_iload_n, pK_doubt_2, stp_invokevirtual, qmK_26, cy_K_ownerOf, ss_C5 hS, pK_doubt_5, pK_doubt_6, stp_if_icmp_eq, pK_doubt_9, stp_iconst, pK_doubt_10, stp_ireturn, pK_doubt_11, pK_doubt_12, stp_istore_n, pK_doubt_13, pK_doubt_14, pK_doubt_15, stp_getfield, qfK_18, rp_5_2, pK_doubt_18, stp_if_icmp_ge, pK_doubt_21, pK_doubt_22, stp_bipush, pK_doubt_24, pK_doubt_27, pK_doubt_28, qfK_15, rp_5_1, ss_R5_1 hS, ss_C176 hS, ss_N176 hS, pK_doubt_31, pK_doubt_32, stp_iaload, pK_doubt_33, pK_doubt_34, pK_doubt_37, pK_doubt_38, qfK_9, rp_5_0, ss_R5_0 hS, ss_C175 hS, ss_N175 hS, pK_doubt_41, pK_doubt_42, pK_doubt_43, pK_doubt_44, stp_invokestatic, qmK_22, cy_K_areNear, pK_doubt_47, stp_ifCond_eq, pK_doubt_50, pK_doubt_51, pK_doubt_52, stp_iinc, pK_doubt_55, stp_goto, pK_doubt_58, pK_doubt_59, ic_1, ic_0, bp_20, nv_K_doubt, ml_K_doubt, ruK_ownerOf hC, e, lvK_doubt, lvK_ownerOf]
      refine lpK_doubt (by decide) hS hC.2.1.2.2.2.2.2.1 hC.2.2.1 ?_ (cn w 63) 0 (by omega) rfl
      simp [dbO, e]
    · simp only [reduceCtorEq, fv0, fv1, fv2, fv3, bI_0, bI_1, bft, MSh_sI_eq, fsP_T, inL_0, inL_s, pad_0, pad_n, pad_s, wpn_s, wp1_s, lg_0, lg_s, lset_0, lset_s, kil_0, kil_s, st1_s, st2_s, isL_i, isL_l, isL_r, isL_n, spl_0, spl_s, cll_n, cll_s, catS_0, catS_s, jmp_s, alk_0, alk_s, otl_n, otl_s, List.nil_append, List.cons_append, List.contains_cons, List.contains_nil, Nat.reduceBEq, Bool.or_false, Bool.false_or, Bool.or_self, Bool.false_eq_true, Bool.true_or, Bool.or_true, if_true, if_false, ite_true, ite_false, ↓reduceIte, List.length_cons, List.length_nil, Nat.reduceAdd, Nat.reduceLT, Nat.reduceLeDiff, Nat.reduceEqDiff, Int.reduceAdd, Int.reduceLE, Int.toNat_natCast, Int.reduceToNat, Int.cast_ofNat_Int, true_and, and_true, false_and, and_false, true_implies, forall_const, eq_self, and_self, or_true, true_or, or_self, false_or, or_false, yI_sI, yR_sI, yC_sI, yN_sI, yI_sR, yR_sR, yC_sR, yN_sR, not_true_eq_false, not_false_eq_true, false_implies, implies_true, Nat.zero_add, Nat.add_zero, Nat.le_refl, Nat.reduceSub, Int.reduceSub, Int.reduceLT, Int.sub_zero, Int.sub_self, List.getElem?_toArray, List.getElem?_cons_zero, List.getElem?_cons_succ, Int.toNat_zero, Int.toNat_one, Int.lt_irrefl, yI_sB, yR_sB, yC_sB, yN_sB, MSh_sB_eq, pK_doubt_0, stp_aload_n, pK_doubt_1, stp_iload_n, pK_doubt_2, stp_invokevirtual, qmK_26, cy_K_ownerOf, ss_C5 hS, pK_doubt_5, pK_doubt_6, stp_if_icmp_eq, pK_doubt_9, stp_iconst, pK_doubt_10, stp_ireturn, pK_doubt_11, pK_doubt_12, stp_istore_n, pK_doubt_13, pK_doubt_14, pK_doubt_15, stp_getfield, qfK_18, rp_5_2, pK_doubt_18, stp_if_icmp_ge, pK_doubt_21, pK_doubt_22, stp_bipush, pK_doubt_24, pK_doubt_27, pK_doubt_28, qfK_15, rp_5_1, ss_R5_1 hS, ss_C176 hS, ss_N176 hS, pK_doubt_31, pK_doubt_32, stp_iaload, pK_doubt_33, pK_doubt_34, pK_doubt_37, pK_doubt_38, qfK_9, rp_5_0, ss_R5_0 hS, ss_C175 hS, ss_N175 hS, pK_doubt_41, pK_doubt_42, pK_doubt_43, pK_doubt_44, stp_invokestatic, qmK_22, cy_K_areNear, pK_doubt_47, stp_ifCond_eq, pK_doubt_50, pK_doubt_51, pK_doubt_52, stp_iinc, pK_doubt_55, stp_goto, pK_doubt_58, pK_doubt_59, ic_1, ic_0, bp_20, nv_K_doubt, ml_K_doubt, ruK_ownerOf hC, e, lvK_doubt, lvK_ownerOf]
      simp [dbO, e, bI]
  · cases h
theorem ruK_doubt {w : Wd} {m o : Int32} (h : Cpl w) : fsK_doubt [.inr (.inr (some (5, 0))), .inl m, .inl o] w = some (some (.inl (bI (dbO w m o))), w) := fsP_t h
theorem dbt_eq {w : Wd} {j : Nat} (h : inR (wI w 119 0 j) 0 5 = true) : dbt w j = (decide (wI w 227 0 j = 0) && dbO w (wI w 122 0 j) (wI w 119 0 j)) := by
  have hne : ¬ (-1 : Int32) = wI w 119 0 j := fun e => by rw [← e] at h; exact absurd h (by decide)
  unfold dbt dbO
  congr 2
  unfold db0 whI
  cases fnd w (wI w 122 0 j) with
  | none => simp [hne]
  | some k => rfl
/-! lots -/
theorem Cpl_lot {w : Wd} {j : Nat} (h : Cpl w) (hj : j < cn w 17) : LtS w j ∧ LtC w j := h.2.2.2.2 j hj
abbrev lvS_lotAt : Nat := 4
noncomputable def fsS_lotAt : FS := fun as w => match as with
  | [.inr (.inr (some (0, 0))), .inl v] => fsP (Cpl w) (some (.inr (.inr (if inR v 0 (wI w 13 0 17 - 1) = true then some (10, v.toNatClampNeg) else none))), w)
  | _ => none
set_option maxRecDepth 100000 in
set_option maxHeartbeats 4000000 in
theorem okS_lotAt (l : Launch) (G : Gc) : FsOk l G mS_lotAt lvS_lotAt fsS_lotAt := by
  intro as w r w' h
  simp only [fsS_lotAt] at h
  split at h
  · rename_i v
    obtain ⟨hC, h⟩ := fsP_s h
    cases h
    have hS := hC.1
    have hL := hC.2.2.2.1
    have h17 := hC.2.1.2.2.2.1
    have h24 := h17.2
    have rs := ruL_size hL
    refine Sem_of (by decide) rfl (Nat.le_of_ble_eq_true rfl) ?_
    refine wpn_ok (M := mS_lotAt) (C := cenS) (X := (alk [(96, lvL_size, fsL_size), (277, lvL_get, fsL_get)])) (tb := tS_lotAt) (st := []) eoS (XOk_cons qmS_96 (okL_size l G) (XOk_cons qmS_277 (okL_get l G) XOk_nil)) kS_lotAt 60 _ _ _ _ _ _ ?_
    cases hi : inR v 0 (wI w 13 0 17 - 1) with
    | true =>
      obtain ⟨j, hj, rfl⟩ := okc_in h17 (by omega) hi
      have q1 : ¬ nI j < 0 := nI_pos (by omega)
      have q2 : ¬ nI (cn w 17) ≤ nI j := nI_ge hj (by omega)
      have rg := ruL_get hL hj
      have c1 : (nI j).toNatClampNeg = j := nI_clamp (by omega)
      simp only [reduceCtorEq, fv0, fv1, fv2, fv3, bI_0, bI_1, bft, MSh_sI_eq, fsP_T, inL_0, inL_s, pad_0, pad_n, pad_s, wpn_s, wp1_s, lg_0, lg_s, lset_0, lset_s, kil_0, kil_s, st1_s, st2_s, isL_i, isL_l, isL_r, isL_n, spl_0, spl_s, cll_n, cll_s, catS_0, catS_s, jmp_s, alk_0, alk_s, otl_n, otl_s, List.nil_append, List.cons_append, List.contains_cons, List.contains_nil, Nat.reduceBEq, Bool.or_false, Bool.false_or, Bool.or_self, Bool.false_eq_true, Bool.true_or, Bool.or_true, if_true, if_false, ite_true, ite_false, ↓reduceIte, List.length_cons, List.length_nil, Nat.reduceAdd, Nat.reduceLT, Nat.reduceLeDiff, Nat.reduceEqDiff, Int.reduceAdd, Int.reduceLE, Int.toNat_natCast, Int.reduceToNat, Int.cast_ofNat_Int, true_and, and_true, false_and, and_false, true_implies, forall_const, eq_self, and_self, or_true, true_or, or_self, false_or, or_false, yI_sI, yR_sI, yC_sI, yN_sI, yI_sR, yR_sR, yC_sR, yN_sR, not_true_eq_false, not_false_eq_true, false_implies, implies_true, Nat.zero_add, Nat.add_zero, Nat.le_refl, Nat.reduceSub, Int.reduceSub, Int.reduceLT, Int.sub_zero, Int.sub_self, List.getElem?_toArray, List.getElem?_cons_zero, List.getElem?_cons_succ, Int.toNat_zero, Int.toNat_one, Int.lt_irrefl, yI_sB, yR_sB, yC_sB, yN_sB, MSh_sB_eq, pS_lotAt_0, stp_iload_n, pS_lotAt_1, stp_ifCond_lt, pS_lotAt_4, pS_lotAt_5, stp_aload_n, pS_lotAt_6, stp_getfield, qfS_19, rp_0_1, ss_C0 hS, ss_R0_1 hS, ss_C2 hS, pS_lotAt_9, stp_invokevirtual, qmS_96, cy_L_size, pS_lotAt_12, stp_if_icmp_ge, pS_lotAt_15, pS_lotAt_16, pS_lotAt_19, pS_lotAt_20, qmS_277, cy_L_get, pS_lotAt_23, stp_checkcast, qtS_132, pS_lotAt_26, stp_goto, pS_lotAt_29, stp_aconst_null, pS_lotAt_30, stp_areturn, nv_S_lotAt, ml_S_lotAt, q1, q2, rs, rg, c1, (Cpl_lot hC hj).1.1, lvS_lotAt, lvL_size, lvL_get]
    | false =>
      by_cases q1 : v < 0
      · simp only [reduceCtorEq, fv0, fv1, fv2, fv3, bI_0, bI_1, bft, MSh_sI_eq, fsP_T, inL_0, inL_s, pad_0, pad_n, pad_s, wpn_s, wp1_s, lg_0, lg_s, lset_0, lset_s, kil_0, kil_s, st1_s, st2_s, isL_i, isL_l, isL_r, isL_n, spl_0, spl_s, cll_n, cll_s, catS_0, catS_s, jmp_s, alk_0, alk_s, otl_n, otl_s, List.nil_append, List.cons_append, List.contains_cons, List.contains_nil, Nat.reduceBEq, Bool.or_false, Bool.false_or, Bool.or_self, Bool.false_eq_true, Bool.true_or, Bool.or_true, if_true, if_false, ite_true, ite_false, ↓reduceIte, List.length_cons, List.length_nil, Nat.reduceAdd, Nat.reduceLT, Nat.reduceLeDiff, Nat.reduceEqDiff, Int.reduceAdd, Int.reduceLE, Int.toNat_natCast, Int.reduceToNat, Int.cast_ofNat_Int, true_and, and_true, false_and, and_false, true_implies, forall_const, eq_self, and_self, or_true, true_or, or_self, false_or, or_false, yI_sI, yR_sI, yC_sI, yN_sI, yI_sR, yR_sR, yC_sR, yN_sR, not_true_eq_false, not_false_eq_true, false_implies, implies_true, Nat.zero_add, Nat.add_zero, Nat.le_refl, Nat.reduceSub, Int.reduceSub, Int.reduceLT, Int.sub_zero, Int.sub_self, List.getElem?_toArray, List.getElem?_cons_zero, List.getElem?_cons_succ, Int.toNat_zero, Int.toNat_one, Int.lt_irrefl, yI_sB, yR_sB, yC_sB, yN_sB, MSh_sB_eq, pS_lotAt_0, stp_iload_n, pS_lotAt_1, stp_ifCond_lt, pS_lotAt_4, pS_lotAt_5, stp_aload_n, pS_lotAt_6, stp_getfield, qfS_19, rp_0_1, ss_C0 hS, ss_R0_1 hS, ss_C2 hS, pS_lotAt_9, stp_invokevirtual, qmS_96, cy_L_size, pS_lotAt_12, stp_if_icmp_ge, pS_lotAt_15, pS_lotAt_16, pS_lotAt_19, pS_lotAt_20, qmS_277, cy_L_get, pS_lotAt_23, stp_checkcast, qtS_132, pS_lotAt_26, stp_goto, pS_lotAt_29, stp_aconst_null, pS_lotAt_30, stp_areturn, nv_S_lotAt, ml_S_lotAt, q1]
      · rw [lp_eq h17] at hi
        have q2 : ¬ v < wI w 13 0 17 := by simpa [q1, -Int32.not_lt] using hi
        have q3 : nI (cn w 17) ≤ v := by rw [← h17.1]; exact Int32.not_lt.mp q2
        simp only [reduceCtorEq, fv0, fv1, fv2, fv3, bI_0, bI_1, bft, MSh_sI_eq, fsP_T, inL_0, inL_s, pad_0, pad_n, pad_s, wpn_s, wp1_s, lg_0, lg_s, lset_0, lset_s, kil_0, kil_s, st1_s, st2_s, isL_i, isL_l, isL_r, isL_n, spl_0, spl_s, cll_n, cll_s, catS_0, catS_s, jmp_s, alk_0, alk_s, otl_n, otl_s, List.nil_append, List.cons_append, List.contains_cons, List.contains_nil, Nat.reduceBEq, Bool.or_false, Bool.false_or, Bool.or_self, Bool.false_eq_true, Bool.true_or, Bool.or_true, if_true, if_false, ite_true, ite_false, ↓reduceIte, List.length_cons, List.length_nil, Nat.reduceAdd, Nat.reduceLT, Nat.reduceLeDiff, Nat.reduceEqDiff, Int.reduceAdd, Int.reduceLE, Int.toNat_natCast, Int.reduceToNat, Int.cast_ofNat_Int, true_and, and_true, false_and, and_false, true_implies, forall_const, eq_self, and_self, or_true, true_or, or_self, false_or, or_false, yI_sI, yR_sI, yC_sI, yN_sI, yI_sR, yR_sR, yC_sR, yN_sR, not_true_eq_false, not_false_eq_true, false_implies, implies_true, Nat.zero_add, Nat.add_zero, Nat.le_refl, Nat.reduceSub, Int.reduceSub, Int.reduceLT, Int.sub_zero, Int.sub_self, List.getElem?_toArray, List.getElem?_cons_zero, List.getElem?_cons_succ, Int.toNat_zero, Int.toNat_one, Int.lt_irrefl, yI_sB, yR_sB, yC_sB, yN_sB, MSh_sB_eq, pS_lotAt_0, stp_iload_n, pS_lotAt_1, stp_ifCond_lt, pS_lotAt_4, pS_lotAt_5, stp_aload_n, pS_lotAt_6, stp_getfield, qfS_19, rp_0_1, ss_C0 hS, ss_R0_1 hS, ss_C2 hS, pS_lotAt_9, stp_invokevirtual, qmS_96, cy_L_size, pS_lotAt_12, stp_if_icmp_ge, pS_lotAt_15, pS_lotAt_16, pS_lotAt_19, pS_lotAt_20, qmS_277, cy_L_get, pS_lotAt_23, stp_checkcast, qtS_132, pS_lotAt_26, stp_goto, pS_lotAt_29, stp_aconst_null, pS_lotAt_30, stp_areturn, nv_S_lotAt, ml_S_lotAt, q1, q3, rs, lvS_lotAt, lvL_size, lvL_get]
  · cases h
theorem ruS_lotAt {w : Wd} {v : Int32} (h : Cpl w) : fsS_lotAt [.inr (.inr (some (0, 0))), .inl v] w = some (some (.inr (.inr (if inR v 0 (wI w 13 0 17 - 1) = true then some (10, v.toNatClampNeg) else none))), w) := fsP_t h
abbrev lvO_thirst : Nat := 1
noncomputable def fsO_thirst : FS := fun as w => match as with
  | [.inr (.inr (some (10, j))), .inl x] => fsP (j < wC w 10) (some (.inl (x - wI w 10 j 6)), w)
  | _ => none
set_option maxRecDepth 100000 in
set_option maxHeartbeats 4000000 in
theorem okO_thirst (l : Launch) (G : Gc) : FsOk l G mO_thirst lvO_thirst fsO_thirst := by
  intro as w r w' h
  simp only [fsO_thirst] at h
  split at h
  · rename_i j x
    obtain ⟨hj, h⟩ := fsP_s h
    cases h
    refine Sem_of (by decide) rfl (Nat.le_of_ble_eq_true rfl) ?_
    refine wpn_ok (M := mO_thirst) (C := cenO) (X := (alk [])) (tb := tO_thirst) (st := []) eoO XOk_nil kO_thirst 200 _ _ _ _ _ _ ?_
    simp only [reduceCtorEq, fv0, fv1, fv2, fv3, bI_0, bI_1, bft, MSh_sI_eq, fsP_T, inL_0, inL_s, pad_0, pad_n, pad_s, wpn_s, wp1_s, lg_0, lg_s, lset_0, lset_s, kil_0, kil_s, st1_s, st2_s, isL_i, isL_l, isL_r, isL_n, spl_0, spl_s, cll_n, cll_s, catS_0, catS_s, jmp_s, alk_0, alk_s, otl_n, otl_s, List.nil_append, List.cons_append, List.contains_cons, List.contains_nil, Nat.reduceBEq, Bool.or_false, Bool.false_or, Bool.or_self, Bool.false_eq_true, Bool.true_or, Bool.or_true, if_true, if_false, ite_true, ite_false, ↓reduceIte, List.length_cons, List.length_nil, Nat.reduceAdd, Nat.reduceLT, Nat.reduceLeDiff, Nat.reduceEqDiff, Int.reduceAdd, Int.reduceLE, Int.toNat_natCast, Int.reduceToNat, Int.cast_ofNat_Int, true_and, and_true, false_and, and_false, true_implies, forall_const, eq_self, and_self, or_true, true_or, or_self, false_or, or_false, yI_sI, yR_sI, yC_sI, yN_sI, yI_sR, yR_sR, yC_sR, yN_sR, not_true_eq_false, not_false_eq_true, false_implies, implies_true, Nat.zero_add, Nat.add_zero, Nat.le_refl, Nat.reduceSub, Int.reduceSub, Int.reduceLT, Int.sub_zero, Int.sub_self, List.getElem?_toArray, List.getElem?_cons_zero, List.getElem?_cons_succ, Int.toNat_zero, Int.toNat_one, Int.lt_irrefl, yI_sB, yR_sB, yC_sB, yN_sB, MSh_sB_eq, pO_thirst_0, stp_iload_n, pO_thirst_1, stp_aload_n, pO_thirst_2, stp_getfield, qfO_44, rp_10_6, pO_thirst_5, stp_isub, pO_thirst_6, stp_ireturn, nv_O_thirst, ml_O_thirst, lvO_thirst, hj]
  · cases h
abbrev lvO_isOnWay : Nat := 1
noncomputable def fsO_isOnWay : FS := fun as w => match as with
  | [.inr (.inr (some (10, j)))] => fsP (j < wC w 10) (some (.inl (bI (!decide (wI w 10 j 8 = -1)))), w)
  | _ => none
set_option maxRecDepth 100000 in
set_option maxHeartbeats 4000000 in
theorem okO_isOnWay (l : Launch) (G : Gc) : FsOk l G mO_isOnWay lvO_isOnWay fsO_isOnWay := by
  intro as w r w' h
  simp only [fsO_isOnWay] at h
  split at h
  · rename_i j
    obtain ⟨hj, h⟩ := fsP_s h
    cases h
    refine Sem_of (by decide) rfl (Nat.le_of_ble_eq_true rfl) ?_
    refine wpn_ok (M := mO_isOnWay) (C := cenO) (X := (alk [])) (tb := tO_isOnWay) (st := []) eoO XOk_nil kO_isOnWay 200 _ _ _ _ _ _ ?_
    simp only [reduceCtorEq, fv0, fv1, fv2, fv3, bI_0, bI_1, bft, MSh_sI_eq, fsP_T, inL_0, inL_s, pad_0, pad_n, pad_s, wpn_s, wp1_s, lg_0, lg_s, lset_0, lset_s, kil_0, kil_s, st1_s, st2_s, isL_i, isL_l, isL_r, isL_n, spl_0, spl_s, cll_n, cll_s, catS_0, catS_s, jmp_s, alk_0, alk_s, otl_n, otl_s, List.nil_append, List.cons_append, List.contains_cons, List.contains_nil, Nat.reduceBEq, Bool.or_false, Bool.false_or, Bool.or_self, Bool.false_eq_true, Bool.true_or, Bool.or_true, if_true, if_false, ite_true, ite_false, ↓reduceIte, List.length_cons, List.length_nil, Nat.reduceAdd, Nat.reduceLT, Nat.reduceLeDiff, Nat.reduceEqDiff, Int.reduceAdd, Int.reduceLE, Int.toNat_natCast, Int.reduceToNat, Int.cast_ofNat_Int, true_and, and_true, false_and, and_false, true_implies, forall_const, eq_self, and_self, or_true, true_or, or_self, false_or, or_false, yI_sI, yR_sI, yC_sI, yN_sI, yI_sR, yR_sR, yC_sR, yN_sR, not_true_eq_false, not_false_eq_true, false_implies, implies_true, Nat.zero_add, Nat.add_zero, Nat.le_refl, Nat.reduceSub, Int.reduceSub, Int.reduceLT, Int.sub_zero, Int.sub_self, List.getElem?_toArray, List.getElem?_cons_zero, List.getElem?_cons_succ, Int.toNat_zero, Int.toNat_one, Int.lt_irrefl, yI_sB, yR_sB, yC_sB, yN_sB, MSh_sB_eq, pO_isOnWay_0, stp_aload_n, pO_isOnWay_1, stp_getfield, qfO_18, rp_10_8, pO_isOnWay_4, stp_iconst, pO_isOnWay_5, stp_if_icmp_eq, pO_isOnWay_8, pO_isOnWay_9, stp_goto, pO_isOnWay_12, pO_isOnWay_13, stp_ireturn, ic_m1, ic_1, ic_0, nv_O_isOnWay, ml_O_isOnWay, lvO_isOnWay, hj]
    by_cases h1 : wI w 10 j 8 = -1 <;> simp [h1, bI]
  · cases h
abbrev lvE_isSold : Nat := 1
noncomputable def fsE_isSold : FS := fun as w => match as with
  | [.inr (.inr (some (11, j)))] => fsP (j < wC w 11) (some (.inl (bI (!decide (wI w 11 j 7 = -1)))), w)
  | _ => none
set_option maxRecDepth 100000 in
set_option maxHeartbeats 4000000 in
theorem okE_isSold (l : Launch) (G : Gc) : FsOk l G mE_isSold lvE_isSold fsE_isSold := by
  intro as w r w' h
  simp only [fsE_isSold] at h
  split at h
  · rename_i j
    obtain ⟨hj, h⟩ := fsP_s h
    cases h
    refine Sem_of (by decide) rfl (Nat.le_of_ble_eq_true rfl) ?_
    refine wpn_ok (M := mE_isSold) (C := cenE) (X := (alk [])) (tb := tE_isSold) (st := []) eoE XOk_nil kE_isSold 200 _ _ _ _ _ _ ?_
    simp only [reduceCtorEq, fv0, fv1, fv2, fv3, bI_0, bI_1, bft, MSh_sI_eq, fsP_T, inL_0, inL_s, pad_0, pad_n, pad_s, wpn_s, wp1_s, lg_0, lg_s, lset_0, lset_s, kil_0, kil_s, st1_s, st2_s, isL_i, isL_l, isL_r, isL_n, spl_0, spl_s, cll_n, cll_s, catS_0, catS_s, jmp_s, alk_0, alk_s, otl_n, otl_s, List.nil_append, List.cons_append, List.contains_cons, List.contains_nil, Nat.reduceBEq, Bool.or_false, Bool.false_or, Bool.or_self, Bool.false_eq_true, Bool.true_or, Bool.or_true, if_true, if_false, ite_true, ite_false, ↓reduceIte, List.length_cons, List.length_nil, Nat.reduceAdd, Nat.reduceLT, Nat.reduceLeDiff, Nat.reduceEqDiff, Int.reduceAdd, Int.reduceLE, Int.toNat_natCast, Int.reduceToNat, Int.cast_ofNat_Int, true_and, and_true, false_and, and_false, true_implies, forall_const, eq_self, and_self, or_true, true_or, or_self, false_or, or_false, yI_sI, yR_sI, yC_sI, yN_sI, yI_sR, yR_sR, yC_sR, yN_sR, not_true_eq_false, not_false_eq_true, false_implies, implies_true, Nat.zero_add, Nat.add_zero, Nat.le_refl, Nat.reduceSub, Int.reduceSub, Int.reduceLT, Int.sub_zero, Int.sub_self, List.getElem?_toArray, List.getElem?_cons_zero, List.getElem?_cons_succ, Int.toNat_zero, Int.toNat_one, Int.lt_irrefl, yI_sB, yR_sB, yC_sB, yN_sB, MSh_sB_eq, pE_isSold_0, stp_aload_n, pE_isSold_1, stp_getfield, qfE_34, rp_11_7, pE_isSold_4, stp_iconst, pE_isSold_5, stp_if_icmp_eq, pE_isSold_8, pE_isSold_9, stp_goto, pE_isSold_12, pE_isSold_13, stp_ireturn, ic_m1, ic_1, ic_0, nv_E_isSold, ml_E_isSold, lvE_isSold, hj]
    by_cases h1 : wI w 11 j 7 = -1 <;> simp [h1, bI]
  · cases h
abbrev lvS_isIn : Nat := 3
noncomputable def fsS_isIn : FS := fun as w => match as with
  | [.inr (.inr (some (0, 0))), .inr (.inr (some (10, j))), .inl k] => fsP (Cpl w ∧ j < cn w 17) (some (.inl (bI (decide (kdI w (wI w 123 0 j) = k)))), w)
  | _ => none
set_option maxRecDepth 100000 in
set_option maxHeartbeats 4000000 in
theorem okS_isIn (l : Launch) (G : Gc) : FsOk l G mS_isIn lvS_isIn fsS_isIn := by
  intro as w r w' h
  simp only [fsS_isIn] at h
  split at h
  · rename_i j k
    obtain ⟨⟨hC, hj⟩, h⟩ := fsP_s h
    cases h
    have hS := hC.1
    obtain ⟨hs, hc⟩ := Cpl_lot hC hj
    have e7 := hc.2.2.2.2.2.2.1
    refine Sem_of (by decide) rfl (Nat.le_of_ble_eq_true rfl) ?_
    refine wpn_ok (M := mS_isIn) (C := cenS) (X := (alk [(120, lvY_kindOf, fsY_kindOf)])) (tb := tS_isIn) (st := []) eoS (XOk_cons qmS_120 (okY_kindOf l G) XOk_nil) kS_isIn 60 _ _ _ _ _ _ ?_
    simp only [reduceCtorEq, fv0, fv1, fv2, fv3, bI_0, bI_1, bft, MSh_sI_eq, fsP_T, inL_0, inL_s, pad_0, pad_n, pad_s, wpn_s, wp1_s, lg_0, lg_s, lset_0, lset_s, kil_0, kil_s, st1_s, st2_s, isL_i, isL_l, isL_r, isL_n, spl_0, spl_s, cll_n, cll_s, catS_0, catS_s, jmp_s, alk_0, alk_s, otl_n, otl_s, List.nil_append, List.cons_append, List.contains_cons, List.contains_nil, Nat.reduceBEq, Bool.or_false, Bool.false_or, Bool.or_self, Bool.false_eq_true, Bool.true_or, Bool.or_true, if_true, if_false, ite_true, ite_false, ↓reduceIte, List.length_cons, List.length_nil, Nat.reduceAdd, Nat.reduceLT, Nat.reduceLeDiff, Nat.reduceEqDiff, Int.reduceAdd, Int.reduceLE, Int.toNat_natCast, Int.reduceToNat, Int.cast_ofNat_Int, true_and, and_true, false_and, and_false, true_implies, forall_const, eq_self, and_self, or_true, true_or, or_self, false_or, or_false, yI_sI, yR_sI, yC_sI, yN_sI, yI_sR, yR_sR, yC_sR, yN_sR, not_true_eq_false, not_false_eq_true, false_implies, implies_true, Nat.zero_add, Nat.add_zero, Nat.le_refl, Nat.reduceSub, Int.reduceSub, Int.reduceLT, Int.sub_zero, Int.sub_self, List.getElem?_toArray, List.getElem?_cons_zero, List.getElem?_cons_succ, Int.toNat_zero, Int.toNat_one, Int.lt_irrefl, yI_sB, yR_sB, yC_sB, yN_sB, MSh_sB_eq, pS_isIn_0, stp_aload_n, pS_isIn_1, stp_getfield, qfS_12, rp_0_0, ss_C0 hS, ss_R0_0 hS, ss_C1 hS, pS_isIn_4, pS_isIn_5, qfS_167, rp_10_7, pS_isIn_8, stp_invokevirtual, qmS_120, cy_Y_kindOf, pS_isIn_11, stp_iload_n, pS_isIn_12, stp_if_icmp_ne, pS_isIn_15, stp_iconst, pS_isIn_16, stp_goto, pS_isIn_19, pS_isIn_20, stp_ireturn, ic_1, ic_0, nv_S_isIn, ml_S_isIn, hs.1, e7, ruY_kindOf hS hC.2.1.2.1 hC.2.2.1, lvS_isIn, lvY_kindOf]
    by_cases q : kdI w (wI w 123 0 j) = k <;> simp [q, bI]
  · cases h
theorem ruS_isIn {w : Wd} {j : Nat} {k : Int32} (h : Cpl w) (hj : j < cn w 17) : fsS_isIn [.inr (.inr (some (0, 0))), .inr (.inr (some (10, j))), .inl k] w = some (some (.inl (bI (decide (kdI w (wI w 123 0 j) = k)))), w) := fsP_t ⟨h, hj⟩
theorem kd_at {w : Wd} {j : Nat} (h : MOk w) (hj : j < cn w 17) : kdI w (wI w 123 0 j) = if wI w 123 0 j = -1 then -1 else wI w 104 0 (wI w 123 0 j).toNatClampNeg := by
  unfold kdI
  by_cases e : wI w 123 0 j = -1
  · rw [e]
    have h14 := h.2.1.2
    have : inR (-1) 0 (wI w 13 0 3 - 1) = false := inR_1 (by decide)
    simp [this]
  · obtain ⟨p, hp, ep⟩ := MOk_at2 h hj e
    rw [if_neg e, ep, okc_inR h.2.1 (by have := h.2.1.2; omega) hp, if_pos rfl]
abbrev lvS_mayBeDriven : Nat := 4
def mbD (w : Wd) (j : Nat) : Bool := !decide (wI w 123 0 j = -1) && !decide (wI w 104 0 (wI w 123 0 j).toNatClampNeg = 3)
noncomputable def fsS_mayBeDriven : FS := fun as w => match as with
  | [.inr (.inr (some (0, 0))), .inr (.inr (some (10, j)))] => fsP (Cpl w ∧ j < cn w 17) (some (.inl (bI (mbD w j))), w)
  | _ => none
set_option maxRecDepth 100000 in
set_option maxHeartbeats 4000000 in
theorem okS_mayBeDriven (l : Launch) (G : Gc) : FsOk l G mS_mayBeDriven lvS_mayBeDriven fsS_mayBeDriven := by
  intro as w r w' h
  simp only [fsS_mayBeDriven] at h
  split at h
  · rename_i j
    obtain ⟨⟨hC, hj⟩, h⟩ := fsP_s h
    cases h
    have hS := hC.1
    obtain ⟨hs, hc⟩ := Cpl_lot hC hj
    have e8 := hc.2.2.2.2.2.2.2.1
    have ew := hc.2.2.2.2.2.2.2.2.2.2.2.2.2.2.2.2.2.2.2.2.2.2.1
    have ro : fsO_isOnWay [.inr (.inr (some (10, j)))] w = some (some (.inl (bI (!decide (wI w 124 0 j = -1)))), w) := by
      have : fsO_isOnWay [.inr (.inr (some (10, j)))] w = fsP (j < wC w 10) (some (.inl (bI (!decide (wI w 10 j 8 = -1)))), w) := rfl
      rw [this, e8]; exact fsP_t hs.1
    have rk := ruS_isIn (k := 3) hC hj
    rw [kd_at hC.2.1 hj] at rk
    refine Sem_of (by decide) rfl (Nat.le_of_ble_eq_true rfl) ?_
    refine wpn_ok (M := mS_mayBeDriven) (C := cenS) (X := (alk [(380, lvO_isOnWay, fsO_isOnWay), (148, lvS_isIn, fsS_isIn)])) (tb := tS_mayBeDriven) (st := []) eoS (XOk_cons qmS_380 (okO_isOnWay l G) (XOk_cons qmS_148 (okS_isIn l G) XOk_nil)) kS_mayBeDriven 60 _ _ _ _ _ _ ?_
    by_cases q : wI w 123 0 j = -1
    · have q2 := ew.mp q
      simp only [reduceCtorEq, fv0, fv1, fv2, fv3, bI_0, bI_1, bft, MSh_sI_eq, fsP_T, inL_0, inL_s, pad_0, pad_n, pad_s, wpn_s, wp1_s, lg_0, lg_s, lset_0, lset_s, kil_0, kil_s, st1_s, st2_s, isL_i, isL_l, isL_r, isL_n, spl_0, spl_s, cll_n, cll_s, catS_0, catS_s, jmp_s, alk_0, alk_s, otl_n, otl_s, List.nil_append, List.cons_append, List.contains_cons, List.contains_nil, Nat.reduceBEq, Bool.or_false, Bool.false_or, Bool.or_self, Bool.false_eq_true, Bool.true_or, Bool.or_true, if_true, if_false, ite_true, ite_false, ↓reduceIte, List.length_cons, List.length_nil, Nat.reduceAdd, Nat.reduceLT, Nat.reduceLeDiff, Nat.reduceEqDiff, Int.reduceAdd, Int.reduceLE, Int.toNat_natCast, Int.reduceToNat, Int.cast_ofNat_Int, true_and, and_true, false_and, and_false, true_implies, forall_const, eq_self, and_self, or_true, true_or, or_self, false_or, or_false, yI_sI, yR_sI, yC_sI, yN_sI, yI_sR, yR_sR, yC_sR, yN_sR, not_true_eq_false, not_false_eq_true, false_implies, implies_true, Nat.zero_add, Nat.add_zero, Nat.le_refl, Nat.reduceSub, Int.reduceSub, Int.reduceLT, Int.sub_zero, Int.sub_self, List.getElem?_toArray, List.getElem?_cons_zero, List.getElem?_cons_succ, Int.toNat_zero, Int.toNat_one, Int.lt_irrefl, yI_sB, yR_sB, yC_sB, yN_sB, MSh_sB_eq, pS_mayBeDriven_0, stp_aload_n, pS_mayBeDriven_1, stp_invokevirtual, qmS_380, cy_O_isOnWay, pS_mayBeDriven_4, stp_ifCond_ne, pS_mayBeDriven_7, pS_mayBeDriven_8, pS_mayBeDriven_9, stp_iconst, pS_mayBeDriven_10, qmS_148, cy_S_isIn, ss_C0 hS, pS_mayBeDriven_13, pS_mayBeDriven_16, pS_mayBeDriven_17, stp_goto, pS_mayBeDriven_20, pS_mayBeDriven_21, stp_ireturn, ic_3, ic_1, ic_0, nv_S_mayBeDriven, ml_S_mayBeDriven, hs.1, ro, q2, lvS_mayBeDriven, lvO_isOnWay, lvS_isIn, decide_false, Bool.not_false, show bI true = 1 from rfl, show ¬ (1 : Int32) = 0 by decide]
      simp [mbD, q, bI]
    · have q2 : wI w 124 0 j = -1 := Classical.byContradiction fun z => q (ew.mpr z)
      rw [if_neg q] at rk
      by_cases q3 : wI w 104 0 (wI w 123 0 j).toNatClampNeg = 3
      · simp only [q3, decide_true] at rk
        simp only [reduceCtorEq, fv0, fv1, fv2, fv3, bI_0, bI_1, bft, MSh_sI_eq, fsP_T, inL_0, inL_s, pad_0, pad_n, pad_s, wpn_s, wp1_s, lg_0, lg_s, lset_0, lset_s, kil_0, kil_s, st1_s, st2_s, isL_i, isL_l, isL_r, isL_n, spl_0, spl_s, cll_n, cll_s, catS_0, catS_s, jmp_s, alk_0, alk_s, otl_n, otl_s, List.nil_append, List.cons_append, List.contains_cons, List.contains_nil, Nat.reduceBEq, Bool.or_false, Bool.false_or, Bool.or_self, Bool.false_eq_true, Bool.true_or, Bool.or_true, if_true, if_false, ite_true, ite_false, ↓reduceIte, List.length_cons, List.length_nil, Nat.reduceAdd, Nat.reduceLT, Nat.reduceLeDiff, Nat.reduceEqDiff, Int.reduceAdd, Int.reduceLE, Int.toNat_natCast, Int.reduceToNat, Int.cast_ofNat_Int, true_and, and_true, false_and, and_false, true_implies, forall_const, eq_self, and_self, or_true, true_or, or_self, false_or, or_false, yI_sI, yR_sI, yC_sI, yN_sI, yI_sR, yR_sR, yC_sR, yN_sR, not_true_eq_false, not_false_eq_true, false_implies, implies_true, Nat.zero_add, Nat.add_zero, Nat.le_refl, Nat.reduceSub, Int.reduceSub, Int.reduceLT, Int.sub_zero, Int.sub_self, List.getElem?_toArray, List.getElem?_cons_zero, List.getElem?_cons_succ, Int.toNat_zero, Int.toNat_one, Int.lt_irrefl, yI_sB, yR_sB, yC_sB, yN_sB, MSh_sB_eq, pS_mayBeDriven_0, stp_aload_n, pS_mayBeDriven_1, stp_invokevirtual, qmS_380, cy_O_isOnWay, pS_mayBeDriven_4, stp_ifCond_ne, pS_mayBeDriven_7, pS_mayBeDriven_8, pS_mayBeDriven_9, stp_iconst, pS_mayBeDriven_10, qmS_148, cy_S_isIn, ss_C0 hS, pS_mayBeDriven_13, pS_mayBeDriven_16, pS_mayBeDriven_17, stp_goto, pS_mayBeDriven_20, pS_mayBeDriven_21, stp_ireturn, ic_3, ic_1, ic_0, nv_S_mayBeDriven, ml_S_mayBeDriven, hs.1, ro, q2, rk, lvS_mayBeDriven, lvO_isOnWay, lvS_isIn, decide_true, Bool.not_true, show bI true = 1 from rfl, show bI false = 0 from rfl, show ¬ (1 : Int32) = 0 by decide]
        simp [mbD, q, q3, bI]
      · simp only [q3, decide_false] at rk
        simp only [reduceCtorEq, fv0, fv1, fv2, fv3, bI_0, bI_1, bft, MSh_sI_eq, fsP_T, inL_0, inL_s, pad_0, pad_n, pad_s, wpn_s, wp1_s, lg_0, lg_s, lset_0, lset_s, kil_0, kil_s, st1_s, st2_s, isL_i, isL_l, isL_r, isL_n, spl_0, spl_s, cll_n, cll_s, catS_0, catS_s, jmp_s, alk_0, alk_s, otl_n, otl_s, List.nil_append, List.cons_append, List.contains_cons, List.contains_nil, Nat.reduceBEq, Bool.or_false, Bool.false_or, Bool.or_self, Bool.false_eq_true, Bool.true_or, Bool.or_true, if_true, if_false, ite_true, ite_false, ↓reduceIte, List.length_cons, List.length_nil, Nat.reduceAdd, Nat.reduceLT, Nat.reduceLeDiff, Nat.reduceEqDiff, Int.reduceAdd, Int.reduceLE, Int.toNat_natCast, Int.reduceToNat, Int.cast_ofNat_Int, true_and, and_true, false_and, and_false, true_implies, forall_const, eq_self, and_self, or_true, true_or, or_self, false_or, or_false, yI_sI, yR_sI, yC_sI, yN_sI, yI_sR, yR_sR, yC_sR, yN_sR, not_true_eq_false, not_false_eq_true, false_implies, implies_true, Nat.zero_add, Nat.add_zero, Nat.le_refl, Nat.reduceSub, Int.reduceSub, Int.reduceLT, Int.sub_zero, Int.sub_self, List.getElem?_toArray, List.getElem?_cons_zero, List.getElem?_cons_succ, Int.toNat_zero, Int.toNat_one, Int.lt_irrefl, yI_sB, yR_sB, yC_sB, yN_sB, MSh_sB_eq, pS_mayBeDriven_0, stp_aload_n, pS_mayBeDriven_1, stp_invokevirtual, qmS_380, cy_O_isOnWay, pS_mayBeDriven_4, stp_ifCond_ne, pS_mayBeDriven_7, pS_mayBeDriven_8, pS_mayBeDriven_9, stp_iconst, pS_mayBeDriven_10, qmS_148, cy_S_isIn, ss_C0 hS, pS_mayBeDriven_13, pS_mayBeDriven_16, pS_mayBeDriven_17, stp_goto, pS_mayBeDriven_20, pS_mayBeDriven_21, stp_ireturn, ic_3, ic_1, ic_0, nv_S_mayBeDriven, ml_S_mayBeDriven, hs.1, ro, q2, rk, lvS_mayBeDriven, lvO_isOnWay, lvS_isIn, decide_true, Bool.not_true, show bI true = 1 from rfl, show bI false = 0 from rfl]
        simp [mbD, q, q3, bI]
  · cases h
theorem ruS_mayBeDriven {w : Wd} {j : Nat} (h : Cpl w) (hj : j < cn w 17) : fsS_mayBeDriven [.inr (.inr (some (0, 0))), .inr (.inr (some (10, j)))] w = some (some (.inl (bI (mbD w j))), w) := fsP_t ⟨h, hj⟩
