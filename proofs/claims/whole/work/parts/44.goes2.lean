/-! goes of the reference -/
def goF (w : Wd) : Nat → Bool := fun d => mbB w (wI w 13 0 2 + nI d)
/-- how long a drive must wait -/
def goD (w : Wd) : Option Nat := fstN (goF w) 4000000
def goT (w : Wd) : Int32 := wI w 13 0 2 + nI ((goD w).getD 0)
def goU (w : Wd) (t : Int32) (i : Nat) : Wd := sI (sB (sB (sB w 114 0 (fun q => if cn w 13 ≤ q ∧ q < cn w 13 + i then wI w 111 0 (q - cn w 13) else wI w 114 0 q)) 115 0 (fun q => if cn w 13 ≤ q ∧ q < cn w 13 + i then t + ahI w (q - cn w 13) else wI w 115 0 q)) 116 0 (fun q => if cn w 13 ≤ q ∧ q < cn w 13 + i then t + ahI w (q - cn w 13 + 1) else wI w 116 0 q)) 13 0 13 (nI (cn w 13 + i))
theorem goU_I (w : Wd) (t : Int32) (i t' k q : Nat) : wI (goU w t i) t' k q = if t' = 13 ∧ k = 0 ∧ q = 13 then nI (cn w 13 + i) else if t' = 116 ∧ k = 0 then (if cn w 13 ≤ q ∧ q < cn w 13 + i then t + ahI w (q - cn w 13 + 1) else wI w 116 0 q) else if t' = 115 ∧ k = 0 then (if cn w 13 ≤ q ∧ q < cn w 13 + i then t + ahI w (q - cn w 13) else wI w 115 0 q) else if t' = 114 ∧ k = 0 then (if cn w 13 ≤ q ∧ q < cn w 13 + i then wI w 111 0 (q - cn w 13) else wI w 114 0 q) else wI w t' k q := (rfl)
theorem goU_R (w : Wd) (t : Int32) (i t' k q : Nat) : wR (goU w t i) t' k q = wR w t' k q := (rfl)
theorem goU_C (w : Wd) (t : Int32) (i t' : Nat) : wC (goU w t i) t' = wC w t' := (rfl)
theorem goU_N (w : Wd) (t : Int32) (i t' k : Nat) : wN (goU w t i) t' k = wN w t' k := (rfl)
theorem goU_0 {w : Wd} (t : Int32) (h13 : okc w 13 500) : goU w t 0 = w := by
  refine Wd_eq (fun t' k q => ?_) rfl
  rw [goU_I]
  have e : ∀ q, (cn w 13 ≤ q ∧ q < cn w 13 + 0) = False := fun q => by simp
  simp only [e, if_false]
  split
  · rename_i c
    rw [c.1, c.2.1, c.2.2, Nat.add_zero]
    exact h13.1.symm
  · split
    · rename_i c
      simp [c]
    · split
      · rename_i c
        simp [c]
      · split
        · rename_i c
          simp [c]
        · rfl
theorem goU_s (w : Wd) (t : Int32) (i : Nat) : sI (sI (sI (sI (goU w t i) 114 0 (cn w 13 + i) (wI w 111 0 i)) 115 0 (cn w 13 + i) (t + ahI w i)) 116 0 (cn w 13 + i) (t + ahI w (i + 1))) 13 0 13 (nI (cn w 13 + i + 1)) = goU w t (i + 1) := by
  refine Wd_eq (fun t' k q => ?_) rfl
  simp only [goU_I, yI_sI]
  by_cases c : t' = 13 ∧ k = 0 ∧ q = 13
  · simp only [c, and_self, if_true]
    rfl
  · simp only [c, if_false]
    by_cases e : q = cn w 13 + i
    · subst e
      have z : cn w 13 ≤ cn w 13 + i ∧ cn w 13 + i < cn w 13 + (i + 1) := by omega
      have z2 : cn w 13 + i - cn w 13 = i := by omega
      simp only [z, z2, and_self, if_true, and_true]
      by_cases c1 : t' = 116 ∧ k = 0
      · simp [c1]
      · by_cases c2 : t' = 115 ∧ k = 0
        · simp [c1, c2]
        · by_cases c3 : t' = 114 ∧ k = 0
          · simp [c1, c2, c3]
          · simp [c1, c2, c3]
    · have z : (cn w 13 ≤ q ∧ q < cn w 13 + (i + 1)) = (cn w 13 ≤ q ∧ q < cn w 13 + i) := by simp only [eq_iff_iff]; omega
      simp only [z, e, and_false, if_false]
theorem ad_n1 (x : Int32) (d : Nat) : x + nI d + 1 = x + nI (d + 1) := by rw [Int32.add_assoc, nI_1]
theorem ahI_s (w : Wd) (x : Int32) (i : Nat) : x + ahI w i + wyT w i = x + ahI w (i + 1) := by simp only [ahI, sumN]; rw [Int32.add_assoc]
section
variable {l : Launch} {G : Gc} {n : Nat} {Q : Option AV → Wd → Prop} {w : Wd}
set_option maxRecDepth 100000 in
set_option maxHeartbeats 4000000 in
theorem lpM_goesA {d0 : Nat} (hl2 : 2 < n) (hS : MSh w) (h13 : okc w 13 500) (hW : wyOk w) (hd : goD w = some d0) (hX : WP l G mM_goes n 0 0 Q 19 [some aM, some (.inl (goT w)), none] [] w 0 0) : ∀ j d, d + j = d0 → WP l G mM_goes n 0 0 Q 5 [some aM, some (.inl (wI w 13 0 2 + nI d)), none] [] w 0 0
  | j, d, hj => by
    have ru := fun t => ruM_mayBegin (t := t) hS h13 hW
    obtain ⟨f1, f2⟩ := fstN_s hd
    cases j with
    | zero =>
      have e : d = d0 := hj
      subst e
      have f2 : mbB w (wI w 13 0 2 + nI d) = true := f2
      rw [goT, hd] at hX
      refine wpn_ok (M := mM_goes) (C := cenM) (X := (alk [(203, lvM_mayBegin, fsM_mayBegin)])) (tb := tM_goes) (st := [5,19]) eoM (XOk_cons qmM_203 (okM_mayBegin l G) XOk_nil) kM_goes 60 _ _ _ _ _ _ ?_
      simp only [reduceCtorEq, fv0, fv1, fv2, fv3, bI_0, bI_1, bft, MSh_sI_eq, fsP_T, inL_0, inL_s, pad_0, pad_n, pad_s, wpn_s, wp1_s, lg_0, lg_s, lset_0, lset_s, kil_0, kil_s, st1_s, st2_s, isL_i, isL_l, isL_r, isL_n, spl_0, spl_s, cll_n, cll_s, catS_0, catS_s, jmp_s, alk_0, alk_s, otl_n, otl_s, List.nil_append, List.cons_append, List.contains_cons, List.contains_nil, Nat.reduceBEq, Bool.or_false, Bool.false_or, Bool.or_self, Bool.false_eq_true, Bool.true_or, Bool.or_true, if_true, if_false, ite_true, ite_false, ↓reduceIte, List.length_cons, List.length_nil, Nat.reduceAdd, Nat.reduceLT, Nat.reduceLeDiff, Nat.reduceEqDiff, Int.reduceAdd, Int.reduceLE, Int.toNat_natCast, Int.reduceToNat, Int.cast_ofNat_Int, true_and, and_true, false_and, and_false, true_implies, forall_const, eq_self, and_self, or_true, true_or, or_self, false_or, or_false, yI_sI, yR_sI, yC_sI, yN_sI, yI_sR, yR_sR, yC_sR, yN_sR, not_true_eq_false, not_false_eq_true, false_implies, implies_true, Nat.zero_add, Nat.add_zero, Nat.le_refl, Nat.reduceSub, Int.reduceSub, Int.reduceLT, Int.sub_zero, Int.sub_self, List.getElem?_toArray, List.getElem?_cons_zero, List.getElem?_cons_succ, Int.toNat_zero, Int.toNat_one, Int.lt_irrefl, yI_sB, yR_sB, yC_sB, yN_sB, MSh_sB_eq, pM_goes_0, stp_aload_n, pM_goes_1, stp_getfield, qfM_200, rp_13_2, ms_C13 hS, pM_goes_4, stp_istore_n, pM_goes_5, pM_goes_6, stp_iload_n, pM_goes_7, stp_invokevirtual, qmM_203, cy_M_mayBegin, pM_goes_10, stp_ifCond_ne, pM_goes_13, stp_iinc, pM_goes_16, stp_goto, pM_goes_19, stp_iconst, pM_goes_20, pM_goes_21, pM_goes_22, pM_goes_23, qfM_184, rp_13_12, pM_goes_26, stp_if_icmp_ge, pM_goes_29, pM_goes_30, qfM_34, rp_13_14, ms_R14 hS, ms_C114 hS, ms_N114 hS, pM_goes_33, pM_goes_34, qfM_194, rp_13_13, pM_goes_37, pM_goes_38, qfM_31, rp_13_11, ms_R11 hS, ms_C111 hS, ms_N111 hS, pM_goes_41, pM_goes_42, stp_iaload, pM_goes_43, stp_iastore, pM_goes_44, pM_goes_45, qfM_37, rp_13_15, ms_R15 hS, ms_C115 hS, ms_N115 hS, pM_goes_48, pM_goes_49, pM_goes_52, pM_goes_53, pM_goes_54, pM_goes_55, pM_goes_56, qfM_25, rp_13_9, ms_R9 hS, ms_C109 hS, ms_N109 hS, pM_goes_59, pM_goes_60, pM_goes_63, pM_goes_64, pM_goes_65, pM_goes_66, stp_iadd, pM_goes_67, pM_goes_68, pM_goes_69, qfM_40, rp_13_16, ms_R16 hS, ms_C116 hS, ms_N116 hS, pM_goes_72, pM_goes_73, pM_goes_76, pM_goes_77, pM_goes_78, pM_goes_79, stp_dup, pM_goes_80, pM_goes_83, pM_goes_84, pM_goes_85, stp_putfield, fi_13_13, nr_13_13, pM_goes_88, pM_goes_91, pM_goes_94, pM_goes_95, stp_ireturn, ic_1, ic_0, nv_M_goes, ml_M_goes, ru, f2, lvM_mayBegin, hl2]
      exact hX
    | succ j =>
      have ih := lpM_goesA hl2 hS h13 hW hd hX j (d + 1) (by omega)
      have f3 : mbB w (wI w 13 0 2 + nI d) = false := fstN_bf hd d (by omega)
      refine wpn_ok (M := mM_goes) (C := cenM) (X := (alk [(203, lvM_mayBegin, fsM_mayBegin)])) (tb := tM_goes) (st := [5,19]) eoM (XOk_cons qmM_203 (okM_mayBegin l G) XOk_nil) kM_goes 60 _ _ _ _ _ _ ?_
      simp only [reduceCtorEq, fv0, fv1, fv2, fv3, bI_0, bI_1, bft, MSh_sI_eq, fsP_T, inL_0, inL_s, pad_0, pad_n, pad_s, wpn_s, wp1_s, lg_0, lg_s, lset_0, lset_s, kil_0, kil_s, st1_s, st2_s, isL_i, isL_l, isL_r, isL_n, spl_0, spl_s, cll_n, cll_s, catS_0, catS_s, jmp_s, alk_0, alk_s, otl_n, otl_s, List.nil_append, List.cons_append, List.contains_cons, List.contains_nil, Nat.reduceBEq, Bool.or_false, Bool.false_or, Bool.or_self, Bool.false_eq_true, Bool.true_or, Bool.or_true, if_true, if_false, ite_true, ite_false, ↓reduceIte, List.length_cons, List.length_nil, Nat.reduceAdd, Nat.reduceLT, Nat.reduceLeDiff, Nat.reduceEqDiff, Int.reduceAdd, Int.reduceLE, Int.toNat_natCast, Int.reduceToNat, Int.cast_ofNat_Int, true_and, and_true, false_and, and_false, true_implies, forall_const, eq_self, and_self, or_true, true_or, or_self, false_or, or_false, yI_sI, yR_sI, yC_sI, yN_sI, yI_sR, yR_sR, yC_sR, yN_sR, not_true_eq_false, not_false_eq_true, false_implies, implies_true, Nat.zero_add, Nat.add_zero, Nat.le_refl, Nat.reduceSub, Int.reduceSub, Int.reduceLT, Int.sub_zero, Int.sub_self, List.getElem?_toArray, List.getElem?_cons_zero, List.getElem?_cons_succ, Int.toNat_zero, Int.toNat_one, Int.lt_irrefl, yI_sB, yR_sB, yC_sB, yN_sB, MSh_sB_eq, pM_goes_0, stp_aload_n, pM_goes_1, stp_getfield, qfM_200, rp_13_2, ms_C13 hS, pM_goes_4, stp_istore_n, pM_goes_5, pM_goes_6, stp_iload_n, pM_goes_7, stp_invokevirtual, qmM_203, cy_M_mayBegin, pM_goes_10, stp_ifCond_ne, pM_goes_13, stp_iinc, pM_goes_16, stp_goto, pM_goes_19, stp_iconst, pM_goes_20, pM_goes_21, pM_goes_22, pM_goes_23, qfM_184, rp_13_12, pM_goes_26, stp_if_icmp_ge, pM_goes_29, pM_goes_30, qfM_34, rp_13_14, ms_R14 hS, ms_C114 hS, ms_N114 hS, pM_goes_33, pM_goes_34, qfM_194, rp_13_13, pM_goes_37, pM_goes_38, qfM_31, rp_13_11, ms_R11 hS, ms_C111 hS, ms_N111 hS, pM_goes_41, pM_goes_42, stp_iaload, pM_goes_43, stp_iastore, pM_goes_44, pM_goes_45, qfM_37, rp_13_15, ms_R15 hS, ms_C115 hS, ms_N115 hS, pM_goes_48, pM_goes_49, pM_goes_52, pM_goes_53, pM_goes_54, pM_goes_55, pM_goes_56, qfM_25, rp_13_9, ms_R9 hS, ms_C109 hS, ms_N109 hS, pM_goes_59, pM_goes_60, pM_goes_63, pM_goes_64, pM_goes_65, pM_goes_66, stp_iadd, pM_goes_67, pM_goes_68, pM_goes_69, qfM_40, rp_13_16, ms_R16 hS, ms_C116 hS, ms_N116 hS, pM_goes_72, pM_goes_73, pM_goes_76, pM_goes_77, pM_goes_78, pM_goes_79, stp_dup, pM_goes_80, pM_goes_83, pM_goes_84, pM_goes_85, stp_putfield, fi_13_13, nr_13_13, pM_goes_88, pM_goes_91, pM_goes_94, pM_goes_95, stp_ireturn, ic_1, ic_0, nv_M_goes, ml_M_goes, ru, f3, lvM_mayBegin, hl2, ad_n1]
      exact ih
set_option maxRecDepth 100000 in
set_option maxHeartbeats 4000000 in
theorem lpM_goesB {t : Int32} (hS : MSh w) (h13 : okc w 13 500) (hW : wyOk w) (hr : cn w 13 + cn w 12 ≤ 500) (hQ : Q (some (.inl (t + ahI w (cn w 12)))) (goU w t (cn w 12))) : ∀ j i, i + j = cn w 12 → WP l G mM_goes n 0 0 Q 21 [some aM, some (.inl (t + ahI w i)), some (.inl (nI i))] [] (goU w t i) 0 0
  | 0, i, hi => by
    have e : i = cn w 12 := hi
    subst e
    have this : wI w 13 0 12 ≤ nI (cn w 12) := by rw [hW.1.1]; exact Int32.le_refl _
    refine wpn_ok (M := mM_goes) (C := cenM) (X := (alk [])) (tb := tM_goes) (st := [21]) eoM XOk_nil kM_goes 60 _ _ _ _ _ _ ?_
    simp only [reduceCtorEq, fv0, fv1, fv2, fv3, bI_0, bI_1, bft, MSh_sI_eq, fsP_T, inL_0, inL_s, pad_0, pad_n, pad_s, wpn_s, wp1_s, lg_0, lg_s, lset_0, lset_s, kil_0, kil_s, st1_s, st2_s, isL_i, isL_l, isL_r, isL_n, spl_0, spl_s, cll_n, cll_s, catS_0, catS_s, jmp_s, alk_0, alk_s, otl_n, otl_s, List.nil_append, List.cons_append, List.contains_cons, List.contains_nil, Nat.reduceBEq, Bool.or_false, Bool.false_or, Bool.or_self, Bool.false_eq_true, Bool.true_or, Bool.or_true, if_true, if_false, ite_true, ite_false, ↓reduceIte, List.length_cons, List.length_nil, Nat.reduceAdd, Nat.reduceLT, Nat.reduceLeDiff, Nat.reduceEqDiff, Int.reduceAdd, Int.reduceLE, Int.toNat_natCast, Int.reduceToNat, Int.cast_ofNat_Int, true_and, and_true, false_and, and_false, true_implies, forall_const, eq_self, and_self, or_true, true_or, or_self, false_or, or_false, yI_sI, yR_sI, yC_sI, yN_sI, yI_sR, yR_sR, yC_sR, yN_sR, not_true_eq_false, not_false_eq_true, false_implies, implies_true, Nat.zero_add, Nat.add_zero, Nat.le_refl, Nat.reduceSub, Int.reduceSub, Int.reduceLT, Int.sub_zero, Int.sub_self, List.getElem?_toArray, List.getElem?_cons_zero, List.getElem?_cons_succ, Int.toNat_zero, Int.toNat_one, Int.lt_irrefl, yI_sB, yR_sB, yC_sB, yN_sB, MSh_sB_eq, pM_goes_0, stp_aload_n, pM_goes_1, stp_getfield, qfM_200, rp_13_2, ms_C13 hS, pM_goes_4, stp_istore_n, pM_goes_5, pM_goes_6, stp_iload_n, pM_goes_7, stp_invokevirtual, qmM_203, cy_M_mayBegin, pM_goes_10, stp_ifCond_ne, pM_goes_13, stp_iinc, pM_goes_16, stp_goto, pM_goes_19, stp_iconst, pM_goes_20, pM_goes_21, pM_goes_22, pM_goes_23, qfM_184, rp_13_12, pM_goes_26, stp_if_icmp_ge, pM_goes_29, pM_goes_30, qfM_34, rp_13_14, ms_R14 hS, ms_C114 hS, ms_N114 hS, pM_goes_33, pM_goes_34, qfM_194, rp_13_13, pM_goes_37, pM_goes_38, qfM_31, rp_13_11, ms_R11 hS, ms_C111 hS, ms_N111 hS, pM_goes_41, pM_goes_42, stp_iaload, pM_goes_43, stp_iastore, pM_goes_44, pM_goes_45, qfM_37, rp_13_15, ms_R15 hS, ms_C115 hS, ms_N115 hS, pM_goes_48, pM_goes_49, pM_goes_52, pM_goes_53, pM_goes_54, pM_goes_55, pM_goes_56, qfM_25, rp_13_9, ms_R9 hS, ms_C109 hS, ms_N109 hS, pM_goes_59, pM_goes_60, pM_goes_63, pM_goes_64, pM_goes_65, pM_goes_66, stp_iadd, pM_goes_67, pM_goes_68, pM_goes_69, qfM_40, rp_13_16, ms_R16 hS, ms_C116 hS, ms_N116 hS, pM_goes_72, pM_goes_73, pM_goes_76, pM_goes_77, pM_goes_78, pM_goes_79, stp_dup, pM_goes_80, pM_goes_83, pM_goes_84, pM_goes_85, stp_putfield, fi_13_13, nr_13_13, pM_goes_88, pM_goes_91, pM_goes_94, pM_goes_95, stp_ireturn, ic_1, ic_0, nv_M_goes, ml_M_goes, goU_I, goU_R, goU_C, goU_N, this]
    exact hQ
  | j + 1, i, hi => by
    have ih := lpM_goesB hS h13 hW hr hQ j (i + 1) (by omega)
    have hb := hW.1.2
    have hv := hW.2 i (by omega)
    have h1 : ¬ wI w 13 0 12 ≤ nI i := by rw [hW.1.1]; exact nI_ge (by omega) (by omega)
    have h2 : vp_in (nI i) 14 := vp_in_nI (by omega) (by omega)
    have h3 : (nI i).toNatClampNeg = i := nI_clamp (by omega)
    have h4 : vp_in (nI (cn w 13 + i)) 500 := vp_in_nI (by omega) (by omega)
    have h5 : (nI (cn w 13 + i)).toNatClampNeg = cn w 13 + i := nI_clamp (by omega)
    rw [← goU_s, ← ahI_s, wyT] at ih
    refine wpn_ok (M := mM_goes) (C := cenM) (X := (alk [])) (tb := tM_goes) (st := [21]) eoM XOk_nil kM_goes 60 _ _ _ _ _ _ ?_
    simp only [reduceCtorEq, fv0, fv1, fv2, fv3, bI_0, bI_1, bft, MSh_sI_eq, fsP_T, inL_0, inL_s, pad_0, pad_n, pad_s, wpn_s, wp1_s, lg_0, lg_s, lset_0, lset_s, kil_0, kil_s, st1_s, st2_s, isL_i, isL_l, isL_r, isL_n, spl_0, spl_s, cll_n, cll_s, catS_0, catS_s, jmp_s, alk_0, alk_s, otl_n, otl_s, List.nil_append, List.cons_append, List.contains_cons, List.contains_nil, Nat.reduceBEq, Bool.or_false, Bool.false_or, Bool.or_self, Bool.false_eq_true, Bool.true_or, Bool.or_true, if_true, if_false, ite_true, ite_false, ↓reduceIte, List.length_cons, List.length_nil, Nat.reduceAdd, Nat.reduceLT, Nat.reduceLeDiff, Nat.reduceEqDiff, Int.reduceAdd, Int.reduceLE, Int.toNat_natCast, Int.reduceToNat, Int.cast_ofNat_Int, true_and, and_true, false_and, and_false, true_implies, forall_const, eq_self, and_self, or_true, true_or, or_self, false_or, or_false, yI_sI, yR_sI, yC_sI, yN_sI, yI_sR, yR_sR, yC_sR, yN_sR, not_true_eq_false, not_false_eq_true, false_implies, implies_true, Nat.zero_add, Nat.add_zero, Nat.le_refl, Nat.reduceSub, Int.reduceSub, Int.reduceLT, Int.sub_zero, Int.sub_self, List.getElem?_toArray, List.getElem?_cons_zero, List.getElem?_cons_succ, Int.toNat_zero, Int.toNat_one, Int.lt_irrefl, yI_sB, yR_sB, yC_sB, yN_sB, MSh_sB_eq, pM_goes_0, stp_aload_n, pM_goes_1, stp_getfield, qfM_200, rp_13_2, ms_C13 hS, pM_goes_4, stp_istore_n, pM_goes_5, pM_goes_6, stp_iload_n, pM_goes_7, stp_invokevirtual, qmM_203, cy_M_mayBegin, pM_goes_10, stp_ifCond_ne, pM_goes_13, stp_iinc, pM_goes_16, stp_goto, pM_goes_19, stp_iconst, pM_goes_20, pM_goes_21, pM_goes_22, pM_goes_23, qfM_184, rp_13_12, pM_goes_26, stp_if_icmp_ge, pM_goes_29, pM_goes_30, qfM_34, rp_13_14, ms_R14 hS, ms_C114 hS, ms_N114 hS, pM_goes_33, pM_goes_34, qfM_194, rp_13_13, pM_goes_37, pM_goes_38, qfM_31, rp_13_11, ms_R11 hS, ms_C111 hS, ms_N111 hS, pM_goes_41, pM_goes_42, stp_iaload, pM_goes_43, stp_iastore, pM_goes_44, pM_goes_45, qfM_37, rp_13_15, ms_R15 hS, ms_C115 hS, ms_N115 hS, pM_goes_48, pM_goes_49, pM_goes_52, pM_goes_53, pM_goes_54, pM_goes_55, pM_goes_56, qfM_25, rp_13_9, ms_R9 hS, ms_C109 hS, ms_N109 hS, pM_goes_59, pM_goes_60, pM_goes_63, pM_goes_64, pM_goes_65, pM_goes_66, stp_iadd, pM_goes_67, pM_goes_68, pM_goes_69, qfM_40, rp_13_16, ms_R16 hS, ms_C116 hS, ms_N116 hS, pM_goes_72, pM_goes_73, pM_goes_76, pM_goes_77, pM_goes_78, pM_goes_79, stp_dup, pM_goes_80, pM_goes_83, pM_goes_84, pM_goes_85, stp_putfield, fi_13_13, nr_13_13, pM_goes_88, pM_goes_91, pM_goes_94, pM_goes_95, stp_ireturn, ic_1, ic_0, nv_M_goes, ml_M_goes, goU_I, goU_R, goU_C, goU_N, h1, h2, h3, h4, h5, hv, nI_1]
    exact ih
end
abbrev lvM_goes : Nat := 3
noncomputable def fsM_goes : FS := fun as w => match as with
  | [.inr (.inr (some (13, 0)))] => fsP (MSh w ∧ okc w 13 500 ∧ wyOk w ∧ cn w 13 + cn w 12 ≤ 500 ∧ ∃ d, goD w = some d) (some (.inl (goT w + ahI w (cn w 12))), goU w (goT w) (cn w 12))
  | _ => none
set_option maxRecDepth 100000 in
set_option maxHeartbeats 4000000 in
theorem okM_goes (l : Launch) (G : Gc) : FsOk l G mM_goes lvM_goes fsM_goes := by
  intro as w r w' h
  simp only [fsM_goes] at h
  split at h
  · obtain ⟨⟨hS, h13, hW, hr, d0, hd⟩, h⟩ := fsP_s h
    cases h
    refine Sem_of (by decide) rfl (Nat.le_of_ble_eq_true rfl) ?_
    refine wpn_ok (M := mM_goes) (C := cenM) (X := (alk [])) (tb := tM_goes) (st := [5]) eoM XOk_nil kM_goes 60 _ _ _ _ _ _ ?_
    simp only [reduceCtorEq, fv0, fv1, fv2, fv3, bI_0, bI_1, bft, MSh_sI_eq, fsP_T, inL_0, inL_s, pad_0, pad_n, pad_s, wpn_s, wp1_s, lg_0, lg_s, lset_0, lset_s, kil_0, kil_s, st1_s, st2_s, isL_i, isL_l, isL_r, isL_n, spl_0, spl_s, cll_n, cll_s, catS_0, catS_s, jmp_s, alk_0, alk_s, otl_n, otl_s, List.nil_append, List.cons_append, List.contains_cons, List.contains_nil, Nat.reduceBEq, Bool.or_false, Bool.false_or, Bool.or_self, Bool.false_eq_true, Bool.true_or, Bool.or_true, if_true, if_false, ite_true, ite_false, ↓reduceIte, List.length_cons, List.length_nil, Nat.reduceAdd, Nat.reduceLT, Nat.reduceLeDiff, Nat.reduceEqDiff, Int.reduceAdd, Int.reduceLE, Int.toNat_natCast, Int.reduceToNat, Int.cast_ofNat_Int, true_and, and_true, false_and, and_false, true_implies, forall_const, eq_self, and_self, or_true, true_or, or_self, false_or, or_false, yI_sI, yR_sI, yC_sI, yN_sI, yI_sR, yR_sR, yC_sR, yN_sR, not_true_eq_false, not_false_eq_true, false_implies, implies_true, Nat.zero_add, Nat.add_zero, Nat.le_refl, Nat.reduceSub, Int.reduceSub, Int.reduceLT, Int.sub_zero, Int.sub_self, List.getElem?_toArray, List.getElem?_cons_zero, List.getElem?_cons_succ, Int.toNat_zero, Int.toNat_one, Int.lt_irrefl, yI_sB, yR_sB, yC_sB, yN_sB, MSh_sB_eq, pM_goes_0, stp_aload_n, pM_goes_1, stp_getfield, qfM_200, rp_13_2, ms_C13 hS, pM_goes_4, stp_istore_n, pM_goes_5, pM_goes_6, stp_iload_n, pM_goes_7, stp_invokevirtual, qmM_203, cy_M_mayBegin, pM_goes_10, stp_ifCond_ne, pM_goes_13, stp_iinc, pM_goes_16, stp_goto, pM_goes_19, stp_iconst, pM_goes_20, pM_goes_21, pM_goes_22, pM_goes_23, qfM_184, rp_13_12, pM_goes_26, stp_if_icmp_ge, pM_goes_29, pM_goes_30, qfM_34, rp_13_14, ms_R14 hS, ms_C114 hS, ms_N114 hS, pM_goes_33, pM_goes_34, qfM_194, rp_13_13, pM_goes_37, pM_goes_38, qfM_31, rp_13_11, ms_R11 hS, ms_C111 hS, ms_N111 hS, pM_goes_41, pM_goes_42, stp_iaload, pM_goes_43, stp_iastore, pM_goes_44, pM_goes_45, qfM_37, rp_13_15, ms_R15 hS, ms_C115 hS, ms_N115 hS, pM_goes_48, pM_goes_49, pM_goes_52, pM_goes_53, pM_goes_54, pM_goes_55, pM_goes_56, qfM_25, rp_13_9, ms_R9 hS, ms_C109 hS, ms_N109 hS, pM_goes_59, pM_goes_60, pM_goes_63, pM_goes_64, pM_goes_65, pM_goes_66, stp_iadd, pM_goes_67, pM_goes_68, pM_goes_69, qfM_40, rp_13_16, ms_R16 hS, ms_C116 hS, ms_N116 hS, pM_goes_72, pM_goes_73, pM_goes_76, pM_goes_77, pM_goes_78, pM_goes_79, stp_dup, pM_goes_80, pM_goes_83, pM_goes_84, pM_goes_85, stp_putfield, fi_13_13, nr_13_13, pM_goes_88, pM_goes_91, pM_goes_94, pM_goes_95, stp_ireturn, ic_1, ic_0, nv_M_goes, ml_M_goes]
    have := lpM_goesA (l := l) (G := G) (n := lvM_goes) (Q := fun r2 w2 => r2 = some (.inl (goT w + ahI w (cn w 12))) ∧ w2 = goU w (goT w) (cn w 12)) (by decide) hS h13 hW hd ?_ d0 0 (by omega)
    · rw [show wI w 13 0 2 + nI 0 = wI w 13 0 2 by rw [nI_0]; simp] at this
      exact this
    · refine wpn_ok (M := mM_goes) (C := cenM) (X := (alk [])) (tb := tM_goes) (st := [21]) eoM XOk_nil kM_goes 60 _ _ _ _ _ _ ?_
      simp only [reduceCtorEq, fv0, fv1, fv2, fv3, bI_0, bI_1, bft, MSh_sI_eq, fsP_T, inL_0, inL_s, pad_0, pad_n, pad_s, wpn_s, wp1_s, lg_0, lg_s, lset_0, lset_s, kil_0, kil_s, st1_s, st2_s, isL_i, isL_l, isL_r, isL_n, spl_0, spl_s, cll_n, cll_s, catS_0, catS_s, jmp_s, alk_0, alk_s, otl_n, otl_s, List.nil_append, List.cons_append, List.contains_cons, List.contains_nil, Nat.reduceBEq, Bool.or_false, Bool.false_or, Bool.or_self, Bool.false_eq_true, Bool.true_or, Bool.or_true, if_true, if_false, ite_true, ite_false, ↓reduceIte, List.length_cons, List.length_nil, Nat.reduceAdd, Nat.reduceLT, Nat.reduceLeDiff, Nat.reduceEqDiff, Int.reduceAdd, Int.reduceLE, Int.toNat_natCast, Int.reduceToNat, Int.cast_ofNat_Int, true_and, and_true, false_and, and_false, true_implies, forall_const, eq_self, and_self, or_true, true_or, or_self, false_or, or_false, yI_sI, yR_sI, yC_sI, yN_sI, yI_sR, yR_sR, yC_sR, yN_sR, not_true_eq_false, not_false_eq_true, false_implies, implies_true, Nat.zero_add, Nat.add_zero, Nat.le_refl, Nat.reduceSub, Int.reduceSub, Int.reduceLT, Int.sub_zero, Int.sub_self, List.getElem?_toArray, List.getElem?_cons_zero, List.getElem?_cons_succ, Int.toNat_zero, Int.toNat_one, Int.lt_irrefl, yI_sB, yR_sB, yC_sB, yN_sB, MSh_sB_eq, pM_goes_0, stp_aload_n, pM_goes_1, stp_getfield, qfM_200, rp_13_2, ms_C13 hS, pM_goes_4, stp_istore_n, pM_goes_5, pM_goes_6, stp_iload_n, pM_goes_7, stp_invokevirtual, qmM_203, cy_M_mayBegin, pM_goes_10, stp_ifCond_ne, pM_goes_13, stp_iinc, pM_goes_16, stp_goto, pM_goes_19, stp_iconst, pM_goes_20, pM_goes_21, pM_goes_22, pM_goes_23, qfM_184, rp_13_12, pM_goes_26, stp_if_icmp_ge, pM_goes_29, pM_goes_30, qfM_34, rp_13_14, ms_R14 hS, ms_C114 hS, ms_N114 hS, pM_goes_33, pM_goes_34, qfM_194, rp_13_13, pM_goes_37, pM_goes_38, qfM_31, rp_13_11, ms_R11 hS, ms_C111 hS, ms_N111 hS, pM_goes_41, pM_goes_42, stp_iaload, pM_goes_43, stp_iastore, pM_goes_44, pM_goes_45, qfM_37, rp_13_15, ms_R15 hS, ms_C115 hS, ms_N115 hS, pM_goes_48, pM_goes_49, pM_goes_52, pM_goes_53, pM_goes_54, pM_goes_55, pM_goes_56, qfM_25, rp_13_9, ms_R9 hS, ms_C109 hS, ms_N109 hS, pM_goes_59, pM_goes_60, pM_goes_63, pM_goes_64, pM_goes_65, pM_goes_66, stp_iadd, pM_goes_67, pM_goes_68, pM_goes_69, qfM_40, rp_13_16, ms_R16 hS, ms_C116 hS, ms_N116 hS, pM_goes_72, pM_goes_73, pM_goes_76, pM_goes_77, pM_goes_78, pM_goes_79, stp_dup, pM_goes_80, pM_goes_83, pM_goes_84, pM_goes_85, stp_putfield, fi_13_13, nr_13_13, pM_goes_88, pM_goes_91, pM_goes_94, pM_goes_95, stp_ireturn, ic_1, ic_0, nv_M_goes, ml_M_goes]
      have := lpM_goesB (l := l) (G := G) (n := lvM_goes) (Q := fun r2 w2 => r2 = some (.inl (goT w + ahI w (cn w 12))) ∧ w2 = goU w (goT w) (cn w 12)) (t := goT w) hS h13 hW hr ⟨rfl, rfl⟩ (cn w 12) 0 (by omega)
      rw [goU_0 _ h13, show goT w + ahI w 0 = goT w by simp [ahI, sumN]] at this
      exact this
  · cases h
theorem ruM_goes {w : Wd} {d : Nat} (hS : MSh w) (h13 : okc w 13 500) (hW : wyOk w) (hr : cn w 13 + cn w 12 ≤ 500) (hd : goD w = some d) : fsM_goes [.inr (.inr (some (13, 0)))] w = some (some (.inl (goT w + ahI w (cn w 12))), goU w (goT w) (cn w 12)) := fsP_t ⟨hS, h13, hW, hr, d, hd⟩
