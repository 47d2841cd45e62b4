/-! bits and plan of the reference -/
theorem cnN_31 (f : Nat → Bool) : cnN f 31 ≤ 31 := cnN_n 31
section
variable {l : Launch} {G : Gc} {n : Nat} {Q : Option AV → Wd → Prop} {w : Wd}
set_option maxRecDepth 100000 in
set_option maxHeartbeats 4000000 in
theorem lpM_bits {x : Int32} (hQ : Q (some (.inl (nI (cnN (btB x) 31)))) w) : ∀ k i, i + k = 31 → WP l G mM_bits n 0 0 Q 4 [some (.inl x), some (.inl (nI (cnN (btB x) i))), some (.inl (nI i))] [] w 0 0
  | 0, i, hi => by
    have e : i = 31 := hi
    subst e
    have this : (31 : Int32) ≤ nI 31 := by decide
    refine wpn_ok (M := mM_bits) (C := cenM) (X := (alk [])) (tb := tM_bits) (st := [4]) eoM XOk_nil kM_bits 60 _ _ _ _ _ _ ?_
    simp only [reduceCtorEq, fv0, fv1, fv2, fv3, bI_0, bI_1, bft, MSh_sI_eq, fsP_T, inL_0, inL_s, pad_0, pad_n, pad_s, wpn_s, wp1_s, lg_0, lg_s, lset_0, lset_s, kil_0, kil_s, st1_s, st2_s, isL_i, isL_l, isL_r, isL_n, spl_0, spl_s, cll_n, cll_s, catS_0, catS_s, jmp_s, alk_0, alk_s, otl_n, otl_s, List.nil_append, List.cons_append, List.contains_cons, List.contains_nil, Nat.reduceBEq, Bool.or_false, Bool.false_or, Bool.or_self, Bool.false_eq_true, Bool.true_or, Bool.or_true, if_true, if_false, ite_true, ite_false, ↓reduceIte, List.length_cons, List.length_nil, Nat.reduceAdd, Nat.reduceLT, Nat.reduceLeDiff, Nat.reduceEqDiff, Int.reduceAdd, Int.reduceLE, Int.toNat_natCast, Int.reduceToNat, Int.cast_ofNat_Int, true_and, and_true, false_and, and_false, true_implies, forall_const, eq_self, and_self, or_true, true_or, or_self, false_or, or_false, yI_sI, yR_sI, yC_sI, yN_sI, yI_sR, yR_sR, yC_sR, yN_sR, not_true_eq_false, not_false_eq_true, false_implies, implies_true, Nat.zero_add, Nat.add_zero, Nat.le_refl, Nat.reduceSub, Int.reduceSub, Int.reduceLT, Int.sub_zero, Int.sub_self, List.getElem?_toArray, List.getElem?_cons_zero, List.getElem?_cons_succ, Int.toNat_zero, Int.toNat_one, Int.lt_irrefl, yI_sB, yR_sB, yC_sB, yN_sB, MSh_sB_eq, pM_bits_0, stp_iconst, pM_bits_1, stp_istore_n, pM_bits_2, pM_bits_3, pM_bits_4, stp_iload_n, pM_bits_5, stp_bipush, pM_bits_7, stp_if_icmp_ge, pM_bits_10, pM_bits_11, pM_bits_12, pM_bits_13, stp_ishr, pM_bits_14, pM_bits_15, stp_iand, pM_bits_16, stp_iadd, pM_bits_17, pM_bits_18, stp_iinc, pM_bits_21, stp_goto, pM_bits_24, pM_bits_25, stp_ireturn, ic_0, bp_31, ic_1, nv_M_bits, ml_M_bits, this]
    exact hQ
  | k + 1, i, hi => by
    have ih := lpM_bits hQ k (i + 1) (by omega)
    have h1 : ¬ (31 : Int32) ≤ nI i := nI_ge (b := 31) (by omega) (by omega)
    have bx := bt_shr x (l := i) (by omega)
    have e : nI (cnN (btB x) i) + bI (btB x i) = nI (cnN (btB x) (i + 1)) := by
      simp only [cnN]
      cases btB x i
      · simp [bI]
      · simp [bI, nI_1]
    refine wpn_ok (M := mM_bits) (C := cenM) (X := (alk [])) (tb := tM_bits) (st := [4]) eoM XOk_nil kM_bits 60 _ _ _ _ _ _ ?_
    simp only [reduceCtorEq, fv0, fv1, fv2, fv3, bI_0, bI_1, bft, MSh_sI_eq, fsP_T, inL_0, inL_s, pad_0, pad_n, pad_s, wpn_s, wp1_s, lg_0, lg_s, lset_0, lset_s, kil_0, kil_s, st1_s, st2_s, isL_i, isL_l, isL_r, isL_n, spl_0, spl_s, cll_n, cll_s, catS_0, catS_s, jmp_s, alk_0, alk_s, otl_n, otl_s, List.nil_append, List.cons_append, List.contains_cons, List.contains_nil, Nat.reduceBEq, Bool.or_false, Bool.false_or, Bool.or_self, Bool.false_eq_true, Bool.true_or, Bool.or_true, if_true, if_false, ite_true, ite_false, ↓reduceIte, List.length_cons, List.length_nil, Nat.reduceAdd, Nat.reduceLT, Nat.reduceLeDiff, Nat.reduceEqDiff, Int.reduceAdd, Int.reduceLE, Int.toNat_natCast, Int.reduceToNat, Int.cast_ofNat_Int, true_and, and_true, false_and, and_false, true_implies, forall_const, eq_self, and_self, or_true, true_or, or_self, false_or, or_false, yI_sI, yR_sI, yC_sI, yN_sI, yI_sR, yR_sR, yC_sR, yN_sR, not_true_eq_false, not_false_eq_true, false_implies, implies_true, Nat.zero_add, Nat.add_zero, Nat.le_refl, Nat.reduceSub, Int.reduceSub, Int.reduceLT, Int.sub_zero, Int.sub_self, List.getElem?_toArray, List.getElem?_cons_zero, List.getElem?_cons_succ, Int.toNat_zero, Int.toNat_one, Int.lt_irrefl, yI_sB, yR_sB, yC_sB, yN_sB, MSh_sB_eq, pM_bits_0, stp_iconst, pM_bits_1, stp_istore_n, pM_bits_2, pM_bits_3, pM_bits_4, stp_iload_n, pM_bits_5, stp_bipush, pM_bits_7, stp_if_icmp_ge, pM_bits_10, pM_bits_11, pM_bits_12, pM_bits_13, stp_ishr, pM_bits_14, pM_bits_15, stp_iand, pM_bits_16, stp_iadd, pM_bits_17, pM_bits_18, stp_iinc, pM_bits_21, stp_goto, pM_bits_24, pM_bits_25, stp_ireturn, ic_0, bp_31, ic_1, nv_M_bits, ml_M_bits, h1, bx, e, nI_1]
    exact ih
end
abbrev lvM_bits : Nat := 1
noncomputable def fsM_bits : FS := fun as w => match as with
  | [.inl x] => some (some (.inl (nI (cnN (btB x) 31))), w)
  | _ => none
set_option maxRecDepth 100000 in
set_option maxHeartbeats 4000000 in
theorem okM_bits (l : Launch) (G : Gc) : FsOk l G mM_bits lvM_bits fsM_bits := by
  intro as w r w' h
  simp only [fsM_bits] at h
  split at h
  · rename_i x
    cases h
    refine Sem_of (by decide) rfl (Nat.le_of_ble_eq_true rfl) ?_
    refine wpn_ok (M := mM_bits) (C := cenM) (X := (alk [])) (tb := tM_bits) (st := [4]) eoM XOk_nil kM_bits 60 _ _ _ _ _ _ ?_
    simp only [reduceCtorEq, fv0, fv1, fv2, fv3, bI_0, bI_1, bft, MSh_sI_eq, fsP_T, inL_0, inL_s, pad_0, pad_n, pad_s, wpn_s, wp1_s, lg_0, lg_s, lset_0, lset_s, kil_0, kil_s, st1_s, st2_s, isL_i, isL_l, isL_r, isL_n, spl_0, spl_s, cll_n, cll_s, catS_0, catS_s, jmp_s, alk_0, alk_s, otl_n, otl_s, List.nil_append, List.cons_append, List.contains_cons, List.contains_nil, Nat.reduceBEq, Bool.or_false, Bool.false_or, Bool.or_self, Bool.false_eq_true, Bool.true_or, Bool.or_true, if_true, if_false, ite_true, ite_false, ↓reduceIte, List.length_cons, List.length_nil, Nat.reduceAdd, Nat.reduceLT, Nat.reduceLeDiff, Nat.reduceEqDiff, Int.reduceAdd, Int.reduceLE, Int.toNat_natCast, Int.reduceToNat, Int.cast_ofNat_Int, true_and, and_true, false_and, and_false, true_implies, forall_const, eq_self, and_self, or_true, true_or, or_self, false_or, or_false, yI_sI, yR_sI, yC_sI, yN_sI, yI_sR, yR_sR, yC_sR, yN_sR, not_true_eq_false, not_false_eq_true, false_implies, implies_true, Nat.zero_add, Nat.add_zero, Nat.le_refl, Nat.reduceSub, Int.reduceSub, Int.reduceLT, Int.sub_zero, Int.sub_self, List.getElem?_toArray, List.getElem?_cons_zero, List.getElem?_cons_succ, Int.toNat_zero, Int.toNat_one, Int.lt_irrefl, yI_sB, yR_sB, yC_sB, yN_sB, MSh_sB_eq, pM_bits_0, stp_iconst, pM_bits_1, stp_istore_n, pM_bits_2, pM_bits_3, pM_bits_4, stp_iload_n, pM_bits_5, stp_bipush, pM_bits_7, stp_if_icmp_ge, pM_bits_10, pM_bits_11, pM_bits_12, pM_bits_13, stp_ishr, pM_bits_14, pM_bits_15, stp_iand, pM_bits_16, stp_iadd, pM_bits_17, pM_bits_18, stp_iinc, pM_bits_21, stp_goto, pM_bits_24, pM_bits_25, stp_ireturn, ic_0, bp_31, ic_1, nv_M_bits, ml_M_bits]
    exact lpM_bits ⟨rfl, rfl⟩ 31 0 (by omega)
  · cases h
def bitN (x : Int32) : Nat := cnN (btB x) 31
theorem ruM_bits {w : Wd} {x : Int32} : fsM_bits [.inl x] w = some (some (.inl (nI (bitN x))), w) := rfl
