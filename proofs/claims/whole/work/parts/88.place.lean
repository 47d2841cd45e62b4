/-! a place added to the class's yard -/
def apU (w : Wd) (s i : Nat) : Wd := (fun t k q => if t = 173 ∧ (k = s ∧ q < i ∨ q = s ∧ k < i) then 1000000 else w.1 t k q, w.2)
theorem apU_I (w : Wd) (s i t k q : Nat) : wI (apU w s i) t k q = if t = 173 ∧ (k = s ∧ q < i ∨ q = s ∧ k < i) then 1000000 else wI w t k q := (rfl)
theorem apU_2 (w : Wd) (s i : Nat) : (apU w s i).2 = w.2 := rfl
theorem apU_0 (w : Wd) (s : Nat) : apU w s 0 = w := by
  refine Wd_eq (fun t k q => ?_) (apU_2 _ _ _)
  rw [apU_I, if_neg (by omega)]
theorem apU_s (w : Wd) (s i : Nat) : sI (sI (apU w s i) 173 s i 1000000) 173 i s 1000000 = apU w s (i + 1) := by
  refine Wd_eq (fun t k q => ?_) (by rw [sI_2, sI_2, apU_2, apU_2])
  simp only [yI_sI, apU_I]
  by_cases c1 : t = 173 ∧ k = i ∧ q = s
  · rw [if_pos c1, if_pos (by omega)]
  · rw [if_neg c1]
    by_cases c2 : t = 173 ∧ k = s ∧ q = i
    · rw [if_pos c2, if_pos (by omega)]
    · rw [if_neg c2]
      by_cases c3 : t = 173 ∧ (k = s ∧ q < i ∨ q = s ∧ k < i)
      · rw [if_pos c3, if_pos (by omega)]
      · rw [if_neg c3, if_neg (by omega)]
/-- the yard with one place more -/
def apW (w : Wd) (s : Nat) (k : Int32) : Wd := sI (apU (sI w 171 0 s k) s s) 1 0 4 (nI (s + 1))
section
variable {l : Launch} {G : Gc} {n : Nat} {Q : Option AV → Wd → Prop} {w : Wd}
set_option maxRecDepth 100000 in
set_option maxHeartbeats 4000000 in
theorem stY_addPlace {k : Int32} {s i : Nat} (hS : SSh w) (hs : s < 14) (hi : i < s) (ih : WP l G mY_addPlace n 0 0 Q 26 [some (.inr (.inr (some (1, 0)))), some (.inl k), some (.inl (nI s)), some (.inl (nI (i + 1)))] [] (sI (sI w 173 s i 1000000) 173 i s 1000000) 0 0) : WP l G mY_addPlace n 0 0 Q 26 [some (.inr (.inr (some (1, 0)))), some (.inl k), some (.inl (nI s)), some (.inl (nI i))] [] w 0 0 := by
  have q1 : ¬ nI s ≤ nI i := nI_ge hi (by omega)
  have cs : (nI s).toNatClampNeg = s := nI_clamp (by omega)
  have ci : (nI i).toNatClampNeg = i := nI_clamp (by omega)
  have vs : vp_in (nI s) 14 := vp_in_nI (by omega) (by omega)
  have vi : vp_in (nI i) 14 := vp_in_nI (by omega) (by omega)
  have m1 := ss_M hS hs
  have m2 := ss_M hS (show i < 14 by omega)
  have k1 := ss_K173 hS hs
  have k2 := ss_K173 hS (show i < 14 by omega)
  have i14 : i < 14 := by omega
  refine wpn_ok (M := mY_addPlace) (C := cenY) (X := (alk [])) (tb := tY_addPlace) (st := [26]) eoY XOk_nil kY_addPlace 60 _ _ _ _ _ _ ?_
  simp only [reduceCtorEq, fv0, fv1, fv2, fv3, bI_0, bI_1, bft, MSh_sI_eq, fsP_T, inL_0, inL_s, pad_0, pad_n, pad_s, wpn_s, wp1_s, lg_0, lg_s, lset_0, lset_s, kil_0, kil_s, st1_s, st2_s, isL_i, isL_l, isL_r, isL_n, spl_0, spl_s, cll_n, cll_s, catS_0, catS_s, jmp_s, alk_0, alk_s, otl_n, otl_s, List.nil_append, List.cons_append, List.contains_cons, List.contains_nil, Nat.reduceBEq, Bool.or_false, Bool.false_or, Bool.or_self, Bool.false_eq_true, Bool.true_or, Bool.or_true, if_true, if_false, ite_true, ite_false, ↓reduceIte, List.length_cons, List.length_nil, Nat.reduceAdd, Nat.reduceLT, Nat.reduceLeDiff, Nat.reduceEqDiff, Int.reduceAdd, Int.reduceLE, Int.toNat_natCast, Int.reduceToNat, Int.cast_ofNat_Int, true_and, and_true, false_and, and_false, true_implies, forall_const, eq_self, and_self, or_true, true_or, or_self, false_or, or_false, yI_sI, yR_sI, yC_sI, yN_sI, yI_sR, yR_sR, yC_sR, yN_sR, not_true_eq_false, not_false_eq_true, false_implies, implies_true, Nat.zero_add, Nat.add_zero, Nat.le_refl, Nat.reduceSub, Int.reduceSub, Int.reduceLT, Int.sub_zero, Int.sub_self, List.getElem?_toArray, List.getElem?_cons_zero, List.getElem?_cons_succ, Int.toNat_zero, Int.toNat_one, Int.lt_irrefl, yI_sB, yR_sB, yC_sB, yN_sB, MSh_sB_eq, pY_addPlace_0, stp_aload_n, pY_addPlace_1, stp_getfield, qfY_30, rp_1_4, ss_C1 hS, pY_addPlace_4, stp_bipush, pY_addPlace_6, stp_if_icmp_lt, pY_addPlace_9, pY_addPlace_11, stp_ireturn, pY_addPlace_12, pY_addPlace_13, pY_addPlace_16, stp_istore_n, pY_addPlace_17, pY_addPlace_18, qfY_18, rp_1_1, ss_R1_1 hS, ss_C171 hS, ss_N171 hS, pY_addPlace_21, stp_iload_n, pY_addPlace_22, pY_addPlace_23, stp_iastore, pY_addPlace_24, stp_iconst, pY_addPlace_25, pY_addPlace_26, pY_addPlace_27, pY_addPlace_28, stp_if_icmp_ge, pY_addPlace_31, pY_addPlace_32, qfY_27, rp_1_3, ss_R1_3 hS, ss_C302 hS, ss_N302 hS, pY_addPlace_35, pY_addPlace_36, stp_aaload, pY_addPlace_37, pY_addPlace_38, stp_ldc, qkY_38, pY_addPlace_40, pY_addPlace_41, pY_addPlace_42, pY_addPlace_45, pY_addPlace_46, pY_addPlace_47, pY_addPlace_48, pY_addPlace_50, pY_addPlace_51, stp_iinc, pY_addPlace_54, stp_goto, pY_addPlace_57, pY_addPlace_58, stp_dup, pY_addPlace_59, pY_addPlace_62, pY_addPlace_63, stp_iadd, pY_addPlace_64, stp_putfield, fi_1_4, nr_1_4, pY_addPlace_67, pY_addPlace_68, bp_14, bp_m8, ic_0, ic_1, nv_Y_addPlace, ml_Y_addPlace, q1, cs, ci, vs, vi, m1, m2, k1, k2, ss_C173 hS, hs, i14, nI_1]
  exact ih
set_option maxRecDepth 100000 in
set_option maxHeartbeats 4000000 in
theorem lpY_addPlace {k : Int32} {s : Nat} (hS : SSh w) (hs : s < 14) (h4 : wI w 1 0 4 = nI s) (hQ : Q (some (.inl (nI s))) (sI (apU w s s) 1 0 4 (nI (s + 1)))) : ∀ c i, i + c = s → WP l G mY_addPlace n 0 0 Q 26 [some (.inr (.inr (some (1, 0)))), some (.inl k), some (.inl (nI s)), some (.inl (nI i))] [] (apU w s i) 0 0
  | 0, i, hi => by
    have e : i = s := hi
    subst e
    have hS' := SSh_of hS (apU_2 w i i)
    have r4 : wI (apU w i i) 1 0 4 = nI i := by rw [apU_I, if_neg (by omega)]; exact h4
    refine wpn_ok (M := mY_addPlace) (C := cenY) (X := (alk [])) (tb := tY_addPlace) (st := [26]) eoY XOk_nil kY_addPlace 60 _ _ _ _ _ _ ?_
    simp only [reduceCtorEq, fv0, fv1, fv2, fv3, bI_0, bI_1, bft, MSh_sI_eq, fsP_T, inL_0, inL_s, pad_0, pad_n, pad_s, wpn_s, wp1_s, lg_0, lg_s, lset_0, lset_s, kil_0, kil_s, st1_s, st2_s, isL_i, isL_l, isL_r, isL_n, spl_0, spl_s, cll_n, cll_s, catS_0, catS_s, jmp_s, alk_0, alk_s, otl_n, otl_s, List.nil_append, List.cons_append, List.contains_cons, List.contains_nil, Nat.reduceBEq, Bool.or_false, Bool.false_or, Bool.or_self, Bool.false_eq_true, Bool.true_or, Bool.or_true, if_true, if_false, ite_true, ite_false, ↓reduceIte, List.length_cons, List.length_nil, Nat.reduceAdd, Nat.reduceLT, Nat.reduceLeDiff, Nat.reduceEqDiff, Int.reduceAdd, Int.reduceLE, Int.toNat_natCast, Int.reduceToNat, Int.cast_ofNat_Int, true_and, and_true, false_and, and_false, true_implies, forall_const, eq_self, and_self, or_true, true_or, or_self, false_or, or_false, yI_sI, yR_sI, yC_sI, yN_sI, yI_sR, yR_sR, yC_sR, yN_sR, not_true_eq_false, not_false_eq_true, false_implies, implies_true, Nat.zero_add, Nat.add_zero, Nat.le_refl, Nat.reduceSub, Int.reduceSub, Int.reduceLT, Int.sub_zero, Int.sub_self, List.getElem?_toArray, List.getElem?_cons_zero, List.getElem?_cons_succ, Int.toNat_zero, Int.toNat_one, Int.lt_irrefl, yI_sB, yR_sB, yC_sB, yN_sB, MSh_sB_eq, pY_addPlace_0, stp_aload_n, pY_addPlace_1, stp_getfield, qfY_30, rp_1_4, ss_C1 hS', pY_addPlace_4, stp_bipush, pY_addPlace_6, stp_if_icmp_lt, pY_addPlace_9, pY_addPlace_11, stp_ireturn, pY_addPlace_12, pY_addPlace_13, pY_addPlace_16, stp_istore_n, pY_addPlace_17, pY_addPlace_18, qfY_18, rp_1_1, ss_R1_1 hS', ss_C171 hS', ss_N171 hS', pY_addPlace_21, stp_iload_n, pY_addPlace_22, pY_addPlace_23, stp_iastore, pY_addPlace_24, stp_iconst, pY_addPlace_25, pY_addPlace_26, pY_addPlace_27, pY_addPlace_28, stp_if_icmp_ge, pY_addPlace_31, pY_addPlace_32, qfY_27, rp_1_3, ss_R1_3 hS', ss_C302 hS', ss_N302 hS', pY_addPlace_35, pY_addPlace_36, stp_aaload, pY_addPlace_37, pY_addPlace_38, stp_ldc, qkY_38, pY_addPlace_40, pY_addPlace_41, pY_addPlace_42, pY_addPlace_45, pY_addPlace_46, pY_addPlace_47, pY_addPlace_48, pY_addPlace_50, pY_addPlace_51, stp_iinc, pY_addPlace_54, stp_goto, pY_addPlace_57, pY_addPlace_58, stp_dup, pY_addPlace_59, pY_addPlace_62, pY_addPlace_63, stp_iadd, pY_addPlace_64, stp_putfield, fi_1_4, nr_1_4, pY_addPlace_67, pY_addPlace_68, bp_14, bp_m8, ic_0, ic_1, nv_Y_addPlace, ml_Y_addPlace, r4, Int32.le_refl, nI_1]
    exact hQ
  | c + 1, i, hi => stY_addPlace (SSh_of hS (apU_2 w s i)) hs (by omega) (by rw [apU_s]; exact lpY_addPlace hS hs h4 hQ c (i + 1) (by omega))
end
abbrev lvY_addPlace : Nat := 1
noncomputable def fsY_addPlace : FS := fun as w => match as with
  | [.inr (.inr (some (1, 0))), .inl k] => fsP (SSh w ∧ ∃ s, s < 14 ∧ wI w 1 0 4 = nI s) (some (.inl (wI w 1 0 4)), apW w (wI w 1 0 4).toNatClampNeg k)
  | _ => none
set_option maxRecDepth 100000 in
set_option maxHeartbeats 4000000 in
theorem okY_addPlace (l : Launch) (G : Gc) : FsOk l G mY_addPlace lvY_addPlace fsY_addPlace := by
  intro as w r w' h
  simp only [fsY_addPlace] at h
  split at h
  · rename_i k
    obtain ⟨⟨hS, s, hs, e⟩, h⟩ := fsP_s h
    cases h
    have c1 : (nI s).toNatClampNeg = s := nI_clamp (by omega)
    have v1 : vp_in (nI s) 14 := vp_in_nI (by omega) (by omega)
    have q1 : nI s < 14 := nI_lt (b := 14) hs (by omega)
    rw [e, c1]
    have hS' : SSh (sI w 171 0 s k) := SSh_of hS (sI_2 _ _ _ _ _)
    have lp := lpY_addPlace (l := l) (G := G) (n := lvY_addPlace) (Q := fun r w' => r = some (.inl (nI s)) ∧ w' = apW w s k) (k := k) hS' hs (by rw [yI_sI, if_neg (by omega)]; exact e) ⟨rfl, rfl⟩ s 0 (by omega)
    rw [apU_0] at lp
    refine Sem_of (by decide) rfl (Nat.le_of_ble_eq_true rfl) ?_
    refine wpn_ok (M := mY_addPlace) (C := cenY) (X := (alk [])) (tb := tY_addPlace) (st := [26]) eoY XOk_nil kY_addPlace 60 _ _ _ _ _ _ ?_
    simp only [reduceCtorEq, fv0, fv1, fv2, fv3, bI_0, bI_1, bft, MSh_sI_eq, fsP_T, inL_0, inL_s, pad_0, pad_n, pad_s, wpn_s, wp1_s, lg_0, lg_s, lset_0, lset_s, kil_0, kil_s, st1_s, st2_s, isL_i, isL_l, isL_r, isL_n, spl_0, spl_s, cll_n, cll_s, catS_0, catS_s, jmp_s, alk_0, alk_s, otl_n, otl_s, List.nil_append, List.cons_append, List.contains_cons, List.contains_nil, Nat.reduceBEq, Bool.or_false, Bool.false_or, Bool.or_self, Bool.false_eq_true, Bool.true_or, Bool.or_true, if_true, if_false, ite_true, ite_false, ↓reduceIte, List.length_cons, List.length_nil, Nat.reduceAdd, Nat.reduceLT, Nat.reduceLeDiff, Nat.reduceEqDiff, Int.reduceAdd, Int.reduceLE, Int.toNat_natCast, Int.reduceToNat, Int.cast_ofNat_Int, true_and, and_true, false_and, and_false, true_implies, forall_const, eq_self, and_self, or_true, true_or, or_self, false_or, or_false, yI_sI, yR_sI, yC_sI, yN_sI, yI_sR, yR_sR, yC_sR, yN_sR, not_true_eq_false, not_false_eq_true, false_implies, implies_true, Nat.zero_add, Nat.add_zero, Nat.le_refl, Nat.reduceSub, Int.reduceSub, Int.reduceLT, Int.sub_zero, Int.sub_self, List.getElem?_toArray, List.getElem?_cons_zero, List.getElem?_cons_succ, Int.toNat_zero, Int.toNat_one, Int.lt_irrefl, yI_sB, yR_sB, yC_sB, yN_sB, MSh_sB_eq, pY_addPlace_0, stp_aload_n, pY_addPlace_1, stp_getfield, qfY_30, rp_1_4, ss_C1 hS, pY_addPlace_4, stp_bipush, pY_addPlace_6, stp_if_icmp_lt, pY_addPlace_9, pY_addPlace_11, stp_ireturn, pY_addPlace_12, pY_addPlace_13, pY_addPlace_16, stp_istore_n, pY_addPlace_17, pY_addPlace_18, qfY_18, rp_1_1, ss_R1_1 hS, ss_C171 hS, ss_N171 hS, pY_addPlace_21, stp_iload_n, pY_addPlace_22, pY_addPlace_23, stp_iastore, pY_addPlace_24, stp_iconst, pY_addPlace_25, pY_addPlace_26, pY_addPlace_27, pY_addPlace_28, stp_if_icmp_ge, pY_addPlace_31, pY_addPlace_32, qfY_27, rp_1_3, ss_R1_3 hS, ss_C302 hS, ss_N302 hS, pY_addPlace_35, pY_addPlace_36, stp_aaload, pY_addPlace_37, pY_addPlace_38, stp_ldc, qkY_38, pY_addPlace_40, pY_addPlace_41, pY_addPlace_42, pY_addPlace_45, pY_addPlace_46, pY_addPlace_47, pY_addPlace_48, pY_addPlace_50, pY_addPlace_51, stp_iinc, pY_addPlace_54, stp_goto, pY_addPlace_57, pY_addPlace_58, stp_dup, pY_addPlace_59, pY_addPlace_62, pY_addPlace_63, stp_iadd, pY_addPlace_64, stp_putfield, fi_1_4, nr_1_4, pY_addPlace_67, pY_addPlace_68, bp_14, bp_m8, ic_0, ic_1, nv_Y_addPlace, ml_Y_addPlace, e, c1, v1, q1]
    exact lp
  · cases h
theorem ruY_addPlace {w : Wd} {s : Nat} {k : Int32} (hS : SSh w) (hs : s < 14) (e : wI w 1 0 4 = nI s) : fsY_addPlace [.inr (.inr (some (1, 0))), .inl k] w = some (some (.inl (nI s)), apW w s k) := by
  have : fsY_addPlace [.inr (.inr (some (1, 0))), .inl k] w = fsP (SSh w ∧ ∃ s, s < 14 ∧ wI w 1 0 4 = nI s) (some (.inl (wI w 1 0 4)), apW w (wI w 1 0 4).toNatClampNeg k) := rfl
  rw [this, fsP_t ⟨hS, s, hs, e⟩, e, nI_clamp (by omega)]
