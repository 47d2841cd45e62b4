/-! a row begun -/
def bgU (w : Wd) (i : Nat) : Wd := sB w 183 0 (fun q => if q < i then 0 else wI w 183 0 q)
theorem bgU_I (w : Wd) (i t k q : Nat) : wI (bgU w i) t k q = if t = 183 ∧ k = 0 then (if q < i then 0 else wI w 183 0 q) else wI w t k q := (rfl)
theorem bgU_2 (w : Wd) (i : Nat) : (bgU w i).2 = w.2 := rfl
theorem bgU_0 (w : Wd) : bgU w 0 = w := by
  refine Wd_eq (fun t k q => ?_) (bgU_2 _ _)
  rw [bgU_I]
  by_cases c : t = 183 ∧ k = 0
  · rw [if_pos c, if_neg (by omega), c.1, c.2]
  · rw [if_neg c]
theorem bgU_s (w : Wd) (i : Nat) : sI (bgU w i) 183 0 i 0 = bgU w (i + 1) := by
  refine Wd_eq (fun t k q => ?_) (by rw [sI_2, bgU_2, bgU_2])
  simp only [yI_sI, bgU_I]
  by_cases c : t = 183 ∧ k = 0
  · by_cases d : q = i
    · rw [if_pos ⟨c.1, c.2, d⟩, if_pos c, if_pos (by omega)]
    · have e : (q < i + 1) = (q < i) := propext ⟨fun _ => by omega, fun _ => by omega⟩
      rw [if_neg (by omega), if_pos c, if_pos c]
      simp only [e]
  · rw [if_neg (by omega), if_neg c, if_neg c]
def bgW (w : Wd) (s : Nat) : Wd := bgU (sI (sI w 7 0 2 1) 7 0 1 (nI s)) s
section
variable {l : Launch} {G : Gc} {n : Nat} {Q : Option AV → Wd → Prop} {w : Wd}
set_option maxRecDepth 100000 in
set_option maxHeartbeats 4000000 in
theorem stR_begin {x : Int32} {s i : Nat} (hS : SSh w) (hs : s ≤ 14) (h1 : wI w 7 0 1 = nI s) (hi : i < s) (ih : WP l G mR_begin n 0 0 Q 17 [some (.inr (.inr (some (7, 0)))), some (.inl x), some (.inl (nI (i + 1)))] [] (sI w 183 0 i 0) 0 0) : WP l G mR_begin n 0 0 Q 17 [some (.inr (.inr (some (7, 0)))), some (.inl x), some (.inl (nI i))] [] w 0 0 := by
  have q1 : ¬ nI s ≤ nI i := nI_ge hi (by omega)
  have ci : (nI i).toNatClampNeg = i := nI_clamp (by omega)
  have vi : vp_in (nI i) 14 := vp_in_nI (by omega) (by omega)
  refine wpn_ok (M := mR_begin) (C := cenR) (X := (alk [])) (tb := tR_begin) (st := [17]) eoR XOk_nil kR_begin 60 _ _ _ _ _ _ ?_
  simp only [reduceCtorEq, fv0, fv1, fv2, fv3, bI_0, bI_1, bft, MSh_sI_eq, fsP_T, inL_0, inL_s, pad_0, pad_n, pad_s, wpn_s, wp1_s, lg_0, lg_s, lset_0, lset_s, kil_0, kil_s, st1_s, st2_s, isL_i, isL_l, isL_r, isL_n, spl_0, spl_s, cll_n, cll_s, catS_0, catS_s, jmp_s, alk_0, alk_s, otl_n, otl_s, List.nil_append, List.cons_append, List.contains_cons, List.contains_nil, Nat.reduceBEq, Bool.or_false, Bool.false_or, Bool.or_self, Bool.false_eq_true, Bool.true_or, Bool.or_true, if_true, if_false, ite_true, ite_false, ↓reduceIte, List.length_cons, List.length_nil, Nat.reduceAdd, Nat.reduceLT, Nat.reduceLeDiff, Nat.reduceEqDiff, Int.reduceAdd, Int.reduceLE, Int.toNat_natCast, Int.reduceToNat, Int.cast_ofNat_Int, true_and, and_true, false_and, and_false, true_implies, forall_const, eq_self, and_self, or_true, true_or, or_self, false_or, or_false, yI_sI, yR_sI, yC_sI, yN_sI, yI_sR, yR_sR, yC_sR, yN_sR, not_true_eq_false, not_false_eq_true, false_implies, implies_true, Nat.zero_add, Nat.add_zero, Nat.le_refl, Nat.reduceSub, Int.reduceSub, Int.reduceLT, Int.sub_zero, Int.sub_self, List.getElem?_toArray, List.getElem?_cons_zero, List.getElem?_cons_succ, Int.toNat_zero, Int.toNat_one, Int.lt_irrefl, yI_sB, yR_sB, yC_sB, yN_sB, MSh_sB_eq, pR_begin_0, stp_aload_n, pR_begin_1, stp_iconst, pR_begin_2, stp_putfield, qfR_19, rp_7_2, fi_7_2, nr_7_2, ss_C7 hS, pR_begin_5, pR_begin_6, stp_iload_n, pR_begin_7, stp_bipush, pR_begin_9, stp_invokestatic, qmR_23, pR_begin_12, qfR_15, rp_7_1, fi_7_1, nr_7_1, pR_begin_15, pR_begin_16, stp_istore_n, pR_begin_17, pR_begin_18, pR_begin_19, stp_getfield, pR_begin_22, stp_if_icmp_ge, pR_begin_25, pR_begin_26, qfR_9, rp_7_0, ss_R7_0 hS, ss_C183 hS, ss_N183 hS, pR_begin_29, pR_begin_30, pR_begin_31, stp_iastore, pR_begin_32, stp_iinc, pR_begin_35, stp_goto, pR_begin_38, stp_return_, ic_1, bp_14, ic_0, nv_R_begin, ml_R_begin, h1, q1, ci, vi, nI_1]
  exact ih
set_option maxRecDepth 100000 in
set_option maxHeartbeats 4000000 in
theorem lpR_begin {x : Int32} {s : Nat} (hS : SSh w) (hs : s ≤ 14) (h1 : wI w 7 0 1 = nI s) (hQ : Q none (bgU w s)) : ∀ c i, i + c = s → WP l G mR_begin n 0 0 Q 17 [some (.inr (.inr (some (7, 0)))), some (.inl x), some (.inl (nI i))] [] (bgU w i) 0 0
  | 0, i, hi => by
    have e : i = s := hi
    subst e
    have hS' := SSh_of hS (bgU_2 w i)
    have r1 : wI (bgU w i) 7 0 1 = nI i := by rw [bgU_I, if_neg (by omega)]; exact h1
    refine wpn_ok (M := mR_begin) (C := cenR) (X := (alk [])) (tb := tR_begin) (st := [17]) eoR XOk_nil kR_begin 60 _ _ _ _ _ _ ?_
    simp only [reduceCtorEq, fv0, fv1, fv2, fv3, bI_0, bI_1, bft, MSh_sI_eq, fsP_T, inL_0, inL_s, pad_0, pad_n, pad_s, wpn_s, wp1_s, lg_0, lg_s, lset_0, lset_s, kil_0, kil_s, st1_s, st2_s, isL_i, isL_l, isL_r, isL_n, spl_0, spl_s, cll_n, cll_s, catS_0, catS_s, jmp_s, alk_0, alk_s, otl_n, otl_s, List.nil_append, List.cons_append, List.contains_cons, List.contains_nil, Nat.reduceBEq, Bool.or_false, Bool.false_or, Bool.or_self, Bool.false_eq_true, Bool.true_or, Bool.or_true, if_true, if_false, ite_true, ite_false, ↓reduceIte, List.length_cons, List.length_nil, Nat.reduceAdd, Nat.reduceLT, Nat.reduceLeDiff, Nat.reduceEqDiff, Int.reduceAdd, Int.reduceLE, Int.toNat_natCast, Int.reduceToNat, Int.cast_ofNat_Int, true_and, and_true, false_and, and_false, true_implies, forall_const, eq_self, and_self, or_true, true_or, or_self, false_or, or_false, yI_sI, yR_sI, yC_sI, yN_sI, yI_sR, yR_sR, yC_sR, yN_sR, not_true_eq_false, not_false_eq_true, false_implies, implies_true, Nat.zero_add, Nat.add_zero, Nat.le_refl, Nat.reduceSub, Int.reduceSub, Int.reduceLT, Int.sub_zero, Int.sub_self, List.getElem?_toArray, List.getElem?_cons_zero, List.getElem?_cons_succ, Int.toNat_zero, Int.toNat_one, Int.lt_irrefl, yI_sB, yR_sB, yC_sB, yN_sB, MSh_sB_eq, pR_begin_0, stp_aload_n, pR_begin_1, stp_iconst, pR_begin_2, stp_putfield, qfR_19, rp_7_2, fi_7_2, nr_7_2, ss_C7 hS', pR_begin_5, pR_begin_6, stp_iload_n, pR_begin_7, stp_bipush, pR_begin_9, stp_invokestatic, qmR_23, pR_begin_12, qfR_15, rp_7_1, fi_7_1, nr_7_1, pR_begin_15, pR_begin_16, stp_istore_n, pR_begin_17, pR_begin_18, pR_begin_19, stp_getfield, pR_begin_22, stp_if_icmp_ge, pR_begin_25, pR_begin_26, qfR_9, rp_7_0, ss_R7_0 hS', ss_C183 hS', ss_N183 hS', pR_begin_29, pR_begin_30, pR_begin_31, stp_iastore, pR_begin_32, stp_iinc, pR_begin_35, stp_goto, pR_begin_38, stp_return_, ic_1, bp_14, ic_0, nv_R_begin, ml_R_begin, r1, Int32.le_refl]
    exact hQ
  | c + 1, i, hi => stR_begin (SSh_of hS (bgU_2 w i)) hs (by rw [bgU_I, if_neg (by omega)]; exact h1) (by omega) (by rw [bgU_s]; exact lpR_begin hS hs h1 hQ c (i + 1) (by omega))
end
abbrev lvR_begin : Nat := 1
noncomputable def fsR_begin : FS := fun as w => match as with
  | [.inr (.inr (some (7, 0))), .inl x] => fsP (SSh w ∧ ∃ s, s ≤ 14 ∧ x = nI s) (none, bgW w x.toNatClampNeg)
  | _ => none
set_option maxRecDepth 100000 in
set_option maxHeartbeats 4000000 in
theorem okR_begin (l : Launch) (G : Gc) : FsOk l G mR_begin lvR_begin fsR_begin := by
  intro as w r w' h
  simp only [fsR_begin] at h
  split at h
  · rename_i x
    obtain ⟨⟨hS, s, hs, hx⟩, h⟩ := fsP_s h
    cases h
    subst hx
    rw [nI_clamp (by omega)]
    have mn : (if (14 : Int32) < nI s then (14 : Int32) else nI s) = nI s := if_neg (nI_nlt (b := s) (a := 14) hs (by omega))
    have hS' : SSh (sI (sI w 7 0 2 1) 7 0 1 (nI s)) := SSh_of hS (by rw [sI_2, sI_2])
    have lp := lpR_begin (l := l) (G := G) (n := lvR_begin) (Q := fun r w' => r = none ∧ w' = bgW w s) (x := nI s) hS' hs (by rw [yI_sI, if_pos ⟨rfl, rfl, rfl⟩]) ⟨rfl, rfl⟩ s 0 (by omega)
    rw [bgU_0] at lp
    refine Sem_of (by decide) rfl (Nat.le_of_ble_eq_true rfl) ?_
    refine wpn_ok (M := mR_begin) (C := cenR) (X := (alk [])) (tb := tR_begin) (st := [9]) eoR XOk_nil kR_begin 60 _ _ _ _ _ _ ?_
    simp only [reduceCtorEq, fv0, fv1, fv2, fv3, bI_0, bI_1, bft, MSh_sI_eq, fsP_T, inL_0, inL_s, pad_0, pad_n, pad_s, wpn_s, wp1_s, lg_0, lg_s, lset_0, lset_s, kil_0, kil_s, st1_s, st2_s, isL_i, isL_l, isL_r, isL_n, spl_0, spl_s, cll_n, cll_s, catS_0, catS_s, jmp_s, alk_0, alk_s, otl_n, otl_s, List.nil_append, List.cons_append, List.contains_cons, List.contains_nil, Nat.reduceBEq, Bool.or_false, Bool.false_or, Bool.or_self, Bool.false_eq_true, Bool.true_or, Bool.or_true, if_true, if_false, ite_true, ite_false, ↓reduceIte, List.length_cons, List.length_nil, Nat.reduceAdd, Nat.reduceLT, Nat.reduceLeDiff, Nat.reduceEqDiff, Int.reduceAdd, Int.reduceLE, Int.toNat_natCast, Int.reduceToNat, Int.cast_ofNat_Int, true_and, and_true, false_and, and_false, true_implies, forall_const, eq_self, and_self, or_true, true_or, or_self, false_or, or_false, yI_sI, yR_sI, yC_sI, yN_sI, yI_sR, yR_sR, yC_sR, yN_sR, not_true_eq_false, not_false_eq_true, false_implies, implies_true, Nat.zero_add, Nat.add_zero, Nat.le_refl, Nat.reduceSub, Int.reduceSub, Int.reduceLT, Int.sub_zero, Int.sub_self, List.getElem?_toArray, List.getElem?_cons_zero, List.getElem?_cons_succ, Int.toNat_zero, Int.toNat_one, Int.lt_irrefl, yI_sB, yR_sB, yC_sB, yN_sB, MSh_sB_eq, pR_begin_0, stp_aload_n, pR_begin_1, stp_iconst, pR_begin_2, stp_putfield, qfR_19, rp_7_2, fi_7_2, nr_7_2, ss_C7 hS, pR_begin_5, pR_begin_6, stp_iload_n, pR_begin_7, stp_bipush, pR_begin_9, stp_invokestatic, qmR_23, pR_begin_12, qfR_15, rp_7_1, fi_7_1, nr_7_1, pR_begin_15, pR_begin_16, stp_istore_n, pR_begin_17, pR_begin_18, pR_begin_19, stp_getfield, pR_begin_22, stp_if_icmp_ge, pR_begin_25, pR_begin_26, qfR_9, rp_7_0, ss_R7_0 hS, ss_C183 hS, ss_N183 hS, pR_begin_29, pR_begin_30, pR_begin_31, stp_iastore, pR_begin_32, stp_iinc, pR_begin_35, stp_goto, pR_begin_38, stp_return_, ic_1, bp_14, ic_0, nv_R_begin, ml_R_begin]
    refine wp_min kR_begin pR_begin_9 wm_min_R (Nat.le_of_ble_eq_true rfl) (by decide) ?_
    rw [mn]
    refine wpn_ok (M := mR_begin) (C := cenR) (X := (alk [])) (tb := tR_begin) (st := [17]) eoR XOk_nil kR_begin 60 _ _ _ _ _ _ ?_
    simp only [reduceCtorEq, fv0, fv1, fv2, fv3, bI_0, bI_1, bft, MSh_sI_eq, fsP_T, inL_0, inL_s, pad_0, pad_n, pad_s, wpn_s, wp1_s, lg_0, lg_s, lset_0, lset_s, kil_0, kil_s, st1_s, st2_s, isL_i, isL_l, isL_r, isL_n, spl_0, spl_s, cll_n, cll_s, catS_0, catS_s, jmp_s, alk_0, alk_s, otl_n, otl_s, List.nil_append, List.cons_append, List.contains_cons, List.contains_nil, Nat.reduceBEq, Bool.or_false, Bool.false_or, Bool.or_self, Bool.false_eq_true, Bool.true_or, Bool.or_true, if_true, if_false, ite_true, ite_false, ↓reduceIte, List.length_cons, List.length_nil, Nat.reduceAdd, Nat.reduceLT, Nat.reduceLeDiff, Nat.reduceEqDiff, Int.reduceAdd, Int.reduceLE, Int.toNat_natCast, Int.reduceToNat, Int.cast_ofNat_Int, true_and, and_true, false_and, and_false, true_implies, forall_const, eq_self, and_self, or_true, true_or, or_self, false_or, or_false, yI_sI, yR_sI, yC_sI, yN_sI, yI_sR, yR_sR, yC_sR, yN_sR, not_true_eq_false, not_false_eq_true, false_implies, implies_true, Nat.zero_add, Nat.add_zero, Nat.le_refl, Nat.reduceSub, Int.reduceSub, Int.reduceLT, Int.sub_zero, Int.sub_self, List.getElem?_toArray, List.getElem?_cons_zero, List.getElem?_cons_succ, Int.toNat_zero, Int.toNat_one, Int.lt_irrefl, yI_sB, yR_sB, yC_sB, yN_sB, MSh_sB_eq, pR_begin_0, stp_aload_n, pR_begin_1, stp_iconst, pR_begin_2, stp_putfield, qfR_19, rp_7_2, fi_7_2, nr_7_2, ss_C7 hS, pR_begin_5, pR_begin_6, stp_iload_n, pR_begin_7, stp_bipush, pR_begin_9, stp_invokestatic, qmR_23, pR_begin_12, qfR_15, rp_7_1, fi_7_1, nr_7_1, pR_begin_15, pR_begin_16, stp_istore_n, pR_begin_17, pR_begin_18, pR_begin_19, stp_getfield, pR_begin_22, stp_if_icmp_ge, pR_begin_25, pR_begin_26, qfR_9, rp_7_0, ss_R7_0 hS, ss_C183 hS, ss_N183 hS, pR_begin_29, pR_begin_30, pR_begin_31, stp_iastore, pR_begin_32, stp_iinc, pR_begin_35, stp_goto, pR_begin_38, stp_return_, ic_1, bp_14, ic_0, nv_R_begin, ml_R_begin]
    exact lp
  · cases h
