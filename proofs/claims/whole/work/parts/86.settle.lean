/-! scales settled -/
def seU (w : Wd) (p o : Int32) : Nat → Wd
  | 0 => w
  | i + 1 => if wI w 11 i 10 = p then coW (seU w p o i) i o else seU w p o i
theorem coW_2 (w : Wd) (j : Nat) (o : Int32) : (coW w j o).2 = w.2 := by unfold coW; rw [sI_2, sI_2]
theorem seU_2 (w : Wd) (p o : Int32) (i : Nat) : (seU w p o i).2 = w.2 := by
  induction i with
  | zero => rfl
  | succ i ih =>
    rw [seU]
    split
    · rw [coW_2]; exact ih
    · exact ih
theorem seU_t (w : Wd) (p o : Int32) (i t k q : Nat) (h : ¬ (t = 11 ∧ k < i ∧ (q = 8 ∨ q = 10))) : wI (seU w p o i) t k q = wI w t k q := by
  induction i with
  | zero => rfl
  | succ i ih =>
    have ih := ih (by omega)
    rw [seU]
    split
    · unfold coW
      rw [yI_sI, if_neg (by omega), yI_sI, if_neg (by omega)]
      exact ih
    · exact ih
theorem LtS_cg {w w' : Wd} {j : Nat} (h2 : w'.2 = w.2) (h : LtS w j) : LtS w' j := by
  unfold LtS at h ⊢
  simp only [w2_R h2, w2_C h2, w2_N h2]
  exact h
def seF (w : Wd) (p : Int32) : Nat → Bool := fun j => decide (wI w 11 j 10 = p)
section
variable {l : Launch} {G : Gc} {n : Nat} {Q : Option AV → Wd → Prop} {w : Wd}
set_option maxRecDepth 100000 in
set_option maxHeartbeats 4000000 in
theorem stS_settle {p o : Int32} {i : Nat} {l5 : Option AV} (hl : 4 ≤ n) (hP : Cpl w) (hi : i < cn w 17) (ih : ∀ l5, WP l G mS_settle n 0 0 Q 5 [some (.inr (.inr (some (0, 0)))), some (.inl p), some (.inl o), some (.inl (cntN (seF w p) (i + 1))), some (.inl (nI (i + 1))), l5] [] (seU w p o (i + 1)) 0 0) : WP l G mS_settle n 0 0 Q 5 [some (.inr (.inr (some (0, 0)))), some (.inl p), some (.inl o), some (.inl (cntN (seF w p) i)), some (.inl (nI i)), l5] [] (seU w p o i) 0 0 := by
  have h24 := hP.2.1.2.2.2.1.2
  have z2 := seU_2 w p o i
  have hS := SSh_of hP.1 z2
  have hL := LiS_cg z2 (seU_t w p o i 2 1 2 (by omega)) hP.2.2.2.1
  have rs := ruL_size hL
  have rg : fsL_get [.inr (.inr (some (2, 1))), .inl (nI i)] (seU w p o i) = some (some (.inr (.inr (some (10, i)))), seU w p o i) := ruL_get hL hi
  have hs := LtS_cg z2 (Cpl_lot hP hi).1
  have q1 : ¬ nI (cn w 17) ≤ nI i := nI_ge hi (by omega)
  have r10 := seU_t w p o i 11 i 10 (by omega)
  have rc := ruE_correct (o := o) hs.2.2.1
  have hl1 : lvL_size < n := by show 1 < n; omega
  have hl2 : lvL_get < n := by show 3 < n; omega
  have hl3 : lvE_correct < n := by unfold lvE_correct; omega
  have ih := ih (some (.inr (.inr (some (11, i)))))
  refine wpn_ok (M := mS_settle) (C := cenS) (X := (alk [(96, lvL_size, fsL_size), (277, lvL_get, fsL_get), (394, lvE_correct, fsE_correct)])) (tb := tS_settle) (st := [5]) eoS (XOk_cons qmS_96 (okL_size l G) (XOk_cons qmS_277 (okL_get l G) (XOk_cons qmS_394 (okE_correct l G) XOk_nil))) kS_settle 60 _ _ _ _ _ _ ?_
  by_cases c : wI w 11 i 10 = p
  · rw [seU, if_pos c, cntN, show seF w p i = true from decide_eq_true c, show bI true = 1 from rfl] at ih
    simp only [reduceCtorEq, fv0, fv1, fv2, fv3, bI_0, bI_1, bft, MSh_sI_eq, fsP_T, inL_0, inL_s, pad_0, pad_n, pad_s, wpn_s, wp1_s, lg_0, lg_s, lset_0, lset_s, kil_0, kil_s, st1_s, st2_s, isL_i, isL_l, isL_r, isL_n, spl_0, spl_s, cll_n, cll_s, catS_0, catS_s, jmp_s, alk_0, alk_s, otl_n, otl_s, List.nil_append, List.cons_append, List.contains_cons, List.contains_nil, Nat.reduceBEq, Bool.or_false, Bool.false_or, Bool.or_self, Bool.false_eq_true, Bool.true_or, Bool.or_true, if_true, if_false, ite_true, ite_false, ↓reduceIte, List.length_cons, List.length_nil, Nat.reduceAdd, Nat.reduceLT, Nat.reduceLeDiff, Nat.reduceEqDiff, Int.reduceAdd, Int.reduceLE, Int.toNat_natCast, Int.reduceToNat, Int.cast_ofNat_Int, true_and, and_true, false_and, and_false, true_implies, forall_const, eq_self, and_self, or_true, true_or, or_self, false_or, or_false, yI_sI, yR_sI, yC_sI, yN_sI, yI_sR, yR_sR, yC_sR, yN_sR, not_true_eq_false, not_false_eq_true, false_implies, implies_true, Nat.zero_add, Nat.add_zero, Nat.le_refl, Nat.reduceSub, Int.reduceSub, Int.reduceLT, Int.sub_zero, Int.sub_self, List.getElem?_toArray, List.getElem?_cons_zero, List.getElem?_cons_succ, Int.toNat_zero, Int.toNat_one, Int.lt_irrefl, yI_sB, yR_sB, yC_sB, yN_sB, MSh_sB_eq, pS_settle_0, stp_iconst, pS_settle_1, stp_istore_n, pS_settle_2, pS_settle_3, stp_istore, pS_settle_5, stp_iload, pS_settle_7, stp_aload_n, pS_settle_8, stp_getfield, qfS_19, rp_0_1, ss_C0 hS, ss_R0_1 hS, ss_C2 hS, pS_settle_11, stp_invokevirtual, qmS_96, cy_L_size, pS_settle_14, stp_if_icmp_ge, pS_settle_17, pS_settle_18, pS_settle_21, pS_settle_23, qmS_277, cy_L_get, pS_settle_26, stp_checkcast, qtS_132, pS_settle_29, qfS_186, rp_10_2, pS_settle_32, stp_astore, pS_settle_34, stp_aload, pS_settle_36, qfS_391, rp_11_10, pS_settle_39, stp_iload_n, pS_settle_40, stp_if_icmp_ne, pS_settle_43, pS_settle_45, pS_settle_46, qmS_394, cy_E_correct, pS_settle_49, stp_iinc, pS_settle_52, pS_settle_55, stp_goto, pS_settle_58, pS_settle_59, stp_ifCond_ne, pS_settle_62, pS_settle_63, pS_settle_66, pS_settle_67, stp_ireturn, ic_0, ic_1, nv_S_settle, ml_S_settle, hs.1, hs.2.1, hs.2.2.1, rs, rg, rc, r10, c, q1, hl1, hl2, hl3, nI_1]
    exact ih
  · rw [seU, if_neg c, cntN, show seF w p i = false from decide_eq_false c, show bI false = 0 from rfl, Int32.add_zero] at ih
    simp only [reduceCtorEq, fv0, fv1, fv2, fv3, bI_0, bI_1, bft, MSh_sI_eq, fsP_T, inL_0, inL_s, pad_0, pad_n, pad_s, wpn_s, wp1_s, lg_0, lg_s, lset_0, lset_s, kil_0, kil_s, st1_s, st2_s, isL_i, isL_l, isL_r, isL_n, spl_0, spl_s, cll_n, cll_s, catS_0, catS_s, jmp_s, alk_0, alk_s, otl_n, otl_s, List.nil_append, List.cons_append, List.contains_cons, List.contains_nil, Nat.reduceBEq, Bool.or_false, Bool.false_or, Bool.or_self, Bool.false_eq_true, Bool.true_or, Bool.or_true, if_true, if_false, ite_true, ite_false, ↓reduceIte, List.length_cons, List.length_nil, Nat.reduceAdd, Nat.reduceLT, Nat.reduceLeDiff, Nat.reduceEqDiff, Int.reduceAdd, Int.reduceLE, Int.toNat_natCast, Int.reduceToNat, Int.cast_ofNat_Int, true_and, and_true, false_and, and_false, true_implies, forall_const, eq_self, and_self, or_true, true_or, or_self, false_or, or_false, yI_sI, yR_sI, yC_sI, yN_sI, yI_sR, yR_sR, yC_sR, yN_sR, not_true_eq_false, not_false_eq_true, false_implies, implies_true, Nat.zero_add, Nat.add_zero, Nat.le_refl, Nat.reduceSub, Int.reduceSub, Int.reduceLT, Int.sub_zero, Int.sub_self, List.getElem?_toArray, List.getElem?_cons_zero, List.getElem?_cons_succ, Int.toNat_zero, Int.toNat_one, Int.lt_irrefl, yI_sB, yR_sB, yC_sB, yN_sB, MSh_sB_eq, pS_settle_0, stp_iconst, pS_settle_1, stp_istore_n, pS_settle_2, pS_settle_3, stp_istore, pS_settle_5, stp_iload, pS_settle_7, stp_aload_n, pS_settle_8, stp_getfield, qfS_19, rp_0_1, ss_C0 hS, ss_R0_1 hS, ss_C2 hS, pS_settle_11, stp_invokevirtual, qmS_96, cy_L_size, pS_settle_14, stp_if_icmp_ge, pS_settle_17, pS_settle_18, pS_settle_21, pS_settle_23, qmS_277, cy_L_get, pS_settle_26, stp_checkcast, qtS_132, pS_settle_29, qfS_186, rp_10_2, pS_settle_32, stp_astore, pS_settle_34, stp_aload, pS_settle_36, qfS_391, rp_11_10, pS_settle_39, stp_iload_n, pS_settle_40, stp_if_icmp_ne, pS_settle_43, pS_settle_45, pS_settle_46, qmS_394, cy_E_correct, pS_settle_49, stp_iinc, pS_settle_52, pS_settle_55, stp_goto, pS_settle_58, pS_settle_59, stp_ifCond_ne, pS_settle_62, pS_settle_63, pS_settle_66, pS_settle_67, stp_ireturn, ic_0, ic_1, nv_S_settle, ml_S_settle, hs.1, hs.2.1, hs.2.2.1, rs, rg, rc, r10, c, q1, hl1, hl2, hl3, nI_1]
    exact ih
set_option maxRecDepth 100000 in
set_option maxHeartbeats 4000000 in
theorem lpS_settle {p o : Int32} (hl : 4 ≤ n) (hP : Cpl w) (hQ : Q (some (.inl (if o = 0 then 0 else cntN (seF w p) (cn w 17)))) (seU w p o (cn w 17))) : ∀ c i l5, i + c = cn w 17 → WP l G mS_settle n 0 0 Q 5 [some (.inr (.inr (some (0, 0)))), some (.inl p), some (.inl o), some (.inl (cntN (seF w p) i)), some (.inl (nI i)), l5] [] (seU w p o i) 0 0
  | 0, i, l5, hi => by
    have e : i = cn w 17 := hi
    subst e
    have z2 := seU_2 w p o (cn w 17)
    have hS := SSh_of hP.1 z2
    have hL := LiS_cg z2 (seU_t w p o (cn w 17) 2 1 2 (by omega)) hP.2.2.2.1
    have rs := ruL_size hL
    have hl3 : lvL_size < n := by show 1 < n; omega
    refine wpn_ok (M := mS_settle) (C := cenS) (X := (alk [(96, lvL_size, fsL_size)])) (tb := tS_settle) (st := [5]) eoS (XOk_cons qmS_96 (okL_size l G) XOk_nil) kS_settle 60 _ _ _ _ _ _ ?_
    by_cases c : o = 0
    · subst c
      rw [if_pos rfl] at hQ
      simp only [reduceCtorEq, fv0, fv1, fv2, fv3, bI_0, bI_1, bft, MSh_sI_eq, fsP_T, inL_0, inL_s, pad_0, pad_n, pad_s, wpn_s, wp1_s, lg_0, lg_s, lset_0, lset_s, kil_0, kil_s, st1_s, st2_s, isL_i, isL_l, isL_r, isL_n, spl_0, spl_s, cll_n, cll_s, catS_0, catS_s, jmp_s, alk_0, alk_s, otl_n, otl_s, List.nil_append, List.cons_append, List.contains_cons, List.contains_nil, Nat.reduceBEq, Bool.or_false, Bool.false_or, Bool.or_self, Bool.false_eq_true, Bool.true_or, Bool.or_true, if_true, if_false, ite_true, ite_false, ↓reduceIte, List.length_cons, List.length_nil, Nat.reduceAdd, Nat.reduceLT, Nat.reduceLeDiff, Nat.reduceEqDiff, Int.reduceAdd, Int.reduceLE, Int.toNat_natCast, Int.reduceToNat, Int.cast_ofNat_Int, true_and, and_true, false_and, and_false, true_implies, forall_const, eq_self, and_self, or_true, true_or, or_self, false_or, or_false, yI_sI, yR_sI, yC_sI, yN_sI, yI_sR, yR_sR, yC_sR, yN_sR, not_true_eq_false, not_false_eq_true, false_implies, implies_true, Nat.zero_add, Nat.add_zero, Nat.le_refl, Nat.reduceSub, Int.reduceSub, Int.reduceLT, Int.sub_zero, Int.sub_self, List.getElem?_toArray, List.getElem?_cons_zero, List.getElem?_cons_succ, Int.toNat_zero, Int.toNat_one, Int.lt_irrefl, yI_sB, yR_sB, yC_sB, yN_sB, MSh_sB_eq, pS_settle_0, stp_iconst, pS_settle_1, stp_istore_n, pS_settle_2, pS_settle_3, stp_istore, pS_settle_5, stp_iload, pS_settle_7, stp_aload_n, pS_settle_8, stp_getfield, qfS_19, rp_0_1, ss_C0 hS, ss_R0_1 hS, ss_C2 hS, pS_settle_11, stp_invokevirtual, qmS_96, cy_L_size, pS_settle_14, stp_if_icmp_ge, pS_settle_17, pS_settle_18, pS_settle_21, pS_settle_23, qmS_277, cy_L_get, pS_settle_26, stp_checkcast, qtS_132, pS_settle_29, qfS_186, rp_10_2, pS_settle_32, stp_astore, pS_settle_34, stp_aload, pS_settle_36, qfS_391, rp_11_10, pS_settle_39, stp_iload_n, pS_settle_40, stp_if_icmp_ne, pS_settle_43, pS_settle_45, pS_settle_46, qmS_394, cy_E_correct, pS_settle_49, stp_iinc, pS_settle_52, pS_settle_55, stp_goto, pS_settle_58, pS_settle_59, stp_ifCond_ne, pS_settle_62, pS_settle_63, pS_settle_66, pS_settle_67, stp_ireturn, ic_0, ic_1, nv_S_settle, ml_S_settle, rs, hl3, Int32.le_refl, not_true_eq_false]
      exact hQ
    · rw [if_neg c] at hQ
      simp only [reduceCtorEq, fv0, fv1, fv2, fv3, bI_0, bI_1, bft, MSh_sI_eq, fsP_T, inL_0, inL_s, pad_0, pad_n, pad_s, wpn_s, wp1_s, lg_0, lg_s, lset_0, lset_s, kil_0, kil_s, st1_s, st2_s, isL_i, isL_l, isL_r, isL_n, spl_0, spl_s, cll_n, cll_s, catS_0, catS_s, jmp_s, alk_0, alk_s, otl_n, otl_s, List.nil_append, List.cons_append, List.contains_cons, List.contains_nil, Nat.reduceBEq, Bool.or_false, Bool.false_or, Bool.or_self, Bool.false_eq_true, Bool.true_or, Bool.or_true, if_true, if_false, ite_true, ite_false, ↓reduceIte, List.length_cons, List.length_nil, Nat.reduceAdd, Nat.reduceLT, Nat.reduceLeDiff, Nat.reduceEqDiff, Int.reduceAdd, Int.reduceLE, Int.toNat_natCast, Int.reduceToNat, Int.cast_ofNat_Int, true_and, and_true, false_and, and_false, true_implies, forall_const, eq_self, and_self, or_true, true_or, or_self, false_or, or_false, yI_sI, yR_sI, yC_sI, yN_sI, yI_sR, yR_sR, yC_sR, yN_sR, not_true_eq_false, not_false_eq_true, false_implies, implies_true, Nat.zero_add, Nat.add_zero, Nat.le_refl, Nat.reduceSub, Int.reduceSub, Int.reduceLT, Int.sub_zero, Int.sub_self, List.getElem?_toArray, List.getElem?_cons_zero, List.getElem?_cons_succ, Int.toNat_zero, Int.toNat_one, Int.lt_irrefl, yI_sB, yR_sB, yC_sB, yN_sB, MSh_sB_eq, pS_settle_0, stp_iconst, pS_settle_1, stp_istore_n, pS_settle_2, pS_settle_3, stp_istore, pS_settle_5, stp_iload, pS_settle_7, stp_aload_n, pS_settle_8, stp_getfield, qfS_19, rp_0_1, ss_C0 hS, ss_R0_1 hS, ss_C2 hS, pS_settle_11, stp_invokevirtual, qmS_96, cy_L_size, pS_settle_14, stp_if_icmp_ge, pS_settle_17, pS_settle_18, pS_settle_21, pS_settle_23, qmS_277, cy_L_get, pS_settle_26, stp_checkcast, qtS_132, pS_settle_29, qfS_186, rp_10_2, pS_settle_32, stp_astore, pS_settle_34, stp_aload, pS_settle_36, qfS_391, rp_11_10, pS_settle_39, stp_iload_n, pS_settle_40, stp_if_icmp_ne, pS_settle_43, pS_settle_45, pS_settle_46, qmS_394, cy_E_correct, pS_settle_49, stp_iinc, pS_settle_52, pS_settle_55, stp_goto, pS_settle_58, pS_settle_59, stp_ifCond_ne, pS_settle_62, pS_settle_63, pS_settle_66, pS_settle_67, stp_ireturn, ic_0, ic_1, nv_S_settle, ml_S_settle, rs, hl3, c, Int32.le_refl]
      exact hQ
  | c + 1, i, l5, hi => stS_settle hl hP (by omega) (fun l5' => lpS_settle hl hP hQ c (i + 1) l5' (by omega))
end
abbrev lvS_settle : Nat := 4
noncomputable def fsS_settle : FS := fun as w => match as with
  | [.inr (.inr (some (0, 0))), .inl p, .inl o] => fsP (Cpl w) (some (.inl (if o = 0 then 0 else cntN (seF w p) (cn w 17))), seU w p o (cn w 17))
  | _ => none
set_option maxRecDepth 100000 in
set_option maxHeartbeats 4000000 in
theorem okS_settle (l : Launch) (G : Gc) : FsOk l G mS_settle lvS_settle fsS_settle := by
  intro as w r w' h
  simp only [fsS_settle] at h
  split at h
  · rename_i p o
    obtain ⟨hP, h⟩ := fsP_s h
    cases h
    have hS := hP.1
    refine Sem_of (by decide) rfl (Nat.le_of_ble_eq_true rfl) ?_
    refine wpn_ok (M := mS_settle) (C := cenS) (X := (alk [])) (tb := tS_settle) (st := [5]) eoS XOk_nil kS_settle 60 _ _ _ _ _ _ ?_
    simp only [reduceCtorEq, fv0, fv1, fv2, fv3, bI_0, bI_1, bft, MSh_sI_eq, fsP_T, inL_0, inL_s, pad_0, pad_n, pad_s, wpn_s, wp1_s, lg_0, lg_s, lset_0, lset_s, kil_0, kil_s, st1_s, st2_s, isL_i, isL_l, isL_r, isL_n, spl_0, spl_s, cll_n, cll_s, catS_0, catS_s, jmp_s, alk_0, alk_s, otl_n, otl_s, List.nil_append, List.cons_append, List.contains_cons, List.contains_nil, Nat.reduceBEq, Bool.or_false, Bool.false_or, Bool.or_self, Bool.false_eq_true, Bool.true_or, Bool.or_true, if_true, if_false, ite_true, ite_false, ↓reduceIte, List.length_cons, List.length_nil, Nat.reduceAdd, Nat.reduceLT, Nat.reduceLeDiff, Nat.reduceEqDiff, Int.reduceAdd, Int.reduceLE, Int.toNat_natCast, Int.reduceToNat, Int.cast_ofNat_Int, true_and, and_true, false_and, and_false, true_implies, forall_const, eq_self, and_self, or_true, true_or, or_self, false_or, or_false, yI_sI, yR_sI, yC_sI, yN_sI, yI_sR, yR_sR, yC_sR, yN_sR, not_true_eq_false, not_false_eq_true, false_implies, implies_true, Nat.zero_add, Nat.add_zero, Nat.le_refl, Nat.reduceSub, Int.reduceSub, Int.reduceLT, Int.sub_zero, Int.sub_self, List.getElem?_toArray, List.getElem?_cons_zero, List.getElem?_cons_succ, Int.toNat_zero, Int.toNat_one, Int.lt_irrefl, yI_sB, yR_sB, yC_sB, yN_sB, MSh_sB_eq, pS_settle_0, stp_iconst, pS_settle_1, stp_istore_n, pS_settle_2, pS_settle_3, stp_istore, pS_settle_5, stp_iload, pS_settle_7, stp_aload_n, pS_settle_8, stp_getfield, qfS_19, rp_0_1, ss_C0 hS, ss_R0_1 hS, ss_C2 hS, pS_settle_11, stp_invokevirtual, qmS_96, cy_L_size, pS_settle_14, stp_if_icmp_ge, pS_settle_17, pS_settle_18, pS_settle_21, pS_settle_23, qmS_277, cy_L_get, pS_settle_26, stp_checkcast, qtS_132, pS_settle_29, qfS_186, rp_10_2, pS_settle_32, stp_astore, pS_settle_34, stp_aload, pS_settle_36, qfS_391, rp_11_10, pS_settle_39, stp_iload_n, pS_settle_40, stp_if_icmp_ne, pS_settle_43, pS_settle_45, pS_settle_46, qmS_394, cy_E_correct, pS_settle_49, stp_iinc, pS_settle_52, pS_settle_55, stp_goto, pS_settle_58, pS_settle_59, stp_ifCond_ne, pS_settle_62, pS_settle_63, pS_settle_66, pS_settle_67, stp_ireturn, ic_0, ic_1, nv_S_settle, ml_S_settle]
    exact lpS_settle (Nat.le_refl _) hP ⟨rfl, rfl⟩ (cn w 17) 0 none (by omega)
  · cases h
theorem ruS_settle {w : Wd} {p o : Int32} (h : Cpl w) : fsS_settle [.inr (.inr (some (0, 0))), .inl p, .inl o] w = some (some (.inl (if o = 0 then 0 else cntN (seF w p) (cn w 17))), seU w p o (cn w 17)) := fsP_t h
