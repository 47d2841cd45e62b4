/-! the class and the reference side by side -/
def Cp0 (w : Wd) : Prop := wI w 0 0 9 = wI w 13 0 2 ∧ wI w 1 0 4 = wI w 13 0 3 ∧ wI w 3 0 1 = wI w 13 0 58 ∧ wI w 5 0 2 = wI w 13 0 63 ∧ (∀ b, b < 9 → wI w 170 0 b = wI w 101 0 b) ∧ (∀ p, p < cn w 3 → wI w 171 0 p = wI w 104 0 p ∧ wI w 172 0 p = wI w 105 0 p) ∧ (∀ i, i < cn w 58 → wI w 174 0 i = wI w 159 0 i) ∧ (∀ i, i < cn w 63 → wI w 175 0 i = wI w 164 0 i ∧ wI w 176 0 i = wI w 165 0 i)
/-- a lot, its sale: the same on both sides -/
def LtC (w : Wd) (j : Nat) : Prop := wI w 10 j 0 = wI w 121 0 j ∧ wI w 10 j 1 = wI w 122 0 j ∧ wI w 10 j 3 = wI w 118 0 j ∧ wI w 10 j 4 = wI w 119 0 j ∧ wI w 10 j 5 = wI w 120 0 j ∧ wI w 10 j 6 = wI w 126 0 j ∧ wI w 10 j 7 = wI w 123 0 j ∧ wI w 10 j 8 = wI w 124 0 j ∧ wI w 10 j 9 = wI w 125 0 j ∧ wI w 10 j 10 = wI w 227 0 j ∧
  wI w 11 j 7 = wI w 128 0 j ∧ wI w 11 j 9 = wI w 230 0 j ∧ wI w 11 j 9 = wI w 239 0 j ∧ wI w 11 j 10 = wI w 134 0 j ∧ (∀ b, b < 5 → wI w 187 j b = wI w 136 0 (5 * j + b)) ∧ (∀ b, b < 5 → bI (btB (wI w 11 j 3) b) = wI w 235 0 (5 * j + b)) ∧
  (¬ wI w 128 0 j = -1 → wI w 11 j 4 = wI w 129 0 j ∧ wI w 118 0 j = 0) ∧ (¬ wI w 230 0 j = 0 → wI w 11 j 5 = wI w 133 0 j ∧ wI w 11 j 6 = wI w 120 0 j * wI w 132 0 j ∧ wI w 11 j 8 = wI w 131 0 j ∧ ¬ wI w 128 0 j = -1) ∧ (wI w 227 0 j = 0 ∨ wI w 227 0 j = 1) ∧ (wI w 230 0 j = 0 ∨ wI w 230 0 j = 1) ∧ (¬ wI w 134 0 j = -1 → ¬ wI w 230 0 j = 0) ∧ inR (wI w 119 0 j) 0 5 = true ∧ (wI w 123 0 j = -1 ↔ ¬ wI w 124 0 j = -1) ∧ (wI w 125 0 j = -1 ↔ wI w 124 0 j = -1)
def CpL (w : Wd) : Prop := LiS w 1 (cn w 17) (fun j => (10, j)) ∧ ∀ j, j < cn w 17 → LtS w j ∧ LtC w j
theorem hp_eq {w : Wd} {p : Int32} (h3 : okc w 3 14) : inR p 0 (wI w 13 0 3 - 1) = (!decide (p < 0) && decide (p < wI w 13 0 3)) := by
  have h14 := h3.2
  cases hc : inR p 0 (wI w 13 0 3 - 1) with
  | true =>
    obtain ⟨j, hj, rfl⟩ := okc_in h3 (by omega) hc
    rw [h3.1]
    have e1 : ¬ nI j < 0 := nI_pos (by omega)
    have e2 : nI j < nI (cn w 3) := nI_lt hj (by omega)
    simp [e1, e2, -Int32.not_lt]
  | false =>
    by_cases q : p < 0
    · simp [q]
    · obtain ⟨j, hj, rfl⟩ := nI_of q
      have e2 : ¬ nI j < wI w 13 0 3 := fun z => by
        rw [h3.1, nI_ltI (by omega) (by omega)] at z
        rw [okc_inR h3 (by omega) z] at hc
        cases hc
      simp [e2, -Int32.not_lt]
theorem lp_eq {w : Wd} {p : Int32} (h17 : okc w 17 24) : inR p 0 (wI w 13 0 17 - 1) = (!decide (p < 0) && decide (p < wI w 13 0 17)) := by
  have h14 := h17.2
  cases hc : inR p 0 (wI w 13 0 17 - 1) with
  | true =>
    obtain ⟨j, hj, rfl⟩ := okc_in h17 (by omega) hc
    rw [h17.1]
    have e1 : ¬ nI j < 0 := nI_pos (by omega)
    have e2 : nI j < nI (cn w 17) := nI_lt hj (by omega)
    simp [e1, e2, -Int32.not_lt]
  | false =>
    by_cases q : p < 0
    · simp [q]
    · obtain ⟨j, hj, rfl⟩ := nI_of q
      have e2 : ¬ nI j < wI w 13 0 17 := fun z => by
        rw [h17.1, nI_ltI (by omega) (by omega)] at z
        rw [okc_inR h17 (by omega) z] at hc
        cases hc
      simp [e2, -Int32.not_lt]
/-! small methods -/
abbrev lvS_within : Nat := 1
def fsS_within : FS := fun as w => match as with
  | [.inl v, .inl a, .inl b] => some (some (.inl (bI (inR v a (b)))), w)
  | _ => none
theorem okS_within (l : Launch) (G : Gc) : FsOk l G mS_within lvS_within fsS_within := by
  intro as w r w' h
  simp only [fsS_within] at h
  split at h
  · rename_i v a b
    cases h
    refine Sem_of (by decide) rfl (Nat.le_of_ble_eq_true rfl) ?_
    refine wpn_ok (M := mS_within) (C := cenS) (X := (alk [])) (tb := tS_within) (st := []) eoS XOk_nil kS_within 30 _ _ _ _ _ _ ?_
    simp only [reduceCtorEq, fv0, fv1, fv2, fv3, bI_0, bI_1, bft, MSh_sI_eq, fsP_T, inL_0, inL_s, pad_0, pad_n, pad_s, wpn_s, wp1_s, lg_0, lg_s, lset_0, lset_s, kil_0, kil_s, st1_s, st2_s, isL_i, isL_l, isL_r, isL_n, spl_0, spl_s, cll_n, cll_s, catS_0, catS_s, jmp_s, alk_0, alk_s, otl_n, otl_s, List.nil_append, List.cons_append, List.contains_cons, List.contains_nil, Nat.reduceBEq, Bool.or_false, Bool.false_or, Bool.or_self, Bool.false_eq_true, Bool.true_or, Bool.or_true, if_true, if_false, ite_true, ite_false, ↓reduceIte, List.length_cons, List.length_nil, Nat.reduceAdd, Nat.reduceLT, Nat.reduceLeDiff, Nat.reduceEqDiff, Int.reduceAdd, Int.reduceLE, Int.toNat_natCast, Int.reduceToNat, Int.cast_ofNat_Int, true_and, and_true, false_and, and_false, true_implies, forall_const, eq_self, and_self, or_true, true_or, or_self, false_or, or_false, yI_sI, yR_sI, yC_sI, yN_sI, yI_sR, yR_sR, yC_sR, yN_sR, not_true_eq_false, not_false_eq_true, false_implies, implies_true, Nat.zero_add, Nat.add_zero, Nat.le_refl, Nat.reduceSub, Int.reduceSub, Int.reduceLT, Int.sub_zero, Int.sub_self, List.getElem?_toArray, List.getElem?_cons_zero, List.getElem?_cons_succ, Int.toNat_zero, Int.toNat_one, Int.lt_irrefl, yI_sB, yR_sB, yC_sB, yN_sB, MSh_sB_eq, pS_within_0, stp_iload_n, pS_within_1, pS_within_2, stp_if_icmp_lt, pS_within_5, pS_within_6, pS_within_7, stp_if_icmp_gt, pS_within_10, stp_iconst, pS_within_11, stp_goto, pS_within_14, pS_within_15, stp_ireturn, ic_1, ic_0, nv_S_within, ml_S_within]
    refine ⟨fun h => by rw [inR_1 h]; rfl, fun h => ⟨fun h2 => by rw [inR_2 h2]; rfl, fun h2 => by rw [inR_t h h2]; rfl⟩⟩
  · cases h
abbrev lvS_isOwner : Nat := 2
def fsS_isOwner : FS := fun as w => match as with
  | [.inl v] => some (some (.inl (bI (inR v 0 (5)))), w)
  | _ => none
set_option maxRecDepth 100000 in
set_option maxHeartbeats 4000000 in
theorem okS_isOwner (l : Launch) (G : Gc) : FsOk l G mS_isOwner lvS_isOwner fsS_isOwner := by
  intro as w r w' h
  simp only [fsS_isOwner] at h
  split at h
  · rename_i v
    cases h
    refine Sem_of (by decide) rfl (Nat.le_of_ble_eq_true rfl) ?_
    refine wpn_ok (M := mS_isOwner) (C := cenS) (X := (alk [(75, lvS_within, fsS_within)])) (tb := tS_isOwner) (st := []) eoS (XOk_cons qmS_75 (okS_within l G) XOk_nil) kS_isOwner 200 _ _ _ _ _ _ ?_
    simp only [reduceCtorEq, fv0, fv1, fv2, fv3, bI_0, bI_1, bft, MSh_sI_eq, fsP_T, inL_0, inL_s, pad_0, pad_n, pad_s, wpn_s, wp1_s, lg_0, lg_s, lset_0, lset_s, kil_0, kil_s, st1_s, st2_s, isL_i, isL_l, isL_r, isL_n, spl_0, spl_s, cll_n, cll_s, catS_0, catS_s, jmp_s, alk_0, alk_s, otl_n, otl_s, List.nil_append, List.cons_append, List.contains_cons, List.contains_nil, Nat.reduceBEq, Bool.or_false, Bool.false_or, Bool.or_self, Bool.false_eq_true, Bool.true_or, Bool.or_true, if_true, if_false, ite_true, ite_false, ↓reduceIte, List.length_cons, List.length_nil, Nat.reduceAdd, Nat.reduceLT, Nat.reduceLeDiff, Nat.reduceEqDiff, Int.reduceAdd, Int.reduceLE, Int.toNat_natCast, Int.reduceToNat, Int.cast_ofNat_Int, true_and, and_true, false_and, and_false, true_implies, forall_const, eq_self, and_self, or_true, true_or, or_self, false_or, or_false, yI_sI, yR_sI, yC_sI, yN_sI, yI_sR, yR_sR, yC_sR, yN_sR, not_true_eq_false, not_false_eq_true, false_implies, implies_true, Nat.zero_add, Nat.add_zero, Nat.le_refl, Nat.reduceSub, Int.reduceSub, Int.reduceLT, Int.sub_zero, Int.sub_self, List.getElem?_toArray, List.getElem?_cons_zero, List.getElem?_cons_succ, Int.toNat_zero, Int.toNat_one, Int.lt_irrefl, yI_sB, yR_sB, yC_sB, yN_sB, MSh_sB_eq, pS_isOwner_0, stp_iload_n, pS_isOwner_1, stp_iconst, pS_isOwner_2, pS_isOwner_3, stp_invokestatic, qmS_75, cy_S_within, pS_isOwner_6, stp_ireturn, ic_0, ic_5, nv_S_isOwner, ml_S_isOwner, fsS_within, lvS_within, lvS_isOwner]
  · cases h
abbrev lvS_isBuyer : Nat := 2
def fsS_isBuyer : FS := fun as w => match as with
  | [.inl v] => some (some (.inl (bI (inR v 0 (4)))), w)
  | _ => none
set_option maxRecDepth 100000 in
set_option maxHeartbeats 4000000 in
theorem okS_isBuyer (l : Launch) (G : Gc) : FsOk l G mS_isBuyer lvS_isBuyer fsS_isBuyer := by
  intro as w r w' h
  simp only [fsS_isBuyer] at h
  split at h
  · rename_i v
    cases h
    refine Sem_of (by decide) rfl (Nat.le_of_ble_eq_true rfl) ?_
    refine wpn_ok (M := mS_isBuyer) (C := cenS) (X := (alk [(75, lvS_within, fsS_within)])) (tb := tS_isBuyer) (st := []) eoS (XOk_cons qmS_75 (okS_within l G) XOk_nil) kS_isBuyer 200 _ _ _ _ _ _ ?_
    simp only [reduceCtorEq, fv0, fv1, fv2, fv3, bI_0, bI_1, bft, MSh_sI_eq, fsP_T, inL_0, inL_s, pad_0, pad_n, pad_s, wpn_s, wp1_s, lg_0, lg_s, lset_0, lset_s, kil_0, kil_s, st1_s, st2_s, isL_i, isL_l, isL_r, isL_n, spl_0, spl_s, cll_n, cll_s, catS_0, catS_s, jmp_s, alk_0, alk_s, otl_n, otl_s, List.nil_append, List.cons_append, List.contains_cons, List.contains_nil, Nat.reduceBEq, Bool.or_false, Bool.false_or, Bool.or_self, Bool.false_eq_true, Bool.true_or, Bool.or_true, if_true, if_false, ite_true, ite_false, ↓reduceIte, List.length_cons, List.length_nil, Nat.reduceAdd, Nat.reduceLT, Nat.reduceLeDiff, Nat.reduceEqDiff, Int.reduceAdd, Int.reduceLE, Int.toNat_natCast, Int.reduceToNat, Int.cast_ofNat_Int, true_and, and_true, false_and, and_false, true_implies, forall_const, eq_self, and_self, or_true, true_or, or_self, false_or, or_false, yI_sI, yR_sI, yC_sI, yN_sI, yI_sR, yR_sR, yC_sR, yN_sR, not_true_eq_false, not_false_eq_true, false_implies, implies_true, Nat.zero_add, Nat.add_zero, Nat.le_refl, Nat.reduceSub, Int.reduceSub, Int.reduceLT, Int.sub_zero, Int.sub_self, List.getElem?_toArray, List.getElem?_cons_zero, List.getElem?_cons_succ, Int.toNat_zero, Int.toNat_one, Int.lt_irrefl, yI_sB, yR_sB, yC_sB, yN_sB, MSh_sB_eq, pS_isBuyer_0, stp_iload_n, pS_isBuyer_1, stp_iconst, pS_isBuyer_2, pS_isBuyer_3, stp_invokestatic, qmS_75, cy_S_within, pS_isBuyer_6, stp_ireturn, ic_0, ic_4, nv_S_isBuyer, ml_S_isBuyer, fsS_within, lvS_within, lvS_isBuyer]
  · cases h
abbrev lvS_isMark : Nat := 2
def fsS_isMark : FS := fun as w => match as with
  | [.inl v] => some (some (.inl (bI (inR v 0 (9999)))), w)
  | _ => none
set_option maxRecDepth 100000 in
set_option maxHeartbeats 4000000 in
theorem okS_isMark (l : Launch) (G : Gc) : FsOk l G mS_isMark lvS_isMark fsS_isMark := by
  intro as w r w' h
  simp only [fsS_isMark] at h
  split at h
  · rename_i v
    cases h
    refine Sem_of (by decide) rfl (Nat.le_of_ble_eq_true rfl) ?_
    refine wpn_ok (M := mS_isMark) (C := cenS) (X := (alk [(75, lvS_within, fsS_within)])) (tb := tS_isMark) (st := []) eoS (XOk_cons qmS_75 (okS_within l G) XOk_nil) kS_isMark 200 _ _ _ _ _ _ ?_
    simp only [reduceCtorEq, fv0, fv1, fv2, fv3, bI_0, bI_1, bft, MSh_sI_eq, fsP_T, inL_0, inL_s, pad_0, pad_n, pad_s, wpn_s, wp1_s, lg_0, lg_s, lset_0, lset_s, kil_0, kil_s, st1_s, st2_s, isL_i, isL_l, isL_r, isL_n, spl_0, spl_s, cll_n, cll_s, catS_0, catS_s, jmp_s, alk_0, alk_s, otl_n, otl_s, List.nil_append, List.cons_append, List.contains_cons, List.contains_nil, Nat.reduceBEq, Bool.or_false, Bool.false_or, Bool.or_self, Bool.false_eq_true, Bool.true_or, Bool.or_true, if_true, if_false, ite_true, ite_false, ↓reduceIte, List.length_cons, List.length_nil, Nat.reduceAdd, Nat.reduceLT, Nat.reduceLeDiff, Nat.reduceEqDiff, Int.reduceAdd, Int.reduceLE, Int.toNat_natCast, Int.reduceToNat, Int.cast_ofNat_Int, true_and, and_true, false_and, and_false, true_implies, forall_const, eq_self, and_self, or_true, true_or, or_self, false_or, or_false, yI_sI, yR_sI, yC_sI, yN_sI, yI_sR, yR_sR, yC_sR, yN_sR, not_true_eq_false, not_false_eq_true, false_implies, implies_true, Nat.zero_add, Nat.add_zero, Nat.le_refl, Nat.reduceSub, Int.reduceSub, Int.reduceLT, Int.sub_zero, Int.sub_self, List.getElem?_toArray, List.getElem?_cons_zero, List.getElem?_cons_succ, Int.toNat_zero, Int.toNat_one, Int.lt_irrefl, yI_sB, yR_sB, yC_sB, yN_sB, MSh_sB_eq, pS_isMark_0, stp_iload_n, pS_isMark_1, stp_iconst, pS_isMark_2, stp_sipush, pS_isMark_5, stp_invokestatic, qmS_75, cy_S_within, pS_isMark_8, stp_ireturn, ic_0, sp_9999, nv_S_isMark, ml_S_isMark, fsS_within, lvS_within, lvS_isMark]
  · cases h
theorem n10 : ¬ (10 : Int32) = 0 := by decide
theorem n10000 : ¬ (10000 : Int32) = 0 := by decide
abbrev lvS_tellsOwner : Nat := 3
def fsS_tellsOwner : FS := fun as w => match as with
  | [.inl v] => some (some (.inl (bI (!decide (v < 0) && inR (v - v / 10 * 10) 0 5))), w)
  | _ => none
set_option maxRecDepth 100000 in
set_option maxHeartbeats 4000000 in
theorem okS_tellsOwner (l : Launch) (G : Gc) : FsOk l G mS_tellsOwner lvS_tellsOwner fsS_tellsOwner := by
  intro as w r w' h
  simp only [fsS_tellsOwner] at h
  split at h
  · rename_i v
    cases h
    refine Sem_of (by decide) rfl (Nat.le_of_ble_eq_true rfl) ?_
    refine wpn_ok (M := mS_tellsOwner) (C := cenS) (X := (alk [(328, lvS_isOwner, fsS_isOwner)])) (tb := tS_tellsOwner) (st := []) eoS (XOk_cons qmS_328 (okS_isOwner l G) XOk_nil) kS_tellsOwner 200 _ _ _ _ _ _ ?_
    simp only [reduceCtorEq, fv0, fv1, fv2, fv3, bI_0, bI_1, bft, MSh_sI_eq, fsP_T, inL_0, inL_s, pad_0, pad_n, pad_s, wpn_s, wp1_s, lg_0, lg_s, lset_0, lset_s, kil_0, kil_s, st1_s, st2_s, isL_i, isL_l, isL_r, isL_n, spl_0, spl_s, cll_n, cll_s, catS_0, catS_s, jmp_s, alk_0, alk_s, otl_n, otl_s, List.nil_append, List.cons_append, List.contains_cons, List.contains_nil, Nat.reduceBEq, Bool.or_false, Bool.false_or, Bool.or_self, Bool.false_eq_true, Bool.true_or, Bool.or_true, if_true, if_false, ite_true, ite_false, ↓reduceIte, List.length_cons, List.length_nil, Nat.reduceAdd, Nat.reduceLT, Nat.reduceLeDiff, Nat.reduceEqDiff, Int.reduceAdd, Int.reduceLE, Int.toNat_natCast, Int.reduceToNat, Int.cast_ofNat_Int, true_and, and_true, false_and, and_false, true_implies, forall_const, eq_self, and_self, or_true, true_or, or_self, false_or, or_false, yI_sI, yR_sI, yC_sI, yN_sI, yI_sR, yR_sR, yC_sR, yN_sR, not_true_eq_false, not_false_eq_true, false_implies, implies_true, Nat.zero_add, Nat.add_zero, Nat.le_refl, Nat.reduceSub, Int.reduceSub, Int.reduceLT, Int.sub_zero, Int.sub_self, List.getElem?_toArray, List.getElem?_cons_zero, List.getElem?_cons_succ, Int.toNat_zero, Int.toNat_one, Int.lt_irrefl, yI_sB, yR_sB, yC_sB, yN_sB, MSh_sB_eq, pS_tellsOwner_0, stp_iload_n, pS_tellsOwner_1, stp_ifCond_lt, pS_tellsOwner_4, pS_tellsOwner_5, stp_bipush, pS_tellsOwner_7, stp_irem, pS_tellsOwner_8, stp_invokestatic, qmS_328, cy_S_isOwner, pS_tellsOwner_11, stp_ifCond_eq, pS_tellsOwner_14, stp_iconst, pS_tellsOwner_15, stp_goto, pS_tellsOwner_18, pS_tellsOwner_19, stp_ireturn, bp_10, ic_1, ic_0, nv_S_tellsOwner, ml_S_tellsOwner, fsS_isOwner, lvS_isOwner, lvS_tellsOwner, n10]
    by_cases h1 : v < 0
    · simp [h1, bI]
    · cases h2 : inR (v - v / 10 * 10) 0 5 <;> simp [h1, bI, -Int32.not_lt]
  · cases h
abbrev lvS_tellsHeads : Nat := 2
def fsS_tellsHeads : FS := fun as w => match as with
  | [.inl v] => some (some (.inl (bI (inR (v / 10000) 1 200 && inR (v - v / 10000 * 10000) 100 2000))), w)
  | _ => none
set_option maxRecDepth 100000 in
set_option maxHeartbeats 4000000 in
theorem okS_tellsHeads (l : Launch) (G : Gc) : FsOk l G mS_tellsHeads lvS_tellsHeads fsS_tellsHeads := by
  intro as w r w' h
  simp only [fsS_tellsHeads] at h
  split at h
  · rename_i v
    cases h
    refine Sem_of (by decide) rfl (Nat.le_of_ble_eq_true rfl) ?_
    refine wpn_ok (M := mS_tellsHeads) (C := cenS) (X := (alk [(75, lvS_within, fsS_within)])) (tb := tS_tellsHeads) (st := []) eoS (XOk_cons qmS_75 (okS_within l G) XOk_nil) kS_tellsHeads 200 _ _ _ _ _ _ ?_
    simp only [reduceCtorEq, fv0, fv1, fv2, fv3, bI_0, bI_1, bft, MSh_sI_eq, fsP_T, inL_0, inL_s, pad_0, pad_n, pad_s, wpn_s, wp1_s, lg_0, lg_s, lset_0, lset_s, kil_0, kil_s, st1_s, st2_s, isL_i, isL_l, isL_r, isL_n, spl_0, spl_s, cll_n, cll_s, catS_0, catS_s, jmp_s, alk_0, alk_s, otl_n, otl_s, List.nil_append, List.cons_append, List.contains_cons, List.contains_nil, Nat.reduceBEq, Bool.or_false, Bool.false_or, Bool.or_self, Bool.false_eq_true, Bool.true_or, Bool.or_true, if_true, if_false, ite_true, ite_false, ↓reduceIte, List.length_cons, List.length_nil, Nat.reduceAdd, Nat.reduceLT, Nat.reduceLeDiff, Nat.reduceEqDiff, Int.reduceAdd, Int.reduceLE, Int.toNat_natCast, Int.reduceToNat, Int.cast_ofNat_Int, true_and, and_true, false_and, and_false, true_implies, forall_const, eq_self, and_self, or_true, true_or, or_self, false_or, or_false, yI_sI, yR_sI, yC_sI, yN_sI, yI_sR, yR_sR, yC_sR, yN_sR, not_true_eq_false, not_false_eq_true, false_implies, implies_true, Nat.zero_add, Nat.add_zero, Nat.le_refl, Nat.reduceSub, Int.reduceSub, Int.reduceLT, Int.sub_zero, Int.sub_self, List.getElem?_toArray, List.getElem?_cons_zero, List.getElem?_cons_succ, Int.toNat_zero, Int.toNat_one, Int.lt_irrefl, yI_sB, yR_sB, yC_sB, yN_sB, MSh_sB_eq, pS_tellsHeads_0, stp_iload_n, pS_tellsHeads_1, stp_sipush, pS_tellsHeads_4, stp_idiv, pS_tellsHeads_5, stp_iconst, pS_tellsHeads_6, pS_tellsHeads_9, stp_invokestatic, qmS_75, cy_S_within, pS_tellsHeads_12, stp_ifCond_eq, pS_tellsHeads_15, pS_tellsHeads_16, pS_tellsHeads_19, stp_irem, pS_tellsHeads_20, stp_bipush, pS_tellsHeads_22, pS_tellsHeads_25, pS_tellsHeads_28, pS_tellsHeads_31, pS_tellsHeads_32, stp_goto, pS_tellsHeads_35, pS_tellsHeads_36, stp_ireturn, sp_10000, ic_1, sp_200, bp_100, sp_2000, ic_0, nv_S_tellsHeads, ml_S_tellsHeads, fsS_within, lvS_within, lvS_tellsHeads, n10000]
    cases h1 : inR (v / 10000) 1 200 <;> cases h2 : inR (v - v / 10000 * 10000) 100 2000 <;> simp [bI]
  · cases h
abbrev lvS_inSet : Nat := 1
noncomputable def fsS_inSet : FS := fun as w => match as with
  | [.inl x, .inl y] => fsP (∃ i, i < 32 ∧ y = nI i) (some (.inl (bI (btB x y.toNatClampNeg))), w)
  | _ => none
set_option maxRecDepth 100000 in
set_option maxHeartbeats 4000000 in
theorem okS_inSet (l : Launch) (G : Gc) : FsOk l G mS_inSet lvS_inSet fsS_inSet := by
  intro as w r w' h
  simp only [fsS_inSet] at h
  split at h
  · rename_i x y
    obtain ⟨⟨i, hi, rfl⟩, h⟩ := fsP_s h
    cases h
    rw [nI_clamp (by omega)]
    have e := bt_ushr x hi
    refine Sem_of (by decide) rfl (Nat.le_of_ble_eq_true rfl) ?_
    refine wpn_ok (M := mS_inSet) (C := cenS) (X := (alk [])) (tb := tS_inSet) (st := []) eoS XOk_nil kS_inSet 30 _ _ _ _ _ _ ?_
    simp only [reduceCtorEq, fv0, fv1, fv2, fv3, bI_0, bI_1, bft, MSh_sI_eq, fsP_T, inL_0, inL_s, pad_0, pad_n, pad_s, wpn_s, wp1_s, lg_0, lg_s, lset_0, lset_s, kil_0, kil_s, st1_s, st2_s, isL_i, isL_l, isL_r, isL_n, spl_0, spl_s, cll_n, cll_s, catS_0, catS_s, jmp_s, alk_0, alk_s, otl_n, otl_s, List.nil_append, List.cons_append, List.contains_cons, List.contains_nil, Nat.reduceBEq, Bool.or_false, Bool.false_or, Bool.or_self, Bool.false_eq_true, Bool.true_or, Bool.or_true, if_true, if_false, ite_true, ite_false, ↓reduceIte, List.length_cons, List.length_nil, Nat.reduceAdd, Nat.reduceLT, Nat.reduceLeDiff, Nat.reduceEqDiff, Int.reduceAdd, Int.reduceLE, Int.toNat_natCast, Int.reduceToNat, Int.cast_ofNat_Int, true_and, and_true, false_and, and_false, true_implies, forall_const, eq_self, and_self, or_true, true_or, or_self, false_or, or_false, yI_sI, yR_sI, yC_sI, yN_sI, yI_sR, yR_sR, yC_sR, yN_sR, not_true_eq_false, not_false_eq_true, false_implies, implies_true, Nat.zero_add, Nat.add_zero, Nat.le_refl, Nat.reduceSub, Int.reduceSub, Int.reduceLT, Int.sub_zero, Int.sub_self, List.getElem?_toArray, List.getElem?_cons_zero, List.getElem?_cons_succ, Int.toNat_zero, Int.toNat_one, Int.lt_irrefl, yI_sB, yR_sB, yC_sB, yN_sB, MSh_sB_eq, pS_inSet_0, stp_iload_n, pS_inSet_1, pS_inSet_2, stp_iushr, pS_inSet_3, stp_iconst, pS_inSet_4, stp_iand, pS_inSet_5, pS_inSet_6, stp_if_icmp_ne, pS_inSet_9, pS_inSet_10, stp_goto, pS_inSet_13, pS_inSet_14, stp_ireturn, ic_1, ic_0, nv_S_inSet, ml_S_inSet, e]
    cases btB x i <;> simp [bI]
  · cases h
theorem ruS_inSet {w : Wd} {x : Int32} {i : Nat} (hi : i < 32) : fsS_inSet [.inl x, .inl (nI i)] w = some (some (.inl (bI (btB x i))), w) := by
  have : fsS_inSet [.inl x, .inl (nI i)] w = fsP (∃ j, j < 32 ∧ nI i = nI j) (some (.inl (bI (btB x (nI i).toNatClampNeg))), w) := rfl
  rw [this, fsP_t ⟨i, hi, rfl⟩, nI_clamp (by omega)]
/-! one refusal more, in the class -/
def rfs (w : Wd) (b : Nat) : Wd := sI w 170 0 b (wI w 170 0 b + 1)
abbrev lvS_refuse : Nat := 2
noncomputable def fsS_refuse : FS := fun as w => match as with
  | [.inr (.inr (some (0, 0))), .inl v] => fsP (SSh w ∧ inR v (-8) (-2) = true) (some (.inl v), rfs w (-v).toNatClampNeg)
  | _ => none
set_option maxRecDepth 100000 in
set_option maxHeartbeats 4000000 in
theorem okS_refuse (l : Launch) (G : Gc) : FsOk l G mS_refuse lvS_refuse fsS_refuse := by
  intro as w r w' h
  simp only [fsS_refuse] at h
  split at h
  · rename_i v
    obtain ⟨⟨hS, hv⟩, h⟩ := fsP_s h
    cases h
    have hn := neg_in hv
    refine Sem_of (by decide) rfl (Nat.le_of_ble_eq_true rfl) ?_
    refine wpn_ok (M := mS_refuse) (C := cenS) (X := (alk [(75, lvS_within, fsS_within)])) (tb := tS_refuse) (st := []) eoS (XOk_cons qmS_75 (okS_within l G) XOk_nil) kS_refuse 30 _ _ _ _ _ _ ?_
    simp only [reduceCtorEq, fv0, fv1, fv2, fv3, bI_0, bI_1, bft, MSh_sI_eq, fsP_T, inL_0, inL_s, pad_0, pad_n, pad_s, wpn_s, wp1_s, lg_0, lg_s, lset_0, lset_s, kil_0, kil_s, st1_s, st2_s, isL_i, isL_l, isL_r, isL_n, spl_0, spl_s, cll_n, cll_s, catS_0, catS_s, jmp_s, alk_0, alk_s, otl_n, otl_s, List.nil_append, List.cons_append, List.contains_cons, List.contains_nil, Nat.reduceBEq, Bool.or_false, Bool.false_or, Bool.or_self, Bool.false_eq_true, Bool.true_or, Bool.or_true, if_true, if_false, ite_true, ite_false, ↓reduceIte, List.length_cons, List.length_nil, Nat.reduceAdd, Nat.reduceLT, Nat.reduceLeDiff, Nat.reduceEqDiff, Int.reduceAdd, Int.reduceLE, Int.toNat_natCast, Int.reduceToNat, Int.cast_ofNat_Int, true_and, and_true, false_and, and_false, true_implies, forall_const, eq_self, and_self, or_true, true_or, or_self, false_or, or_false, yI_sI, yR_sI, yC_sI, yN_sI, yI_sR, yR_sR, yC_sR, yN_sR, not_true_eq_false, not_false_eq_true, false_implies, implies_true, Nat.zero_add, Nat.add_zero, Nat.le_refl, Nat.reduceSub, Int.reduceSub, Int.reduceLT, Int.sub_zero, Int.sub_self, List.getElem?_toArray, List.getElem?_cons_zero, List.getElem?_cons_succ, Int.toNat_zero, Int.toNat_one, Int.lt_irrefl, yI_sB, yR_sB, yC_sB, yN_sB, MSh_sB_eq, pS_refuse_0, stp_iload_n, pS_refuse_1, stp_bipush, pS_refuse_3, pS_refuse_5, stp_invokestatic, qmS_75, cy_S_within, pS_refuse_8, stp_ifCond_eq, pS_refuse_11, stp_aload_n, pS_refuse_12, stp_getfield, qfS_67, rp_0_8, ss_C0 hS, ss_R0_8 hS, ss_C170 hS, ss_N170 hS, pS_refuse_15, pS_refuse_16, stp_ineg, pS_refuse_17, stp_dup2, pS_refuse_18, stp_iaload, pS_refuse_19, stp_iconst, pS_refuse_20, stp_iadd, pS_refuse_21, stp_iastore, pS_refuse_22, pS_refuse_23, stp_ireturn, bp_m8, bp_m2, ic_1, nv_S_refuse, ml_S_refuse, fsS_within, hv, hn, lvS_refuse, lvS_within, rfs]
  · cases h
theorem rfS (b : Nat) (hb : inR (-nI b) (-8) (-2) = true) (hb2 : b < 9) {w : Wd} (h : SSh w) : fsS_refuse [.inr (.inr (some (0, 0))), .inl (-nI b)] w = some (some (.inl (-nI b)), rfs w b) := by
  have e : - -nI b = nI b := by simp
  rw [show fsS_refuse [.inr (.inr (some (0, 0))), .inl (-nI b)] w = fsP (SSh w ∧ inR (-nI b) (-8) (-2) = true) (some (.inl (-nI b)), rfs w (- -nI b).toNatClampNeg) from rfl, e, nI_clamp (by omega)]
  exact fsP_t ⟨h, hb⟩
theorem rfS_2 {w : Wd} (h : SSh w) : fsS_refuse [.inr (.inr (some (0, 0))), .inl (-2)] w = some (some (.inl (-2)), rfs w 2) := rfS 2 (by decide) (by omega) h
theorem rfS_3 {w : Wd} (h : SSh w) : fsS_refuse [.inr (.inr (some (0, 0))), .inl (-3)] w = some (some (.inl (-3)), rfs w 3) := rfS 3 (by decide) (by omega) h
theorem rfS_4 {w : Wd} (h : SSh w) : fsS_refuse [.inr (.inr (some (0, 0))), .inl (-4)] w = some (some (.inl (-4)), rfs w 4) := rfS 4 (by decide) (by omega) h
theorem rfS_5 {w : Wd} (h : SSh w) : fsS_refuse [.inr (.inr (some (0, 0))), .inl (-5)] w = some (some (.inl (-5)), rfs w 5) := rfS 5 (by decide) (by omega) h
theorem rfS_6 {w : Wd} (h : SSh w) : fsS_refuse [.inr (.inr (some (0, 0))), .inl (-6)] w = some (some (.inl (-6)), rfs w 6) := rfS 6 (by decide) (by omega) h
theorem rfS_7 {w : Wd} (h : SSh w) : fsS_refuse [.inr (.inr (some (0, 0))), .inl (-7)] w = some (some (.inl (-7)), rfs w 7) := rfS 7 (by decide) (by omega) h
theorem rfS_8 {w : Wd} (h : SSh w) : fsS_refuse [.inr (.inr (some (0, 0))), .inl (-8)] w = some (some (.inl (-8)), rfs w 8) := rfS 8 (by decide) (by omega) h
/-! the yard's looks -/
abbrev lvY_hasPlace : Nat := 1
noncomputable def fsY_hasPlace : FS := fun as w => match as with
  | [.inr (.inr (some (1, 0))), .inl p] => fsP (SSh w) (some (.inl (bI (!decide (p < 0) && decide (p < wI w 1 0 4)))), w)
  | _ => none
set_option maxRecDepth 100000 in
set_option maxHeartbeats 4000000 in
theorem okY_hasPlace (l : Launch) (G : Gc) : FsOk l G mY_hasPlace lvY_hasPlace fsY_hasPlace := by
  intro as w r w' h
  simp only [fsY_hasPlace] at h
  split at h
  · rename_i p
    obtain ⟨hS, h⟩ := fsP_s h
    cases h
    refine Sem_of (by decide) rfl (Nat.le_of_ble_eq_true rfl) ?_
    refine wpn_ok (M := mY_hasPlace) (C := cenY) (X := (alk [])) (tb := tY_hasPlace) (st := []) eoY XOk_nil kY_hasPlace 200 _ _ _ _ _ _ ?_
    simp only [reduceCtorEq, fv0, fv1, fv2, fv3, bI_0, bI_1, bft, MSh_sI_eq, fsP_T, inL_0, inL_s, pad_0, pad_n, pad_s, wpn_s, wp1_s, lg_0, lg_s, lset_0, lset_s, kil_0, kil_s, st1_s, st2_s, isL_i, isL_l, isL_r, isL_n, spl_0, spl_s, cll_n, cll_s, catS_0, catS_s, jmp_s, alk_0, alk_s, otl_n, otl_s, List.nil_append, List.cons_append, List.contains_cons, List.contains_nil, Nat.reduceBEq, Bool.or_false, Bool.false_or, Bool.or_self, Bool.false_eq_true, Bool.true_or, Bool.or_true, if_true, if_false, ite_true, ite_false, ↓reduceIte, List.length_cons, List.length_nil, Nat.reduceAdd, Nat.reduceLT, Nat.reduceLeDiff, Nat.reduceEqDiff, Int.reduceAdd, Int.reduceLE, Int.toNat_natCast, Int.reduceToNat, Int.cast_ofNat_Int, true_and, and_true, false_and, and_false, true_implies, forall_const, eq_self, and_self, or_true, true_or, or_self, false_or, or_false, yI_sI, yR_sI, yC_sI, yN_sI, yI_sR, yR_sR, yC_sR, yN_sR, not_true_eq_false, not_false_eq_true, false_implies, implies_true, Nat.zero_add, Nat.add_zero, Nat.le_refl, Nat.reduceSub, Int.reduceSub, Int.reduceLT, Int.sub_zero, Int.sub_self, List.getElem?_toArray, List.getElem?_cons_zero, List.getElem?_cons_succ, Int.toNat_zero, Int.toNat_one, Int.lt_irrefl, yI_sB, yR_sB, yC_sB, yN_sB, MSh_sB_eq, pY_hasPlace_0, stp_iload_n, pY_hasPlace_1, stp_ifCond_lt, pY_hasPlace_4, pY_hasPlace_5, stp_aload_n, pY_hasPlace_6, stp_getfield, qfY_30, rp_1_4, ss_C1 hS, pY_hasPlace_9, stp_if_icmp_ge, pY_hasPlace_12, stp_iconst, pY_hasPlace_13, stp_goto, pY_hasPlace_16, pY_hasPlace_17, stp_ireturn, ic_1, ic_0, nv_Y_hasPlace, ml_Y_hasPlace, lvY_hasPlace]
    by_cases h1 : p < 0
    · simp [h1, bI]
    · by_cases h2 : wI w 1 0 4 ≤ p
      · have h3 : ¬ p < wI w 1 0 4 := Int32.not_lt.mpr h2
        simp [h1, h2, h3, bI, -Int32.not_lt, -Int32.not_le]
      · have h3 : p < wI w 1 0 4 := Int32.not_le.mp h2
        simp [h1, h2, h3, bI, -Int32.not_lt, -Int32.not_le]
  · cases h
theorem ruY_hasPlace {w : Wd} {p : Int32} (hS : SSh w) (h3 : okc w 3 14) (hc : Cp0 w) : fsY_hasPlace [.inr (.inr (some (1, 0))), .inl p] w = some (some (.inl (bI (inR p 0 (wI w 13 0 3 - 1)))), w) := by
  rw [hp_eq h3, ← hc.2.1]
  exact fsP_t hS
/-- a place's kind, -1 where there is no place -/
def kdI (w : Wd) (p : Int32) : Int32 := if inR p 0 (wI w 13 0 3 - 1) = true then wI w 104 0 p.toNatClampNeg else -1
def ofI (w : Wd) (p : Int32) : Int32 := if inR p 0 (wI w 13 0 3 - 1) = true then wI w 105 0 p.toNatClampNeg else 0
abbrev lvY_kindOf : Nat := 2
noncomputable def fsY_kindOf : FS := fun as w => match as with
  | [.inr (.inr (some (1, 0))), .inl p] => fsP (SSh w ∧ okc w 3 14 ∧ Cp0 w) (some (.inl (kdI w p)), w)
  | _ => none
set_option maxRecDepth 100000 in
set_option maxHeartbeats 4000000 in
theorem okY_kindOf (l : Launch) (G : Gc) : FsOk l G mY_kindOf lvY_kindOf fsY_kindOf := by
  intro as w r w' h
  simp only [fsY_kindOf] at h
  split at h
  · rename_i p
    obtain ⟨⟨hS, h3, hc⟩, h⟩ := fsP_s h
    cases h
    have h14 := h3.2
    refine Sem_of (by decide) rfl (Nat.le_of_ble_eq_true rfl) ?_
    refine wpn_ok (M := mY_kindOf) (C := cenY) (X := (alk [(34, lvY_hasPlace, fsY_hasPlace)])) (tb := tY_kindOf) (st := []) eoY (XOk_cons qmY_34 (okY_hasPlace l G) XOk_nil) kY_kindOf 30 _ _ _ _ _ _ ?_
    cases hp : inR p 0 (wI w 13 0 3 - 1)
    · simp only [reduceCtorEq, fv0, fv1, fv2, fv3, bI_0, bI_1, bft, MSh_sI_eq, fsP_T, inL_0, inL_s, pad_0, pad_n, pad_s, wpn_s, wp1_s, lg_0, lg_s, lset_0, lset_s, kil_0, kil_s, st1_s, st2_s, isL_i, isL_l, isL_r, isL_n, spl_0, spl_s, cll_n, cll_s, catS_0, catS_s, jmp_s, alk_0, alk_s, otl_n, otl_s, List.nil_append, List.cons_append, List.contains_cons, List.contains_nil, Nat.reduceBEq, Bool.or_false, Bool.false_or, Bool.or_self, Bool.false_eq_true, Bool.true_or, Bool.or_true, if_true, if_false, ite_true, ite_false, ↓reduceIte, List.length_cons, List.length_nil, Nat.reduceAdd, Nat.reduceLT, Nat.reduceLeDiff, Nat.reduceEqDiff, Int.reduceAdd, Int.reduceLE, Int.toNat_natCast, Int.reduceToNat, Int.cast_ofNat_Int, true_and, and_true, false_and, and_false, true_implies, forall_const, eq_self, and_self, or_true, true_or, or_self, false_or, or_false, yI_sI, yR_sI, yC_sI, yN_sI, yI_sR, yR_sR, yC_sR, yN_sR, not_true_eq_false, not_false_eq_true, false_implies, implies_true, Nat.zero_add, Nat.add_zero, Nat.le_refl, Nat.reduceSub, Int.reduceSub, Int.reduceLT, Int.sub_zero, Int.sub_self, List.getElem?_toArray, List.getElem?_cons_zero, List.getElem?_cons_succ, Int.toNat_zero, Int.toNat_one, Int.lt_irrefl, yI_sB, yR_sB, yC_sB, yN_sB, MSh_sB_eq, pY_kindOf_0, stp_aload_n, pY_kindOf_1, stp_iload_n, pY_kindOf_2, stp_invokevirtual, qmY_34, cy_Y_hasPlace, ss_C1 hS, pY_kindOf_5, stp_ifCond_eq, pY_kindOf_8, pY_kindOf_9, stp_getfield, qfY_18, rp_1_1, ss_R1_1 hS, ss_C171 hS, ss_N171 hS, pY_kindOf_12, pY_kindOf_13, stp_iaload, pY_kindOf_14, stp_goto, pY_kindOf_17, stp_iconst, pY_kindOf_18, stp_ireturn, ic_m1, nv_Y_kindOf, ml_Y_kindOf, ruY_hasPlace hS h3 hc, hp, kdI, lvY_kindOf, lvY_hasPlace]
    · obtain ⟨j, hj, rfl⟩ := okc_in h3 (by omega) hp
      have c1 : (nI j).toNatClampNeg = j := nI_clamp (by omega)
      have v1 : vp_in (nI j) 14 := vp_in_nI (by omega) (by omega)
      have e1 := (hc.2.2.2.2.2.1 j hj).1
      simp only [reduceCtorEq, fv0, fv1, fv2, fv3, bI_0, bI_1, bft, MSh_sI_eq, fsP_T, inL_0, inL_s, pad_0, pad_n, pad_s, wpn_s, wp1_s, lg_0, lg_s, lset_0, lset_s, kil_0, kil_s, st1_s, st2_s, isL_i, isL_l, isL_r, isL_n, spl_0, spl_s, cll_n, cll_s, catS_0, catS_s, jmp_s, alk_0, alk_s, otl_n, otl_s, List.nil_append, List.cons_append, List.contains_cons, List.contains_nil, Nat.reduceBEq, Bool.or_false, Bool.false_or, Bool.or_self, Bool.false_eq_true, Bool.true_or, Bool.or_true, if_true, if_false, ite_true, ite_false, ↓reduceIte, List.length_cons, List.length_nil, Nat.reduceAdd, Nat.reduceLT, Nat.reduceLeDiff, Nat.reduceEqDiff, Int.reduceAdd, Int.reduceLE, Int.toNat_natCast, Int.reduceToNat, Int.cast_ofNat_Int, true_and, and_true, false_and, and_false, true_implies, forall_const, eq_self, and_self, or_true, true_or, or_self, false_or, or_false, yI_sI, yR_sI, yC_sI, yN_sI, yI_sR, yR_sR, yC_sR, yN_sR, not_true_eq_false, not_false_eq_true, false_implies, implies_true, Nat.zero_add, Nat.add_zero, Nat.le_refl, Nat.reduceSub, Int.reduceSub, Int.reduceLT, Int.sub_zero, Int.sub_self, List.getElem?_toArray, List.getElem?_cons_zero, List.getElem?_cons_succ, Int.toNat_zero, Int.toNat_one, Int.lt_irrefl, yI_sB, yR_sB, yC_sB, yN_sB, MSh_sB_eq, pY_kindOf_0, stp_aload_n, pY_kindOf_1, stp_iload_n, pY_kindOf_2, stp_invokevirtual, qmY_34, cy_Y_hasPlace, ss_C1 hS, pY_kindOf_5, stp_ifCond_eq, pY_kindOf_8, pY_kindOf_9, stp_getfield, qfY_18, rp_1_1, ss_R1_1 hS, ss_C171 hS, ss_N171 hS, pY_kindOf_12, pY_kindOf_13, stp_iaload, pY_kindOf_14, stp_goto, pY_kindOf_17, stp_iconst, pY_kindOf_18, stp_ireturn, ic_m1, nv_Y_kindOf, ml_Y_kindOf, ruY_hasPlace hS h3 hc, hp, c1, v1, e1, kdI, lvY_kindOf, lvY_hasPlace]
  · cases h
theorem ruY_kindOf {w : Wd} {p : Int32} (hS : SSh w) (h3 : okc w 3 14) (hc : Cp0 w) : fsY_kindOf [.inr (.inr (some (1, 0))), .inl p] w = some (some (.inl (kdI w p)), w) := fsP_t ⟨hS, h3, hc⟩
abbrev lvY_offOf : Nat := 2
noncomputable def fsY_offOf : FS := fun as w => match as with
  | [.inr (.inr (some (1, 0))), .inl p] => fsP (SSh w ∧ okc w 3 14 ∧ Cp0 w) (some (.inl (ofI w p)), w)
  | _ => none
set_option maxRecDepth 100000 in
set_option maxHeartbeats 4000000 in
theorem okY_offOf (l : Launch) (G : Gc) : FsOk l G mY_offOf lvY_offOf fsY_offOf := by
  intro as w r w' h
  simp only [fsY_offOf] at h
  split at h
  · rename_i p
    obtain ⟨⟨hS, h3, hc⟩, h⟩ := fsP_s h
    cases h
    have h14 := h3.2
    refine Sem_of (by decide) rfl (Nat.le_of_ble_eq_true rfl) ?_
    refine wpn_ok (M := mY_offOf) (C := cenY) (X := (alk [(34, lvY_hasPlace, fsY_hasPlace)])) (tb := tY_offOf) (st := []) eoY (XOk_cons qmY_34 (okY_hasPlace l G) XOk_nil) kY_offOf 30 _ _ _ _ _ _ ?_
    cases hp : inR p 0 (wI w 13 0 3 - 1)
    · simp only [reduceCtorEq, fv0, fv1, fv2, fv3, bI_0, bI_1, bft, MSh_sI_eq, fsP_T, inL_0, inL_s, pad_0, pad_n, pad_s, wpn_s, wp1_s, lg_0, lg_s, lset_0, lset_s, kil_0, kil_s, st1_s, st2_s, isL_i, isL_l, isL_r, isL_n, spl_0, spl_s, cll_n, cll_s, catS_0, catS_s, jmp_s, alk_0, alk_s, otl_n, otl_s, List.nil_append, List.cons_append, List.contains_cons, List.contains_nil, Nat.reduceBEq, Bool.or_false, Bool.false_or, Bool.or_self, Bool.false_eq_true, Bool.true_or, Bool.or_true, if_true, if_false, ite_true, ite_false, ↓reduceIte, List.length_cons, List.length_nil, Nat.reduceAdd, Nat.reduceLT, Nat.reduceLeDiff, Nat.reduceEqDiff, Int.reduceAdd, Int.reduceLE, Int.toNat_natCast, Int.reduceToNat, Int.cast_ofNat_Int, true_and, and_true, false_and, and_false, true_implies, forall_const, eq_self, and_self, or_true, true_or, or_self, false_or, or_false, yI_sI, yR_sI, yC_sI, yN_sI, yI_sR, yR_sR, yC_sR, yN_sR, not_true_eq_false, not_false_eq_true, false_implies, implies_true, Nat.zero_add, Nat.add_zero, Nat.le_refl, Nat.reduceSub, Int.reduceSub, Int.reduceLT, Int.sub_zero, Int.sub_self, List.getElem?_toArray, List.getElem?_cons_zero, List.getElem?_cons_succ, Int.toNat_zero, Int.toNat_one, Int.lt_irrefl, yI_sB, yR_sB, yC_sB, yN_sB, MSh_sB_eq, pY_offOf_0, stp_aload_n, pY_offOf_1, stp_iload_n, pY_offOf_2, stp_invokevirtual, qmY_34, cy_Y_hasPlace, ss_C1 hS, pY_offOf_5, stp_ifCond_eq, pY_offOf_8, pY_offOf_9, stp_getfield, qfY_22, rp_1_2, ss_R1_2 hS, ss_C172 hS, ss_N172 hS, pY_offOf_12, pY_offOf_13, stp_iaload, pY_offOf_14, stp_goto, pY_offOf_17, stp_iconst, pY_offOf_18, stp_ireturn, ic_0, nv_Y_offOf, ml_Y_offOf, ruY_hasPlace hS h3 hc, hp, ofI, lvY_offOf, lvY_hasPlace]
    · obtain ⟨j, hj, rfl⟩ := okc_in h3 (by omega) hp
      have c1 : (nI j).toNatClampNeg = j := nI_clamp (by omega)
      have v1 : vp_in (nI j) 14 := vp_in_nI (by omega) (by omega)
      have e1 := (hc.2.2.2.2.2.1 j hj).2
      simp only [reduceCtorEq, fv0, fv1, fv2, fv3, bI_0, bI_1, bft, MSh_sI_eq, fsP_T, inL_0, inL_s, pad_0, pad_n, pad_s, wpn_s, wp1_s, lg_0, lg_s, lset_0, lset_s, kil_0, kil_s, st1_s, st2_s, isL_i, isL_l, isL_r, isL_n, spl_0, spl_s, cll_n, cll_s, catS_0, catS_s, jmp_s, alk_0, alk_s, otl_n, otl_s, List.nil_append, List.cons_append, List.contains_cons, List.contains_nil, Nat.reduceBEq, Bool.or_false, Bool.false_or, Bool.or_self, Bool.false_eq_true, Bool.true_or, Bool.or_true, if_true, if_false, ite_true, ite_false, ↓reduceIte, List.length_cons, List.length_nil, Nat.reduceAdd, Nat.reduceLT, Nat.reduceLeDiff, Nat.reduceEqDiff, Int.reduceAdd, Int.reduceLE, Int.toNat_natCast, Int.reduceToNat, Int.cast_ofNat_Int, true_and, and_true, false_and, and_false, true_implies, forall_const, eq_self, and_self, or_true, true_or, or_self, false_or, or_false, yI_sI, yR_sI, yC_sI, yN_sI, yI_sR, yR_sR, yC_sR, yN_sR, not_true_eq_false, not_false_eq_true, false_implies, implies_true, Nat.zero_add, Nat.add_zero, Nat.le_refl, Nat.reduceSub, Int.reduceSub, Int.reduceLT, Int.sub_zero, Int.sub_self, List.getElem?_toArray, List.getElem?_cons_zero, List.getElem?_cons_succ, Int.toNat_zero, Int.toNat_one, Int.lt_irrefl, yI_sB, yR_sB, yC_sB, yN_sB, MSh_sB_eq, pY_offOf_0, stp_aload_n, pY_offOf_1, stp_iload_n, pY_offOf_2, stp_invokevirtual, qmY_34, cy_Y_hasPlace, ss_C1 hS, pY_offOf_5, stp_ifCond_eq, pY_offOf_8, pY_offOf_9, stp_getfield, qfY_22, rp_1_2, ss_R1_2 hS, ss_C172 hS, ss_N172 hS, pY_offOf_12, pY_offOf_13, stp_iaload, pY_offOf_14, stp_goto, pY_offOf_17, stp_iconst, pY_offOf_18, stp_ireturn, ic_0, nv_Y_offOf, ml_Y_offOf, ruY_hasPlace hS h3 hc, hp, c1, v1, e1, ofI, lvY_offOf, lvY_hasPlace]
  · cases h
theorem ruY_offOf {w : Wd} {p : Int32} (hS : SSh w) (h3 : okc w 3 14) (hc : Cp0 w) : fsY_offOf [.inr (.inr (some (1, 0))), .inl p] w = some (some (.inl (ofI w p)), w) := fsP_t ⟨hS, h3, hc⟩
/-! lists -/
abbrev lvL_size : Nat := 1
noncomputable def fsL_size : FS := fun as w => match as with
  | [.inr (.inr (some (2, i)))] => fsP (i < wC w 2) (some (.inl (wI w 2 i 2)), w)
  | _ => none
set_option maxRecDepth 100000 in
set_option maxHeartbeats 4000000 in
theorem okL_size (l : Launch) (G : Gc) : FsOk l G mL_size lvL_size fsL_size := by
  intro as w r w' h
  simp only [fsL_size] at h
  split at h
  · rename_i i
    obtain ⟨hi, h⟩ := fsP_s h
    cases h
    refine Sem_of (by decide) rfl (Nat.le_of_ble_eq_true rfl) ?_
    refine wpn_ok (M := mL_size) (C := cenL) (X := (alk [])) (tb := tL_size) (st := []) eoL XOk_nil kL_size 200 _ _ _ _ _ _ ?_
    simp only [reduceCtorEq, fv0, fv1, fv2, fv3, bI_0, bI_1, bft, MSh_sI_eq, fsP_T, inL_0, inL_s, pad_0, pad_n, pad_s, wpn_s, wp1_s, lg_0, lg_s, lset_0, lset_s, kil_0, kil_s, st1_s, st2_s, isL_i, isL_l, isL_r, isL_n, spl_0, spl_s, cll_n, cll_s, catS_0, catS_s, jmp_s, alk_0, alk_s, otl_n, otl_s, List.nil_append, List.cons_append, List.contains_cons, List.contains_nil, Nat.reduceBEq, Bool.or_false, Bool.false_or, Bool.or_self, Bool.false_eq_true, Bool.true_or, Bool.or_true, if_true, if_false, ite_true, ite_false, ↓reduceIte, List.length_cons, List.length_nil, Nat.reduceAdd, Nat.reduceLT, Nat.reduceLeDiff, Nat.reduceEqDiff, Int.reduceAdd, Int.reduceLE, Int.toNat_natCast, Int.reduceToNat, Int.cast_ofNat_Int, true_and, and_true, false_and, and_false, true_implies, forall_const, eq_self, and_self, or_true, true_or, or_self, false_or, or_false, yI_sI, yR_sI, yC_sI, yN_sI, yI_sR, yR_sR, yC_sR, yN_sR, not_true_eq_false, not_false_eq_true, false_implies, implies_true, Nat.zero_add, Nat.add_zero, Nat.le_refl, Nat.reduceSub, Int.reduceSub, Int.reduceLT, Int.sub_zero, Int.sub_self, List.getElem?_toArray, List.getElem?_cons_zero, List.getElem?_cons_succ, Int.toNat_zero, Int.toNat_one, Int.lt_irrefl, yI_sB, yR_sB, yC_sB, yN_sB, MSh_sB_eq, pL_size_0, stp_aload_n, pL_size_1, stp_getfield, qfL_48, rp_2_2, pL_size_4, stp_ireturn, nv_L_size, ml_L_size, lvL_size, hi]
  · cases h
theorem ruL_size {w : Wd} {i n : Nat} {el : Nat → Nat × Nat} (h : LiS w i n el) : fsL_size [.inr (.inr (some (2, i)))] w = some (some (.inl (nI n)), w) := by
  have : fsL_size [.inr (.inr (some (2, i)))] w = fsP (i < wC w 2) (some (.inl (wI w 2 i 2)), w) := rfl
  rw [this, fsP_t h.2.2.1, h.1]
abbrev lvJp_checkIndex : Nat := 1
noncomputable def fsJp_checkIndex : FS := fun as w => match as with
  | [.inl x, .inl y, .inr (.inr _)] => fsP (¬ x < 0 ∧ x < y) (some (.inl x), w)
  | _ => none
set_option maxRecDepth 100000 in
set_option maxHeartbeats 4000000 in
theorem okJp_checkIndex (l : Launch) (G : Gc) : FsOk l G mJp_checkIndex lvJp_checkIndex fsJp_checkIndex := by
  intro as w r w' h
  simp only [fsJp_checkIndex] at h
  split at h
  · rename_i x y f
    obtain ⟨⟨h1, h2⟩, h⟩ := fsP_s h
    cases h
    refine Sem_of (by decide) rfl (Nat.le_of_ble_eq_true rfl) ?_
    refine wpn_ok (M := mJp_checkIndex) (C := cenJp) (X := (alk [])) (tb := tJp_checkIndex) (st := []) eoJp XOk_nil kJp_checkIndex 200 _ _ _ _ _ _ ?_
    simp only [reduceCtorEq, fv0, fv1, fv2, fv3, bI_0, bI_1, bft, MSh_sI_eq, fsP_T, inL_0, inL_s, pad_0, pad_n, pad_s, wpn_s, wp1_s, lg_0, lg_s, lset_0, lset_s, kil_0, kil_s, st1_s, st2_s, isL_i, isL_l, isL_r, isL_n, spl_0, spl_s, cll_n, cll_s, catS_0, catS_s, jmp_s, alk_0, alk_s, otl_n, otl_s, List.nil_append, List.cons_append, List.contains_cons, List.contains_nil, Nat.reduceBEq, Bool.or_false, Bool.false_or, Bool.or_self, Bool.false_eq_true, Bool.true_or, Bool.or_true, if_true, if_false, ite_true, ite_false, ↓reduceIte, List.length_cons, List.length_nil, Nat.reduceAdd, Nat.reduceLT, Nat.reduceLeDiff, Nat.reduceEqDiff, Int.reduceAdd, Int.reduceLE, Int.toNat_natCast, Int.reduceToNat, Int.cast_ofNat_Int, true_and, and_true, false_and, and_false, true_implies, forall_const, eq_self, and_self, or_true, true_or, or_self, false_or, or_false, yI_sI, yR_sI, yC_sI, yN_sI, yI_sR, yR_sR, yC_sR, yN_sR, not_true_eq_false, not_false_eq_true, false_implies, implies_true, Nat.zero_add, Nat.add_zero, Nat.le_refl, Nat.reduceSub, Int.reduceSub, Int.reduceLT, Int.sub_zero, Int.sub_self, List.getElem?_toArray, List.getElem?_cons_zero, List.getElem?_cons_succ, Int.toNat_zero, Int.toNat_one, Int.lt_irrefl, yI_sB, yR_sB, yC_sB, yN_sB, MSh_sB_eq, pJp_checkIndex_0, stp_iload_n, pJp_checkIndex_1, stp_ifCond_lt, pJp_checkIndex_4, pJp_checkIndex_5, pJp_checkIndex_6, stp_if_icmp_lt, pJp_checkIndex_9, stp_aload_n, pJp_checkIndex_10, pJp_checkIndex_11, pJp_checkIndex_12, stp_invokestatic, pJp_checkIndex_15, pJp_checkIndex_16, pJp_checkIndex_17, stp_ireturn, nv_Jp_checkIndex, ml_Jp_checkIndex, lvJp_checkIndex, h1, h2]
  · cases h
abbrev lvJo_checkIndex : Nat := 2
noncomputable def fsJo_checkIndex : FS := fun as w => match as with
  | [.inl x, .inl y] => fsP (¬ x < 0 ∧ x < y) (some (.inl x), w)
  | _ => none
set_option maxRecDepth 100000 in
set_option maxHeartbeats 4000000 in
theorem okJo_checkIndex (l : Launch) (G : Gc) : FsOk l G mJo_checkIndex lvJo_checkIndex fsJo_checkIndex := by
  intro as w r w' h
  simp only [fsJo_checkIndex] at h
  split at h
  · rename_i x y
    obtain ⟨⟨h1, h2⟩, h⟩ := fsP_s h
    cases h
    refine Sem_of (by decide) rfl (Nat.le_of_ble_eq_true rfl) ?_
    refine wpn_ok (M := mJo_checkIndex) (C := cenJo) (X := (alk [(105, lvJp_checkIndex, fsJp_checkIndex)])) (tb := tJo_checkIndex) (st := []) eoJo (XOk_cons qmJo_105 (okJp_checkIndex l G) XOk_nil) kJo_checkIndex 200 _ _ _ _ _ _ ?_
    simp only [reduceCtorEq, fv0, fv1, fv2, fv3, bI_0, bI_1, bft, MSh_sI_eq, fsP_T, inL_0, inL_s, pad_0, pad_n, pad_s, wpn_s, wp1_s, lg_0, lg_s, lset_0, lset_s, kil_0, kil_s, st1_s, st2_s, isL_i, isL_l, isL_r, isL_n, spl_0, spl_s, cll_n, cll_s, catS_0, catS_s, jmp_s, alk_0, alk_s, otl_n, otl_s, List.nil_append, List.cons_append, List.contains_cons, List.contains_nil, Nat.reduceBEq, Bool.or_false, Bool.false_or, Bool.or_self, Bool.false_eq_true, Bool.true_or, Bool.or_true, if_true, if_false, ite_true, ite_false, ↓reduceIte, List.length_cons, List.length_nil, Nat.reduceAdd, Nat.reduceLT, Nat.reduceLeDiff, Nat.reduceEqDiff, Int.reduceAdd, Int.reduceLE, Int.toNat_natCast, Int.reduceToNat, Int.cast_ofNat_Int, true_and, and_true, false_and, and_false, true_implies, forall_const, eq_self, and_self, or_true, true_or, or_self, false_or, or_false, yI_sI, yR_sI, yC_sI, yN_sI, yI_sR, yR_sR, yC_sR, yN_sR, not_true_eq_false, not_false_eq_true, false_implies, implies_true, Nat.zero_add, Nat.add_zero, Nat.le_refl, Nat.reduceSub, Int.reduceSub, Int.reduceLT, Int.sub_zero, Int.sub_self, List.getElem?_toArray, List.getElem?_cons_zero, List.getElem?_cons_succ, Int.toNat_zero, Int.toNat_one, Int.lt_irrefl, yI_sB, yR_sB, yC_sB, yN_sB, MSh_sB_eq, pJo_checkIndex_0, stp_iload_n, pJo_checkIndex_1, pJo_checkIndex_2, stp_aconst_null, pJo_checkIndex_3, stp_invokestatic, qmJo_105, pJo_checkIndex_6, stp_ireturn, nv_Jo_checkIndex, ml_Jo_checkIndex, fsJp_checkIndex, lvJp_checkIndex, lvJo_checkIndex, h1, h2]
  · cases h
def elx (w : Wd) (i : Nat) : Nat := match wR w 2 i 1 with
  | some q => q.2
  | none => 0
abbrev lvL_elementData : Nat := 1
noncomputable def fsL_elementData : FS := fun as w => match as with
  | [.inr (.inr (some (2, i))), .inl x] => fsP (i < wC w 2 ∧ wR w 2 i 1 = some (300, elx w i) ∧ elx w i < wC w 300 ∧ vp_in x (wN w 300 (elx w i))) (some (.inr (.inr (wR w 300 (elx w i) x.toNatClampNeg))), w)
  | _ => none
set_option maxRecDepth 100000 in
set_option maxHeartbeats 4000000 in
theorem okL_elementData (l : Launch) (G : Gc) : FsOk l G mL_elementData lvL_elementData fsL_elementData := by
  intro as w r w' h
  simp only [fsL_elementData] at h
  split at h
  · rename_i i x
    obtain ⟨⟨h1, h2, h3, h4⟩, h⟩ := fsP_s h
    cases h
    refine Sem_of (by decide) rfl (Nat.le_of_ble_eq_true rfl) ?_
    refine wpn_ok (M := mL_elementData) (C := cenL) (X := (alk [])) (tb := tL_elementData) (st := []) eoL XOk_nil kL_elementData 200 _ _ _ _ _ _ ?_
    simp only [reduceCtorEq, fv0, fv1, fv2, fv3, bI_0, bI_1, bft, MSh_sI_eq, fsP_T, inL_0, inL_s, pad_0, pad_n, pad_s, wpn_s, wp1_s, lg_0, lg_s, lset_0, lset_s, kil_0, kil_s, st1_s, st2_s, isL_i, isL_l, isL_r, isL_n, spl_0, spl_s, cll_n, cll_s, catS_0, catS_s, jmp_s, alk_0, alk_s, otl_n, otl_s, List.nil_append, List.cons_append, List.contains_cons, List.contains_nil, Nat.reduceBEq, Bool.or_false, Bool.false_or, Bool.or_self, Bool.false_eq_true, Bool.true_or, Bool.or_true, if_true, if_false, ite_true, ite_false, ↓reduceIte, List.length_cons, List.length_nil, Nat.reduceAdd, Nat.reduceLT, Nat.reduceLeDiff, Nat.reduceEqDiff, Int.reduceAdd, Int.reduceLE, Int.toNat_natCast, Int.reduceToNat, Int.cast_ofNat_Int, true_and, and_true, false_and, and_false, true_implies, forall_const, eq_self, and_self, or_true, true_or, or_self, false_or, or_false, yI_sI, yR_sI, yC_sI, yN_sI, yI_sR, yR_sR, yC_sR, yN_sR, not_true_eq_false, not_false_eq_true, false_implies, implies_true, Nat.zero_add, Nat.add_zero, Nat.le_refl, Nat.reduceSub, Int.reduceSub, Int.reduceLT, Int.sub_zero, Int.sub_self, List.getElem?_toArray, List.getElem?_cons_zero, List.getElem?_cons_succ, Int.toNat_zero, Int.toNat_one, Int.lt_irrefl, yI_sB, yR_sB, yC_sB, yN_sB, MSh_sB_eq, pL_elementData_0, stp_aload_n, pL_elementData_1, stp_getfield, qfL_9, rp_2_1, pL_elementData_4, stp_iload_n, pL_elementData_5, stp_aaload, pL_elementData_6, stp_areturn, nv_L_elementData, ml_L_elementData, lvL_elementData, h1, h2, h3, h4]
  · cases h
abbrev lvL_get : Nat := 3
noncomputable def fsL_get : FS := fun as w => match as with
  | [.inr (.inr (some (2, i))), .inl x] => fsP (i < wC w 2 ∧ ¬ x < 0 ∧ x < wI w 2 i 2 ∧ wR w 2 i 1 = some (300, elx w i) ∧ elx w i < wC w 300 ∧ vp_in x (wN w 300 (elx w i))) (some (.inr (.inr (wR w 300 (elx w i) x.toNatClampNeg))), w)
  | _ => none
set_option maxRecDepth 100000 in
set_option maxHeartbeats 4000000 in
theorem okL_get (l : Launch) (G : Gc) : FsOk l G mL_get lvL_get fsL_get := by
  intro as w r w' h
  simp only [fsL_get] at h
  split at h
  · rename_i i x
    obtain ⟨⟨h1, h5, h6, h2, h3, h4⟩, h⟩ := fsP_s h
    cases h
    refine Sem_of (by decide) rfl (Nat.le_of_ble_eq_true rfl) ?_
    refine wpn_ok (M := mL_get) (C := cenL) (X := (alk [(118, lvJo_checkIndex, fsJo_checkIndex), (123, lvL_elementData, fsL_elementData)])) (tb := tL_get) (st := []) eoL (XOk_cons qmL_118 (okJo_checkIndex l G) (XOk_cons qmL_123 (okL_elementData l G) XOk_nil)) kL_get 200 _ _ _ _ _ _ ?_
    simp only [reduceCtorEq, fv0, fv1, fv2, fv3, bI_0, bI_1, bft, MSh_sI_eq, fsP_T, inL_0, inL_s, pad_0, pad_n, pad_s, wpn_s, wp1_s, lg_0, lg_s, lset_0, lset_s, kil_0, kil_s, st1_s, st2_s, isL_i, isL_l, isL_r, isL_n, spl_0, spl_s, cll_n, cll_s, catS_0, catS_s, jmp_s, alk_0, alk_s, otl_n, otl_s, List.nil_append, List.cons_append, List.contains_cons, List.contains_nil, Nat.reduceBEq, Bool.or_false, Bool.false_or, Bool.or_self, Bool.false_eq_true, Bool.true_or, Bool.or_true, if_true, if_false, ite_true, ite_false, ↓reduceIte, List.length_cons, List.length_nil, Nat.reduceAdd, Nat.reduceLT, Nat.reduceLeDiff, Nat.reduceEqDiff, Int.reduceAdd, Int.reduceLE, Int.toNat_natCast, Int.reduceToNat, Int.cast_ofNat_Int, true_and, and_true, false_and, and_false, true_implies, forall_const, eq_self, and_self, or_true, true_or, or_self, false_or, or_false, yI_sI, yR_sI, yC_sI, yN_sI, yI_sR, yR_sR, yC_sR, yN_sR, not_true_eq_false, not_false_eq_true, false_implies, implies_true, Nat.zero_add, Nat.add_zero, Nat.le_refl, Nat.reduceSub, Int.reduceSub, Int.reduceLT, Int.sub_zero, Int.sub_self, List.getElem?_toArray, List.getElem?_cons_zero, List.getElem?_cons_succ, Int.toNat_zero, Int.toNat_one, Int.lt_irrefl, yI_sB, yR_sB, yC_sB, yN_sB, MSh_sB_eq, pL_get_0, stp_iload_n, pL_get_1, stp_aload_n, pL_get_2, stp_getfield, qfL_48, rp_2_2, pL_get_5, stp_invokestatic, qmL_118, pL_get_8, stp_pop, pL_get_9, pL_get_10, pL_get_11, stp_invokevirtual, qmL_123, cy_L_elementData, pL_get_14, stp_areturn, nv_L_get, ml_L_get, fsJo_checkIndex, fsL_elementData, lvJo_checkIndex, lvL_elementData, lvL_get, h1, h2, h3, h4, h5, h6]
  · cases h
theorem ruL_get {w : Wd} {i n j : Nat} {el : Nat → Nat × Nat} (h : LiS w i n el) (hj : j < n) : fsL_get [.inr (.inr (some (2, i))), .inl (nI j)] w = some (some (.inr (.inr (some (el j)))), w) := by
  obtain ⟨h1, h2, h3, h4⟩ := h
  rcases h4 with h4 | ⟨x, q1, q2, q3, q4, q5⟩
  · omega
  · have ex : elx w i = x := by simp [elx, q1]
    have : fsL_get [.inr (.inr (some (2, i))), .inl (nI j)] w = fsP (i < wC w 2 ∧ ¬ nI j < 0 ∧ nI j < wI w 2 i 2 ∧ wR w 2 i 1 = some (300, elx w i) ∧ elx w i < wC w 300 ∧ vp_in (nI j) (wN w 300 (elx w i))) (some (.inr (.inr (wR w 300 (elx w i) (nI j).toNatClampNeg))), w) := rfl
    rw [this, ex, nI_clamp (by omega), q5 j hj]
    exact fsP_t ⟨h3, nI_pos (by omega), by rw [h1]; exact nI_lt hj (by omega), q1, q2, vp_in_nI (by omega) (by omega)⟩
