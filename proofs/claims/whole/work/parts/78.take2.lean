/-! take and giveBack of the yard -/
def tkW (w : Wd) (κ a : Nat → Nat) (t : Nat) : Nat → Wd
  | 0 => w
  | i + 1 => tk1 (tkW w κ a t i) (κ i) (t + a i)
def gbW (w : Wd) (κ : Nat → Nat) : Nat → Wd
  | 0 => w
  | i + 1 => gb1 (gbW w κ i) (κ i)
theorem tkW_E (w : Wd) (κ a : Nat → Nat) (t : Nat) : ∀ i, SmE w (tkW w κ a t i)
  | 0 => SmE_r w
  | i + 1 => SmE_t (tkW_E w κ a t i) (tk1_E _ _ _)
theorem gbW_E (w : Wd) (κ : Nat → Nat) : ∀ i, SmE w (gbW w κ i)
  | 0 => SmE_r w
  | i + 1 => SmE_t (gbW_E w κ i) (gb1_E _ _)
def tkO (w : Wd) (κ a : Nat → Nat) (t m : Nat) : Prop := ∀ i, i < m → wI (tkW w κ a t i) 9 (κ i) 4 = nI (szA (tkW w κ a t i) (κ i)) ∧ szA (tkW w κ a t i) (κ i) < 24
def gbO (w : Wd) (κ : Nat → Nat) (m : Nat) : Prop := ∀ i, i < m → wI (gbW w κ i) 9 (κ i) 4 = nI (szA (gbW w κ i) (κ i)) ∧ 0 < szA (gbW w κ i) (κ i) ∧ szA (gbW w κ i) (κ i) ≤ 24
section
variable {l : Launch} {G : Gc} {n : Nat} {Q : Option AV → Wd → Prop} {w : Wd}
set_option maxRecDepth 100000 in
set_option maxHeartbeats 4000000 in
theorem stY_take {x m t i : Nat} {κ : Nat → Nat} {l4 : Option AV} (hl : 3 < n) (hC : Cpy w) (hx : x < 17) (hW : WyC w x κ m) (hi : i < m) (h1 : wI w 9 (κ i) 4 = nI (szA w (κ i))) (h2 : szA w (κ i) < 24) (ih : ∀ l4, WP l G mY_take n 0 0 Q 2 [some (.inr (.inr (some (1, 0)))), some (.inr (.inr (some (8, x)))), some (.inl (nI t)), some (.inl (nI (i + 1))), l4] [] (tk1 w (κ i) (t + aN (grf w) κ i)) 0 0) : WP l G mY_take n 0 0 Q 2 [some (.inr (.inr (some (1, 0)))), some (.inr (.inr (some (8, x)))), some (.inl (nI t)), some (.inl (nI i)), l4] [] w 0 0 := by
  have hS := hC.1
  have hm := hW.2.1
  obtain ⟨w1, w2, w3, w4⟩ := hW.2.2 i hi
  have h20 := hC.2.2.2.1.2.2.1.2
  have r1 := ruW_alleyAt hS hx hW.1 hm hi
  have r2 := ruW_aheadOf hS hx hW.1 hm hi
  rw [w1] at r1
  rw [w3] at r2
  have rs := ruL_size hC.2.2.1.1
  have rg : fsL_get [.inr (.inr (some (2, 0))), .inl (nI (κ i))] w = some (some (.inr (.inr (some (9, κ i)))), w) := ruL_get hC.2.2.1.1 w2
  have a1 := (Cpy_al hC w2).1
  have rt : fsA_take [.inr (.inr (some (9, κ i))), .inl (nI (t + aN (grf w) κ i))] w = some (none, tk1 w (κ i) (t + aN (grf w) κ i)) := ruA_take a1 h1 h2
  have q1 : ¬ nI m ≤ nI i := nI_ge hi (by omega)
  have q2 : ¬ nI (κ i) < 0 := nI_pos (by omega)
  have q3 : ¬ nI (cn w 6) ≤ nI (κ i) := nI_ge w2 (by omega)
  have ih := ih (some (.inl (nI (κ i))))
  have hl1 : lvW_alleyAt < n := by show 1 < n; omega
  have hl2 : lvW_aheadOf < n := by show 1 < n; omega
  have hl3 : lvL_size < n := by show 1 < n; omega
  have hl4 : lvL_get < n := hl
  have hl5 : lvA_take < n := by show 1 < n; omega
  refine wpn_ok (M := mY_take) (C := cenY) (X := (alk [(92, lvW_alleyAt, fsW_alleyAt), (95, lvW_aheadOf, fsW_aheadOf), (57, lvL_size, fsL_size), (69, lvL_get, fsL_get), (101, lvA_take, fsA_take)])) (tb := tY_take) (st := [2]) eoY (XOk_cons qmY_92 (okW_alleyAt l G) (XOk_cons qmY_95 (okW_aheadOf l G) (XOk_cons qmY_57 (okL_size l G) (XOk_cons qmY_69 (okL_get l G) (XOk_cons qmY_101 (okA_take l G) XOk_nil))))) kY_take 60 _ _ _ _ _ _ ?_
  simp only [reduceCtorEq, fv0, fv1, fv2, fv3, bI_0, bI_1, bft, MSh_sI_eq, fsP_T, inL_0, inL_s, pad_0, pad_n, pad_s, wpn_s, wp1_s, lg_0, lg_s, lset_0, lset_s, kil_0, kil_s, st1_s, st2_s, isL_i, isL_l, isL_r, isL_n, spl_0, spl_s, cll_n, cll_s, catS_0, catS_s, jmp_s, alk_0, alk_s, otl_n, otl_s, List.nil_append, List.cons_append, List.contains_cons, List.contains_nil, Nat.reduceBEq, Bool.or_false, Bool.false_or, Bool.or_self, Bool.false_eq_true, Bool.true_or, Bool.or_true, if_true, if_false, ite_true, ite_false, ↓reduceIte, List.length_cons, List.length_nil, Nat.reduceAdd, Nat.reduceLT, Nat.reduceLeDiff, Nat.reduceEqDiff, Int.reduceAdd, Int.reduceLE, Int.toNat_natCast, Int.reduceToNat, Int.cast_ofNat_Int, true_and, and_true, false_and, and_false, true_implies, forall_const, eq_self, and_self, or_true, true_or, or_self, false_or, or_false, yI_sI, yR_sI, yC_sI, yN_sI, yI_sR, yR_sR, yC_sR, yN_sR, not_true_eq_false, not_false_eq_true, false_implies, implies_true, Nat.zero_add, Nat.add_zero, Nat.le_refl, Nat.reduceSub, Int.reduceSub, Int.reduceLT, Int.sub_zero, Int.sub_self, List.getElem?_toArray, List.getElem?_cons_zero, List.getElem?_cons_succ, Int.toNat_zero, Int.toNat_one, Int.lt_irrefl, yI_sB, yR_sB, yC_sB, yN_sB, MSh_sB_eq, pY_take_0, stp_iconst, pY_take_1, stp_istore_n, pY_take_2, stp_iload_n, pY_take_3, stp_aload_n, pY_take_4, stp_getfield, qfY_89, rp_8_2, pY_take_7, stp_if_icmp_ge, pY_take_10, pY_take_11, pY_take_12, stp_invokevirtual, qmY_92, cy_W_alleyAt, ss_C8 hS, pY_take_15, stp_istore, pY_take_17, stp_iload, pY_take_19, stp_ifCond_lt, pY_take_22, pY_take_24, pY_take_25, qfY_12, rp_1_0, ss_C1 hS, ss_R1_0 hS, ss_C2 hS, pY_take_28, qmY_57, cy_L_size, pY_take_31, pY_take_34, pY_take_35, pY_take_38, pY_take_40, qmY_69, cy_L_get, pY_take_43, stp_checkcast, qtY_39, pY_take_46, pY_take_47, pY_take_48, pY_take_49, qmY_95, cy_W_aheadOf, pY_take_52, stp_iadd, pY_take_53, qmY_101, cy_A_take, pY_take_56, stp_iinc, pY_take_59, stp_goto, pY_take_62, stp_return_, ic_0, ic_1, nv_Y_take, ml_Y_take, ss_C8 hS, hx, hW.1, r1, r2, rs, rg, rt, a1.1, q1, q2, q3, hl1, hl2, hl3, hl4, hl5, nI_add, nI_1]
  exact ih
set_option maxRecDepth 100000 in
set_option maxHeartbeats 4000000 in
theorem lpY_take {x m t : Nat} {κ : Nat → Nat} (hl : 3 < n) (hC : Cpy w) (hx : x < 17) (hW : WyC w x κ m) (hO : tkO w κ (aN (grf w) κ) t m) (hQ : Q none (tkW w κ (aN (grf w) κ) t m)) : ∀ c i l4, i + c = m → WP l G mY_take n 0 0 Q 2 [some (.inr (.inr (some (1, 0)))), some (.inr (.inr (some (8, x)))), some (.inl (nI t)), some (.inl (nI i)), l4] [] (tkW w κ (aN (grf w) κ) t i) 0 0
  | 0, i, l4, hi => by
    have e : i = m := hi
    subst e
    have S1 := tkW_E w κ (aN (grf w) κ) t i
    have hS := (Cpy_W (SmE_W S1) hC).1
    have hW1 := (WyC_E S1 hW).1
    refine wpn_ok (M := mY_take) (C := cenY) (X := (alk [])) (tb := tY_take) (st := [2]) eoY XOk_nil kY_take 60 _ _ _ _ _ _ ?_
    simp only [reduceCtorEq, fv0, fv1, fv2, fv3, bI_0, bI_1, bft, MSh_sI_eq, fsP_T, inL_0, inL_s, pad_0, pad_n, pad_s, wpn_s, wp1_s, lg_0, lg_s, lset_0, lset_s, kil_0, kil_s, st1_s, st2_s, isL_i, isL_l, isL_r, isL_n, spl_0, spl_s, cll_n, cll_s, catS_0, catS_s, jmp_s, alk_0, alk_s, otl_n, otl_s, List.nil_append, List.cons_append, List.contains_cons, List.contains_nil, Nat.reduceBEq, Bool.or_false, Bool.false_or, Bool.or_self, Bool.false_eq_true, Bool.true_or, Bool.or_true, if_true, if_false, ite_true, ite_false, ↓reduceIte, List.length_cons, List.length_nil, Nat.reduceAdd, Nat.reduceLT, Nat.reduceLeDiff, Nat.reduceEqDiff, Int.reduceAdd, Int.reduceLE, Int.toNat_natCast, Int.reduceToNat, Int.cast_ofNat_Int, true_and, and_true, false_and, and_false, true_implies, forall_const, eq_self, and_self, or_true, true_or, or_self, false_or, or_false, yI_sI, yR_sI, yC_sI, yN_sI, yI_sR, yR_sR, yC_sR, yN_sR, not_true_eq_false, not_false_eq_true, false_implies, implies_true, Nat.zero_add, Nat.add_zero, Nat.le_refl, Nat.reduceSub, Int.reduceSub, Int.reduceLT, Int.sub_zero, Int.sub_self, List.getElem?_toArray, List.getElem?_cons_zero, List.getElem?_cons_succ, Int.toNat_zero, Int.toNat_one, Int.lt_irrefl, yI_sB, yR_sB, yC_sB, yN_sB, MSh_sB_eq, pY_take_0, stp_iconst, pY_take_1, stp_istore_n, pY_take_2, stp_iload_n, pY_take_3, stp_aload_n, pY_take_4, stp_getfield, qfY_89, rp_8_2, pY_take_7, stp_if_icmp_ge, pY_take_10, pY_take_11, pY_take_12, stp_invokevirtual, qmY_92, cy_W_alleyAt, ss_C8 hS, pY_take_15, stp_istore, pY_take_17, stp_iload, pY_take_19, stp_ifCond_lt, pY_take_22, pY_take_24, pY_take_25, qfY_12, rp_1_0, ss_C1 hS, ss_R1_0 hS, ss_C2 hS, pY_take_28, qmY_57, cy_L_size, pY_take_31, pY_take_34, pY_take_35, pY_take_38, pY_take_40, qmY_69, cy_L_get, pY_take_43, stp_checkcast, qtY_39, pY_take_46, pY_take_47, pY_take_48, pY_take_49, qmY_95, cy_W_aheadOf, pY_take_52, stp_iadd, pY_take_53, qmY_101, cy_A_take, pY_take_56, stp_iinc, pY_take_59, stp_goto, pY_take_62, stp_return_, ic_0, ic_1, nv_Y_take, ml_Y_take, ss_C8 hS, hx, hW1, Int32.le_refl]
    exact hQ
  | c + 1, i, l4, hi => by
    have S1 := tkW_E w κ (aN (grf w) κ) t i
    obtain ⟨o1, o2⟩ := hO i (by omega)
    refine stY_take hl (Cpy_W (SmE_W S1) hC) hx (WyC_E S1 hW) (by omega) o1 o2 (fun l4' => ?_)
    rw [SmW_g (SmE_W S1)]
    exact lpY_take hl hC hx hW hO hQ c (i + 1) l4' (by omega)
set_option maxRecDepth 100000 in
set_option maxHeartbeats 4000000 in
theorem stY_giveBack {x m i : Nat} {κ : Nat → Nat} {l4 : Option AV} (hl : 3 < n) (hC : Cpy w) (hx : x < 17) (hW : WyC w x κ m) (hi : i < m) (h1 : wI w 9 (κ i) 4 = nI (szA w (κ i))) (h2 : 0 < szA w (κ i)) (h3 : szA w (κ i) ≤ 24) (ih : ∀ l4, WP l G mY_giveBack n 0 0 Q 2 [some (.inr (.inr (some (1, 0)))), some (.inr (.inr (some (8, x)))), some (.inl (nI (i + 1))), l4] [] (gb1 w (κ i)) 0 0) : WP l G mY_giveBack n 0 0 Q 2 [some (.inr (.inr (some (1, 0)))), some (.inr (.inr (some (8, x)))), some (.inl (nI i)), l4] [] w 0 0 := by
  have hS := hC.1
  have hm := hW.2.1
  obtain ⟨w1, w2, w3, w4⟩ := hW.2.2 i hi
  have h20 := hC.2.2.2.1.2.2.1.2
  have r1 := ruW_alleyAt hS hx hW.1 hm hi
  rw [w1] at r1
  have rs := ruL_size hC.2.2.1.1
  have rg : fsL_get [.inr (.inr (some (2, 0))), .inl (nI (κ i))] w = some (some (.inr (.inr (some (9, κ i)))), w) := ruL_get hC.2.2.1.1 w2
  have a1 := (Cpy_al hC w2).1
  have rt : fsA_giveBack [.inr (.inr (some (9, κ i)))] w = some (none, gb1 w (κ i)) := ruA_giveBack a1.1 h1 h2 h3
  have q1 : ¬ nI m ≤ nI i := nI_ge hi (by omega)
  have q2 : ¬ nI (κ i) < 0 := nI_pos (by omega)
  have q3 : ¬ nI (cn w 6) ≤ nI (κ i) := nI_ge w2 (by omega)
  have ih := ih (some (.inl (nI (κ i))))
  have hl1 : lvW_alleyAt < n := by show 1 < n; omega
  have hl3 : lvL_size < n := by show 1 < n; omega
  have hl4 : lvL_get < n := hl
  have hl5 : lvA_giveBack < n := by show 1 < n; omega
  refine wpn_ok (M := mY_giveBack) (C := cenY) (X := (alk [(92, lvW_alleyAt, fsW_alleyAt), (57, lvL_size, fsL_size), (69, lvL_get, fsL_get), (105, lvA_giveBack, fsA_giveBack)])) (tb := tY_giveBack) (st := [2]) eoY (XOk_cons qmY_92 (okW_alleyAt l G) (XOk_cons qmY_57 (okL_size l G) (XOk_cons qmY_69 (okL_get l G) (XOk_cons qmY_105 (okA_giveBack l G) XOk_nil)))) kY_giveBack 60 _ _ _ _ _ _ ?_
  simp only [reduceCtorEq, fv0, fv1, fv2, fv3, bI_0, bI_1, bft, MSh_sI_eq, fsP_T, inL_0, inL_s, pad_0, pad_n, pad_s, wpn_s, wp1_s, lg_0, lg_s, lset_0, lset_s, kil_0, kil_s, st1_s, st2_s, isL_i, isL_l, isL_r, isL_n, spl_0, spl_s, cll_n, cll_s, catS_0, catS_s, jmp_s, alk_0, alk_s, otl_n, otl_s, List.nil_append, List.cons_append, List.contains_cons, List.contains_nil, Nat.reduceBEq, Bool.or_false, Bool.false_or, Bool.or_self, Bool.false_eq_true, Bool.true_or, Bool.or_true, if_true, if_false, ite_true, ite_false, ↓reduceIte, List.length_cons, List.length_nil, Nat.reduceAdd, Nat.reduceLT, Nat.reduceLeDiff, Nat.reduceEqDiff, Int.reduceAdd, Int.reduceLE, Int.toNat_natCast, Int.reduceToNat, Int.cast_ofNat_Int, true_and, and_true, false_and, and_false, true_implies, forall_const, eq_self, and_self, or_true, true_or, or_self, false_or, or_false, yI_sI, yR_sI, yC_sI, yN_sI, yI_sR, yR_sR, yC_sR, yN_sR, not_true_eq_false, not_false_eq_true, false_implies, implies_true, Nat.zero_add, Nat.add_zero, Nat.le_refl, Nat.reduceSub, Int.reduceSub, Int.reduceLT, Int.sub_zero, Int.sub_self, List.getElem?_toArray, List.getElem?_cons_zero, List.getElem?_cons_succ, Int.toNat_zero, Int.toNat_one, Int.lt_irrefl, yI_sB, yR_sB, yC_sB, yN_sB, MSh_sB_eq, pY_giveBack_0, stp_iconst, pY_giveBack_1, stp_istore_n, pY_giveBack_2, stp_iload_n, pY_giveBack_3, stp_aload_n, pY_giveBack_4, stp_getfield, qfY_89, rp_8_2, pY_giveBack_7, stp_if_icmp_ge, pY_giveBack_10, pY_giveBack_11, pY_giveBack_12, stp_invokevirtual, qmY_92, cy_W_alleyAt, ss_C8 hS, pY_giveBack_15, pY_giveBack_16, pY_giveBack_17, stp_ifCond_lt, pY_giveBack_20, pY_giveBack_21, pY_giveBack_22, qfY_12, rp_1_0, ss_C1 hS, ss_R1_0 hS, ss_C2 hS, pY_giveBack_25, qmY_57, cy_L_size, pY_giveBack_28, pY_giveBack_31, pY_giveBack_32, pY_giveBack_35, pY_giveBack_36, qmY_69, cy_L_get, pY_giveBack_39, stp_checkcast, qtY_39, pY_giveBack_42, qmY_105, cy_A_giveBack, pY_giveBack_45, stp_iinc, pY_giveBack_48, stp_goto, pY_giveBack_51, stp_return_, ic_0, ic_1, nv_Y_giveBack, ml_Y_giveBack, ss_C8 hS, hx, hW.1, r1, rs, rg, rt, a1.1, q1, q2, q3, hl1, hl3, hl4, hl5, nI_1]
  exact ih
set_option maxRecDepth 100000 in
set_option maxHeartbeats 4000000 in
theorem lpY_giveBack {x m : Nat} {κ : Nat → Nat} (hl : 3 < n) (hC : Cpy w) (hx : x < 17) (hW : WyC w x κ m) (hO : gbO w κ m) (hQ : Q none (gbW w κ m)) : ∀ c i l4, i + c = m → WP l G mY_giveBack n 0 0 Q 2 [some (.inr (.inr (some (1, 0)))), some (.inr (.inr (some (8, x)))), some (.inl (nI i)), l4] [] (gbW w κ i) 0 0
  | 0, i, l4, hi => by
    have e : i = m := hi
    subst e
    have S1 := gbW_E w κ i
    have hS := (Cpy_W (SmE_W S1) hC).1
    have hW1 := (WyC_E S1 hW).1
    refine wpn_ok (M := mY_giveBack) (C := cenY) (X := (alk [])) (tb := tY_giveBack) (st := [2]) eoY XOk_nil kY_giveBack 60 _ _ _ _ _ _ ?_
    simp only [reduceCtorEq, fv0, fv1, fv2, fv3, bI_0, bI_1, bft, MSh_sI_eq, fsP_T, inL_0, inL_s, pad_0, pad_n, pad_s, wpn_s, wp1_s, lg_0, lg_s, lset_0, lset_s, kil_0, kil_s, st1_s, st2_s, isL_i, isL_l, isL_r, isL_n, spl_0, spl_s, cll_n, cll_s, catS_0, catS_s, jmp_s, alk_0, alk_s, otl_n, otl_s, List.nil_append, List.cons_append, List.contains_cons, List.contains_nil, Nat.reduceBEq, Bool.or_false, Bool.false_or, Bool.or_self, Bool.false_eq_true, Bool.true_or, Bool.or_true, if_true, if_false, ite_true, ite_false, ↓reduceIte, List.length_cons, List.length_nil, Nat.reduceAdd, Nat.reduceLT, Nat.reduceLeDiff, Nat.reduceEqDiff, Int.reduceAdd, Int.reduceLE, Int.toNat_natCast, Int.reduceToNat, Int.cast_ofNat_Int, true_and, and_true, false_and, and_false, true_implies, forall_const, eq_self, and_self, or_true, true_or, or_self, false_or, or_false, yI_sI, yR_sI, yC_sI, yN_sI, yI_sR, yR_sR, yC_sR, yN_sR, not_true_eq_false, not_false_eq_true, false_implies, implies_true, Nat.zero_add, Nat.add_zero, Nat.le_refl, Nat.reduceSub, Int.reduceSub, Int.reduceLT, Int.sub_zero, Int.sub_self, List.getElem?_toArray, List.getElem?_cons_zero, List.getElem?_cons_succ, Int.toNat_zero, Int.toNat_one, Int.lt_irrefl, yI_sB, yR_sB, yC_sB, yN_sB, MSh_sB_eq, pY_giveBack_0, stp_iconst, pY_giveBack_1, stp_istore_n, pY_giveBack_2, stp_iload_n, pY_giveBack_3, stp_aload_n, pY_giveBack_4, stp_getfield, qfY_89, rp_8_2, pY_giveBack_7, stp_if_icmp_ge, pY_giveBack_10, pY_giveBack_11, pY_giveBack_12, stp_invokevirtual, qmY_92, cy_W_alleyAt, ss_C8 hS, pY_giveBack_15, pY_giveBack_16, pY_giveBack_17, stp_ifCond_lt, pY_giveBack_20, pY_giveBack_21, pY_giveBack_22, qfY_12, rp_1_0, ss_C1 hS, ss_R1_0 hS, ss_C2 hS, pY_giveBack_25, qmY_57, cy_L_size, pY_giveBack_28, pY_giveBack_31, pY_giveBack_32, pY_giveBack_35, pY_giveBack_36, qmY_69, cy_L_get, pY_giveBack_39, stp_checkcast, qtY_39, pY_giveBack_42, qmY_105, cy_A_giveBack, pY_giveBack_45, stp_iinc, pY_giveBack_48, stp_goto, pY_giveBack_51, stp_return_, ic_0, ic_1, nv_Y_giveBack, ml_Y_giveBack, ss_C8 hS, hx, hW1, Int32.le_refl]
    exact hQ
  | c + 1, i, l4, hi => by
    have S1 := gbW_E w κ i
    obtain ⟨o1, o2, o3⟩ := hO i (by omega)
    refine stY_giveBack hl (Cpy_W (SmE_W S1) hC) hx (WyC_E S1 hW) (by omega) o1 o2 o3 (fun l4' => ?_)
    exact lpY_giveBack hl hC hx hW hO hQ c (i + 1) l4' (by omega)
end
abbrev lvY_take : Nat := 4
noncomputable def fsY_take : FS := fun as w => match as with
  | [.inr (.inr (some (1, 0))), .inr (.inr (some (8, x))), .inl y] => fsP (Cpy w ∧ x < 17 ∧ WyC w x (wkC w x) (wlN w x) ∧ y = nI y.toNatClampNeg ∧ tkO w (wkC w x) (aN (grf w) (wkC w x)) y.toNatClampNeg (wlN w x)) (none, tkW w (wkC w x) (aN (grf w) (wkC w x)) y.toNatClampNeg (wlN w x))
  | _ => none
set_option maxRecDepth 100000 in
set_option maxHeartbeats 4000000 in
theorem okY_take (l : Launch) (G : Gc) : FsOk l G mY_take lvY_take fsY_take := by
  intro as w r w' h
  simp only [fsY_take] at h
  split at h
  · rename_i x y
    obtain ⟨⟨hC, hx, hW, hy, hO⟩, h⟩ := fsP_s h
    cases h
    have hS := hC.1
    refine Sem_of (by decide) rfl (Nat.le_of_ble_eq_true rfl) ?_
    refine wpn_ok (M := mY_take) (C := cenY) (X := (alk [])) (tb := tY_take) (st := [2]) eoY XOk_nil kY_take 60 _ _ _ _ _ _ ?_
    simp only [reduceCtorEq, fv0, fv1, fv2, fv3, bI_0, bI_1, bft, MSh_sI_eq, fsP_T, inL_0, inL_s, pad_0, pad_n, pad_s, wpn_s, wp1_s, lg_0, lg_s, lset_0, lset_s, kil_0, kil_s, st1_s, st2_s, isL_i, isL_l, isL_r, isL_n, spl_0, spl_s, cll_n, cll_s, catS_0, catS_s, jmp_s, alk_0, alk_s, otl_n, otl_s, List.nil_append, List.cons_append, List.contains_cons, List.contains_nil, Nat.reduceBEq, Bool.or_false, Bool.false_or, Bool.or_self, Bool.false_eq_true, Bool.true_or, Bool.or_true, if_true, if_false, ite_true, ite_false, ↓reduceIte, List.length_cons, List.length_nil, Nat.reduceAdd, Nat.reduceLT, Nat.reduceLeDiff, Nat.reduceEqDiff, Int.reduceAdd, Int.reduceLE, Int.toNat_natCast, Int.reduceToNat, Int.cast_ofNat_Int, true_and, and_true, false_and, and_false, true_implies, forall_const, eq_self, and_self, or_true, true_or, or_self, false_or, or_false, yI_sI, yR_sI, yC_sI, yN_sI, yI_sR, yR_sR, yC_sR, yN_sR, not_true_eq_false, not_false_eq_true, false_implies, implies_true, Nat.zero_add, Nat.add_zero, Nat.le_refl, Nat.reduceSub, Int.reduceSub, Int.reduceLT, Int.sub_zero, Int.sub_self, List.getElem?_toArray, List.getElem?_cons_zero, List.getElem?_cons_succ, Int.toNat_zero, Int.toNat_one, Int.lt_irrefl, yI_sB, yR_sB, yC_sB, yN_sB, MSh_sB_eq, pY_take_0, stp_iconst, pY_take_1, stp_istore_n, pY_take_2, stp_iload_n, pY_take_3, stp_aload_n, pY_take_4, stp_getfield, qfY_89, rp_8_2, pY_take_7, stp_if_icmp_ge, pY_take_10, pY_take_11, pY_take_12, stp_invokevirtual, qmY_92, cy_W_alleyAt, ss_C8 hS, pY_take_15, stp_istore, pY_take_17, stp_iload, pY_take_19, stp_ifCond_lt, pY_take_22, pY_take_24, pY_take_25, qfY_12, rp_1_0, ss_C1 hS, ss_R1_0 hS, ss_C2 hS, pY_take_28, qmY_57, cy_L_size, pY_take_31, pY_take_34, pY_take_35, pY_take_38, pY_take_40, qmY_69, cy_L_get, pY_take_43, stp_checkcast, qtY_39, pY_take_46, pY_take_47, pY_take_48, pY_take_49, qmY_95, cy_W_aheadOf, pY_take_52, stp_iadd, pY_take_53, qmY_101, cy_A_take, pY_take_56, stp_iinc, pY_take_59, stp_goto, pY_take_62, stp_return_, ic_0, ic_1, nv_Y_take, ml_Y_take]
    have := lpY_take (l := l) (G := G) (n := lvY_take) (Q := fun r w' => r = none ∧ w' = tkW w (wkC w x) (aN (grf w) (wkC w x)) y.toNatClampNeg (wlN w x)) (by decide) hC hx hW hO ⟨rfl, rfl⟩ (wlN w x) 0 none (by omega)
    rw [← hy] at this
    exact this
  · cases h
abbrev lvY_giveBack : Nat := 4
noncomputable def fsY_giveBack : FS := fun as w => match as with
  | [.inr (.inr (some (1, 0))), .inr (.inr (some (8, x)))] => fsP (Cpy w ∧ x < 17 ∧ WyC w x (wkC w x) (wlN w x) ∧ gbO w (wkC w x) (wlN w x)) (none, gbW w (wkC w x) (wlN w x))
  | _ => none
set_option maxRecDepth 100000 in
set_option maxHeartbeats 4000000 in
theorem okY_giveBack (l : Launch) (G : Gc) : FsOk l G mY_giveBack lvY_giveBack fsY_giveBack := by
  intro as w r w' h
  simp only [fsY_giveBack] at h
  split at h
  · rename_i x
    obtain ⟨⟨hC, hx, hW, hO⟩, h⟩ := fsP_s h
    cases h
    have hS := hC.1
    refine Sem_of (by decide) rfl (Nat.le_of_ble_eq_true rfl) ?_
    refine wpn_ok (M := mY_giveBack) (C := cenY) (X := (alk [])) (tb := tY_giveBack) (st := [2]) eoY XOk_nil kY_giveBack 60 _ _ _ _ _ _ ?_
    simp only [reduceCtorEq, fv0, fv1, fv2, fv3, bI_0, bI_1, bft, MSh_sI_eq, fsP_T, inL_0, inL_s, pad_0, pad_n, pad_s, wpn_s, wp1_s, lg_0, lg_s, lset_0, lset_s, kil_0, kil_s, st1_s, st2_s, isL_i, isL_l, isL_r, isL_n, spl_0, spl_s, cll_n, cll_s, catS_0, catS_s, jmp_s, alk_0, alk_s, otl_n, otl_s, List.nil_append, List.cons_append, List.contains_cons, List.contains_nil, Nat.reduceBEq, Bool.or_false, Bool.false_or, Bool.or_self, Bool.false_eq_true, Bool.true_or, Bool.or_true, if_true, if_false, ite_true, ite_false, ↓reduceIte, List.length_cons, List.length_nil, Nat.reduceAdd, Nat.reduceLT, Nat.reduceLeDiff, Nat.reduceEqDiff, Int.reduceAdd, Int.reduceLE, Int.toNat_natCast, Int.reduceToNat, Int.cast_ofNat_Int, true_and, and_true, false_and, and_false, true_implies, forall_const, eq_self, and_self, or_true, true_or, or_self, false_or, or_false, yI_sI, yR_sI, yC_sI, yN_sI, yI_sR, yR_sR, yC_sR, yN_sR, not_true_eq_false, not_false_eq_true, false_implies, implies_true, Nat.zero_add, Nat.add_zero, Nat.le_refl, Nat.reduceSub, Int.reduceSub, Int.reduceLT, Int.sub_zero, Int.sub_self, List.getElem?_toArray, List.getElem?_cons_zero, List.getElem?_cons_succ, Int.toNat_zero, Int.toNat_one, Int.lt_irrefl, yI_sB, yR_sB, yC_sB, yN_sB, MSh_sB_eq, pY_giveBack_0, stp_iconst, pY_giveBack_1, stp_istore_n, pY_giveBack_2, stp_iload_n, pY_giveBack_3, stp_aload_n, pY_giveBack_4, stp_getfield, qfY_89, rp_8_2, pY_giveBack_7, stp_if_icmp_ge, pY_giveBack_10, pY_giveBack_11, pY_giveBack_12, stp_invokevirtual, qmY_92, cy_W_alleyAt, ss_C8 hS, pY_giveBack_15, pY_giveBack_16, pY_giveBack_17, stp_ifCond_lt, pY_giveBack_20, pY_giveBack_21, pY_giveBack_22, qfY_12, rp_1_0, ss_C1 hS, ss_R1_0 hS, ss_C2 hS, pY_giveBack_25, qmY_57, cy_L_size, pY_giveBack_28, pY_giveBack_31, pY_giveBack_32, pY_giveBack_35, pY_giveBack_36, qmY_69, cy_L_get, pY_giveBack_39, stp_checkcast, qtY_39, pY_giveBack_42, qmY_105, cy_A_giveBack, pY_giveBack_45, stp_iinc, pY_giveBack_48, stp_goto, pY_giveBack_51, stp_return_, ic_0, ic_1, nv_Y_giveBack, ml_Y_giveBack]
    exact lpY_giveBack (by decide) hC hx hW hO ⟨rfl, rfl⟩ (wlN w x) 0 none (by omega)
  · cases h
