/-! readyPlanner -/
theorem cnN_mono {p : Nat → Bool} : ∀ {m n : Nat}, m ≤ n → cnN p m ≤ cnN p n
  | m, 0, h => by rw [show m = 0 by omega]; exact Nat.le_refl _
  | m, n + 1, h => by
    by_cases e : m = n + 1
    · subst e; exact Nat.le_refl _
    · have := cnN_mono (p := p) (show m ≤ n by omega)
      simp only [cnN]
      omega
theorem cnN_ltp {p : Nat → Bool} {m n : Nat} (h : m < n) (hp : p m = true) : cnN p m < cnN p n := by
  have := cnN_mono (p := p) (show m + 1 ≤ n by omega)
  simp only [cnN, hp, if_true] at this
  omega
theorem cnN_at {p : Nat → Bool} : ∀ {n q : Nat}, q < cnN p n → ∃ j, j < n ∧ p j = true ∧ cnN p j = q
  | 0, q, h => by simp [cnN] at h
  | n + 1, q, h => by
    simp only [cnN] at h
    by_cases e : q < cnN p n
    · obtain ⟨j, h1, h2, h3⟩ := cnN_at e
      exact ⟨j, by omega, h2, h3⟩
    · cases hp : p n with
      | false => simp [hp] at h; omega
      | true => simp [hp] at h; exact ⟨n, by omega, hp, by omega⟩
/-- the pens stand in the planner's row, so far -/
def RpA (w0 w : Wd) (y : Int32) (i : Nat) : Prop := w.2 = w0.2 ∧ (∀ t k q, ¬ (t = 178 ∨ (t = 6 ∧ k = 0 ∧ (q = 8 ∨ q = 9))) → wI w t k q = wI w0 t k q) ∧ wI w 6 0 8 = 0 ∧ wI w 6 0 9 = nI (cnN (btB y) i) ∧ ∀ j, j < i → btB y j = true → wI w 178 0 (cnN (btB y) j) = nI j
theorem RpA_W {w0 w : Wd} {y : Int32} {i : Nat} (h : RpA w0 w y i) : SmW w0 w := ⟨h.1, fun t k q hn => h.2.1 t k q (by omega)⟩
theorem RpA_s {w0 w : Wd} {y : Int32} {i : Nat} (h : RpA w0 w y i) (hb : btB y i = true) : RpA w0 (paW w (cnN (btB y) i) (nI i)) y (i + 1) := by
  obtain ⟨a1, a2, a3, a4, a5⟩ := h
  have e : ∀ t k q, wI (paW w (cnN (btB y) i) (nI i)) t k q = if t = 6 ∧ k = 0 ∧ q = 9 then nI (cnN (btB y) i + 1) else if t = 178 ∧ k = 0 ∧ q = cnN (btB y) i then nI i else wI w t k q := fun t k q => by unfold paW; rw [yI_sI, yI_sI]
  refine ⟨by unfold paW; rw [sI_2, sI_2]; exact a1, fun t k q hn => by rw [e, if_neg (by omega), if_neg (by omega)]; exact a2 t k q hn, by rw [e, if_neg (by omega), if_neg (by omega)]; exact a3, by rw [e, if_pos ⟨rfl, rfl, rfl⟩]; simp only [cnN, hb, if_true], fun j hj hbj => ?_⟩
  by_cases z : j = i
  · rw [z, e, if_neg (by omega), if_pos ⟨rfl, rfl, rfl⟩]
  · have := cnN_ltp (p := btB y) (show j < i by omega) hbj
    rw [e, if_neg (by omega), if_neg (by omega)]
    exact a5 j (by omega) hbj
theorem RpA_n {w0 w : Wd} {y : Int32} {i : Nat} (h : RpA w0 w y i) (hb : btB y i = false) : RpA w0 w y (i + 1) := by
  obtain ⟨a1, a2, a3, a4, a5⟩ := h
  refine ⟨a1, a2, a3, by simp only [cnN, hb]; exact a4, fun j hj hbj => a5 j ?_ hbj⟩
  by_cases z : j = i
  · rw [z, hb] at hbj; cases hbj
  · omega
/-- the lots too, and the ways from their places -/
def RpB (w0 w : Wd) (x : Int32) (ky : Nat) (pa eP : Nat → Nat) (i : Nat) : Prop := w.2 = w0.2 ∧ (∀ t k q, ¬ (((t = 8 ∨ t = 184 ∨ t = 185) ∧ k < 16) ∨ t = 177 ∨ t = 178 ∨ (t = 6 ∧ k = 0 ∧ (q = 8 ∨ q = 9))) → wI w t k q = wI w0 t k q) ∧ wI w 6 0 8 = nI (cnN (btB x) i) ∧ wI w 6 0 9 = nI ky ∧ (∀ q, q < ky → wI w 178 0 q = nI (eP q)) ∧ ∀ j, j < i → btB x j = true → wI w 177 0 (cnN (btB x) j) = nI j ∧ ∀ q, q < ky → WyF w (4 * cnN (btB x) j + q) (pa j) (eP q)
theorem RpB_W {w0 w : Wd} {x : Int32} {ky i : Nat} {pa eP : Nat → Nat} (h : RpB w0 w x ky pa eP i) : SmW w0 w := ⟨h.1, fun t k q hn => h.2.1 t k q (by omega)⟩
theorem RpB_s {w0 w w' : Wd} {x : Int32} {ky i : Nat} {pa eP : Nat → Nat} (h : RpB w0 w x ky pa eP i) (hb : btB x i = true) (hk : ky ≤ 4) (hs : cnN (btB x) i < 4) (hA : AlP w w' (cnN (btB x) i) ky (pa i) (nI i) eP) : RpB w0 w' x ky pa eP (i + 1) := by
  obtain ⟨a1, a2, a3, a4, a5, a6⟩ := h
  obtain ⟨b1, b2, b3, b4, b5⟩ := hA
  have sm : SmW w w' := ⟨b1, fun t k q hn => b2 t k q (by omega) (by omega) (by omega)⟩
  refine ⟨b1.trans a1, fun t k q hn => by rw [b2 t k q (by omega) (by omega) (by omega)]; exact a2 t k q hn, by rw [b4]; simp only [cnN, hb, if_true], by rw [b2 6 0 9 (by omega) (by omega) (by omega)]; exact a4, fun q hq => by rw [b2 178 0 q (by omega) (by omega) (by omega)]; exact a5 q hq, fun j hj hbj => ?_⟩
  by_cases z : j = i
  · rw [z]
    exact ⟨b3, b5⟩
  · have lt := cnN_ltp (p := btB x) (show j < i by omega) hbj
    obtain ⟨c1, c2⟩ := a6 j (by omega) hbj
    refine ⟨by rw [b2 177 0 _ (by omega) (by omega) (by omega)]; exact c1, fun q hq => WyF_cg (SmW_g sm) (SmW_d sm) (SmW_c sm 6) (fun r => b2 8 _ r (by omega) (by omega) (by omega)) (fun r => b2 184 _ r (by omega) (by omega) (by omega)) (fun r => b2 185 _ r (by omega) (by omega) (by omega)) (c2 q hq)⟩
theorem RpB_n {w0 w : Wd} {x : Int32} {ky i : Nat} {pa eP : Nat → Nat} (h : RpB w0 w x ky pa eP i) (hb : btB x i = false) : RpB w0 w x ky pa eP (i + 1) := by
  obtain ⟨a1, a2, a3, a4, a5, a6⟩ := h
  refine ⟨a1, a2, by simp only [cnN, hb]; exact a3, a4, a5, fun j hj hbj => a6 j ?_ hbj⟩
  by_cases z : j = i
  · rw [z, hb] at hbj; cases hbj
  · omega
section
variable {l : Launch} {G : Gc} {w0 w : Wd} {Q : Option AV → Wd → Prop} {n : Nat}
set_option maxRecDepth 100000 in
set_option maxHeartbeats 4000000 in
theorem stS_readyA {x y : Int32} {i : Nat} (hn : 6 < n) (hC : Cpy w0) (hA : RpA w0 w y i) (hi : i < cn w0 3) (h4 : cnN (btB y) (cn w0 3) ≤ 4) (ih : ∀ w', RpA w0 w' y (i + 1) → WP l G mS_readyPlanner n 0 0 Q 9 [some (.inr (.inr (some (0, 0)))), some (.inl x), some (.inl y), some (.inl (nI (i + 1)))] [] w' 0 0) : WP l G mS_readyPlanner n 0 0 Q 9 [some (.inr (.inr (some (0, 0)))), some (.inl x), some (.inl y), some (.inl (nI i))] [] w 0 0 := by
  have sm := RpA_W hA
  have hCw := Cpy_W sm hC
  have hS := hCw.1
  have h3 := hC.2.2.2.1.2.1
  have h14 := h3.2
  have r4 : wI w 1 0 4 = nI (cn w0 3) := by rw [hA.2.1 1 0 4 (by omega)]; exact hC.2.1.2.1.trans h3.1
  have q1 : ¬ nI (cn w0 3) ≤ nI i := nI_ge hi (by omega)
  have s1 := ruS_inSet (w := w) (x := y) (show i < 32 by omega)
  have l1 : lvS_inSet < n := by show 1 < n; omega
  have l2 : lvP_addPen < n := by show 1 < n; omega
  cases hb : btB y i with
  | false =>
    rw [hb] at s1
    refine wpn_ok (M := mS_readyPlanner) (C := cenS) (X := (alk [(397, lvS_inSet, fsS_inSet)])) (tb := tS_readyPlanner) (st := [9]) eoS (XOk_cons qmS_397 (okS_inSet l G) XOk_nil) kS_readyPlanner 60 _ _ _ _ _ _ ?_
    simp only [reduceCtorEq, fv0, fv1, fv2, fv3, bI_0, bI_1, bft, MSh_sI_eq, fsP_T, inL_0, inL_s, pad_0, pad_n, pad_s, wpn_s, wp1_s, lg_0, lg_s, lset_0, lset_s, kil_0, kil_s, st1_s, st2_s, isL_i, isL_l, isL_r, isL_n, spl_0, spl_s, cll_n, cll_s, catS_0, catS_s, jmp_s, alk_0, alk_s, otl_n, otl_s, List.nil_append, List.cons_append, List.contains_cons, List.contains_nil, Nat.reduceBEq, Bool.or_false, Bool.false_or, Bool.or_self, Bool.false_eq_true, Bool.true_or, Bool.or_true, if_true, if_false, ite_true, ite_false, ↓reduceIte, List.length_cons, List.length_nil, Nat.reduceAdd, Nat.reduceLT, Nat.reduceLeDiff, Nat.reduceEqDiff, Int.reduceAdd, Int.reduceLE, Int.toNat_natCast, Int.reduceToNat, Int.cast_ofNat_Int, true_and, and_true, false_and, and_false, true_implies, forall_const, eq_self, and_self, or_true, true_or, or_self, false_or, or_false, yI_sI, yR_sI, yC_sI, yN_sI, yI_sR, yR_sR, yC_sR, yN_sR, not_true_eq_false, not_false_eq_true, false_implies, implies_true, Nat.zero_add, Nat.add_zero, Nat.le_refl, Nat.reduceSub, Int.reduceSub, Int.reduceLT, Int.sub_zero, Int.sub_self, List.getElem?_toArray, List.getElem?_cons_zero, List.getElem?_cons_succ, Int.toNat_zero, Int.toNat_one, Int.lt_irrefl, yI_sB, yR_sB, yC_sB, yN_sB, MSh_sB_eq, pS_readyPlanner_0, stp_aload_n, pS_readyPlanner_1, stp_getfield, qfS_49, rp_0_5, ss_C0 hS, ss_R0_5 hS, ss_C6 hS, pS_readyPlanner_4, stp_invokevirtual, qmS_400, cy_P_clear, pS_readyPlanner_7, stp_iconst, pS_readyPlanner_8, stp_istore_n, pS_readyPlanner_9, stp_iload_n, pS_readyPlanner_10, pS_readyPlanner_11, qfS_12, rp_0_0, ss_R0_0 hS, ss_C1 hS, pS_readyPlanner_14, qfS_83, rp_1_4, pS_readyPlanner_17, stp_if_icmp_ge, pS_readyPlanner_20, pS_readyPlanner_21, pS_readyPlanner_22, stp_invokestatic, qmS_397, cy_S_inSet, pS_readyPlanner_25, stp_ifCond_eq, pS_readyPlanner_28, pS_readyPlanner_29, pS_readyPlanner_32, pS_readyPlanner_33, qmS_403, cy_P_addPen, pS_readyPlanner_36, stp_iinc, pS_readyPlanner_39, stp_goto, pS_readyPlanner_42, pS_readyPlanner_43, pS_readyPlanner_44, pS_readyPlanner_45, pS_readyPlanner_46, qfS_19, rp_0_1, ss_R0_1 hS, ss_C2 hS, pS_readyPlanner_49, qmS_96, cy_L_size, pS_readyPlanner_52, pS_readyPlanner_55, pS_readyPlanner_56, pS_readyPlanner_57, pS_readyPlanner_60, pS_readyPlanner_63, pS_readyPlanner_64, pS_readyPlanner_67, pS_readyPlanner_68, pS_readyPlanner_69, pS_readyPlanner_72, pS_readyPlanner_73, qmS_277, cy_L_get, pS_readyPlanner_76, stp_checkcast, qtS_132, pS_readyPlanner_79, qfS_167, rp_10_7, pS_readyPlanner_82, qmS_406, cy_P_addLot, pS_readyPlanner_85, pS_readyPlanner_88, pS_readyPlanner_91, stp_return_, ic_0, ic_1, nv_S_readyPlanner, ml_S_readyPlanner, r4, q1, s1, l1, nI_1]
    exact ih w (RpA_n hA hb)
  | true =>
    rw [hb] at s1
    have lt := cnN_ltp (p := btB y) hi hb
    have ap := ruP_addPen (p := nI i) hS (show cnN (btB y) i < 4 by omega) hA.2.2.2.1
    refine wpn_ok (M := mS_readyPlanner) (C := cenS) (X := (alk [(397, lvS_inSet, fsS_inSet), (403, lvP_addPen, fsP_addPen)])) (tb := tS_readyPlanner) (st := [9]) eoS (XOk_cons qmS_397 (okS_inSet l G) (XOk_cons qmS_403 (okP_addPen l G) XOk_nil)) kS_readyPlanner 60 _ _ _ _ _ _ ?_
    simp only [reduceCtorEq, fv0, fv1, fv2, fv3, bI_0, bI_1, bft, MSh_sI_eq, fsP_T, inL_0, inL_s, pad_0, pad_n, pad_s, wpn_s, wp1_s, lg_0, lg_s, lset_0, lset_s, kil_0, kil_s, st1_s, st2_s, isL_i, isL_l, isL_r, isL_n, spl_0, spl_s, cll_n, cll_s, catS_0, catS_s, jmp_s, alk_0, alk_s, otl_n, otl_s, List.nil_append, List.cons_append, List.contains_cons, List.contains_nil, Nat.reduceBEq, Bool.or_false, Bool.false_or, Bool.or_self, Bool.false_eq_true, Bool.true_or, Bool.or_true, if_true, if_false, ite_true, ite_false, ↓reduceIte, List.length_cons, List.length_nil, Nat.reduceAdd, Nat.reduceLT, Nat.reduceLeDiff, Nat.reduceEqDiff, Int.reduceAdd, Int.reduceLE, Int.toNat_natCast, Int.reduceToNat, Int.cast_ofNat_Int, true_and, and_true, false_and, and_false, true_implies, forall_const, eq_self, and_self, or_true, true_or, or_self, false_or, or_false, yI_sI, yR_sI, yC_sI, yN_sI, yI_sR, yR_sR, yC_sR, yN_sR, not_true_eq_false, not_false_eq_true, false_implies, implies_true, Nat.zero_add, Nat.add_zero, Nat.le_refl, Nat.reduceSub, Int.reduceSub, Int.reduceLT, Int.sub_zero, Int.sub_self, List.getElem?_toArray, List.getElem?_cons_zero, List.getElem?_cons_succ, Int.toNat_zero, Int.toNat_one, Int.lt_irrefl, yI_sB, yR_sB, yC_sB, yN_sB, MSh_sB_eq, pS_readyPlanner_0, stp_aload_n, pS_readyPlanner_1, stp_getfield, qfS_49, rp_0_5, ss_C0 hS, ss_R0_5 hS, ss_C6 hS, pS_readyPlanner_4, stp_invokevirtual, qmS_400, cy_P_clear, pS_readyPlanner_7, stp_iconst, pS_readyPlanner_8, stp_istore_n, pS_readyPlanner_9, stp_iload_n, pS_readyPlanner_10, pS_readyPlanner_11, qfS_12, rp_0_0, ss_R0_0 hS, ss_C1 hS, pS_readyPlanner_14, qfS_83, rp_1_4, pS_readyPlanner_17, stp_if_icmp_ge, pS_readyPlanner_20, pS_readyPlanner_21, pS_readyPlanner_22, stp_invokestatic, qmS_397, cy_S_inSet, pS_readyPlanner_25, stp_ifCond_eq, pS_readyPlanner_28, pS_readyPlanner_29, pS_readyPlanner_32, pS_readyPlanner_33, qmS_403, cy_P_addPen, pS_readyPlanner_36, stp_iinc, pS_readyPlanner_39, stp_goto, pS_readyPlanner_42, pS_readyPlanner_43, pS_readyPlanner_44, pS_readyPlanner_45, pS_readyPlanner_46, qfS_19, rp_0_1, ss_R0_1 hS, ss_C2 hS, pS_readyPlanner_49, qmS_96, cy_L_size, pS_readyPlanner_52, pS_readyPlanner_55, pS_readyPlanner_56, pS_readyPlanner_57, pS_readyPlanner_60, pS_readyPlanner_63, pS_readyPlanner_64, pS_readyPlanner_67, pS_readyPlanner_68, pS_readyPlanner_69, pS_readyPlanner_72, pS_readyPlanner_73, qmS_277, cy_L_get, pS_readyPlanner_76, stp_checkcast, qtS_132, pS_readyPlanner_79, qfS_167, rp_10_7, pS_readyPlanner_82, qmS_406, cy_P_addLot, pS_readyPlanner_85, pS_readyPlanner_88, pS_readyPlanner_91, stp_return_, ic_0, ic_1, nv_S_readyPlanner, ml_S_readyPlanner, r4, q1, s1, ap, l1, l2, show ¬ (1 : Int32) = 0 by decide, nI_1]
    exact ih _ (RpA_s hA hb)
set_option maxRecDepth 100000 in
set_option maxHeartbeats 4000000 in
theorem lpS_readyA {x y : Int32} (hn : 6 < n) (hC : Cpy w0) (h4 : cnN (btB y) (cn w0 3) ≤ 4) (hQ : ∀ w', RpA w0 w' y (cn w0 3) → WP l G mS_readyPlanner n 0 0 Q 44 [some (.inr (.inr (some (0, 0)))), some (.inl x), some (.inl y), some (.inl (nI 0))] [] w' 0 0) : ∀ c i w, i + c = cn w0 3 → RpA w0 w y i → WP l G mS_readyPlanner n 0 0 Q 9 [some (.inr (.inr (some (0, 0)))), some (.inl x), some (.inl y), some (.inl (nI i))] [] w 0 0
  | 0, i, w, hi, hA => by
    have e : i = cn w0 3 := hi
    subst e
    have hCw := Cpy_W (RpA_W hA) hC
    have hS := hCw.1
    have r4 : wI w 1 0 4 = nI (cn w0 3) := by rw [hA.2.1 1 0 4 (by omega)]; exact hC.2.1.2.1.trans hC.2.2.2.1.2.1.1
    have hQ := hQ w hA
    rw [nI_0] at hQ
    refine wpn_ok (M := mS_readyPlanner) (C := cenS) (X := (alk [])) (tb := tS_readyPlanner) (st := [9,44]) eoS XOk_nil kS_readyPlanner 60 _ _ _ _ _ _ ?_
    simp only [reduceCtorEq, fv0, fv1, fv2, fv3, bI_0, bI_1, bft, MSh_sI_eq, fsP_T, inL_0, inL_s, pad_0, pad_n, pad_s, wpn_s, wp1_s, lg_0, lg_s, lset_0, lset_s, kil_0, kil_s, st1_s, st2_s, isL_i, isL_l, isL_r, isL_n, spl_0, spl_s, cll_n, cll_s, catS_0, catS_s, jmp_s, alk_0, alk_s, otl_n, otl_s, List.nil_append, List.cons_append, List.contains_cons, List.contains_nil, Nat.reduceBEq, Bool.or_false, Bool.false_or, Bool.or_self, Bool.false_eq_true, Bool.true_or, Bool.or_true, if_true, if_false, ite_true, ite_false, ↓reduceIte, List.length_cons, List.length_nil, Nat.reduceAdd, Nat.reduceLT, Nat.reduceLeDiff, Nat.reduceEqDiff, Int.reduceAdd, Int.reduceLE, Int.toNat_natCast, Int.reduceToNat, Int.cast_ofNat_Int, true_and, and_true, false_and, and_false, true_implies, forall_const, eq_self, and_self, or_true, true_or, or_self, false_or, or_false, yI_sI, yR_sI, yC_sI, yN_sI, yI_sR, yR_sR, yC_sR, yN_sR, not_true_eq_false, not_false_eq_true, false_implies, implies_true, Nat.zero_add, Nat.add_zero, Nat.le_refl, Nat.reduceSub, Int.reduceSub, Int.reduceLT, Int.sub_zero, Int.sub_self, List.getElem?_toArray, List.getElem?_cons_zero, List.getElem?_cons_succ, Int.toNat_zero, Int.toNat_one, Int.lt_irrefl, yI_sB, yR_sB, yC_sB, yN_sB, MSh_sB_eq, pS_readyPlanner_0, stp_aload_n, pS_readyPlanner_1, stp_getfield, qfS_49, rp_0_5, ss_C0 hS, ss_R0_5 hS, ss_C6 hS, pS_readyPlanner_4, stp_invokevirtual, qmS_400, cy_P_clear, pS_readyPlanner_7, stp_iconst, pS_readyPlanner_8, stp_istore_n, pS_readyPlanner_9, stp_iload_n, pS_readyPlanner_10, pS_readyPlanner_11, qfS_12, rp_0_0, ss_R0_0 hS, ss_C1 hS, pS_readyPlanner_14, qfS_83, rp_1_4, pS_readyPlanner_17, stp_if_icmp_ge, pS_readyPlanner_20, pS_readyPlanner_21, pS_readyPlanner_22, stp_invokestatic, qmS_397, cy_S_inSet, pS_readyPlanner_25, stp_ifCond_eq, pS_readyPlanner_28, pS_readyPlanner_29, pS_readyPlanner_32, pS_readyPlanner_33, qmS_403, cy_P_addPen, pS_readyPlanner_36, stp_iinc, pS_readyPlanner_39, stp_goto, pS_readyPlanner_42, pS_readyPlanner_43, pS_readyPlanner_44, pS_readyPlanner_45, pS_readyPlanner_46, qfS_19, rp_0_1, ss_R0_1 hS, ss_C2 hS, pS_readyPlanner_49, qmS_96, cy_L_size, pS_readyPlanner_52, pS_readyPlanner_55, pS_readyPlanner_56, pS_readyPlanner_57, pS_readyPlanner_60, pS_readyPlanner_63, pS_readyPlanner_64, pS_readyPlanner_67, pS_readyPlanner_68, pS_readyPlanner_69, pS_readyPlanner_72, pS_readyPlanner_73, qmS_277, cy_L_get, pS_readyPlanner_76, stp_checkcast, qtS_132, pS_readyPlanner_79, qfS_167, rp_10_7, pS_readyPlanner_82, qmS_406, cy_P_addLot, pS_readyPlanner_85, pS_readyPlanner_88, pS_readyPlanner_91, stp_return_, ic_0, ic_1, nv_S_readyPlanner, ml_S_readyPlanner, r4, Int32.le_refl]
    exact hQ
  | c + 1, i, w, hi, hA => stS_readyA hn hC hA (by omega) h4 fun w' h' => lpS_readyA hn hC h4 hQ c (i + 1) w' (by omega) h'
set_option maxRecDepth 100000 in
set_option maxHeartbeats 4000000 in
theorem stS_readyB {x y : Int32} {i ky : Nat} {pa eP : Nat → Nat} (hn : 6 < n) (hC : Cpy w0) (hL : CpL w0) (hB : RpB w0 w x ky pa eP i) (hi : i < cn w0 17) (h4 : cnN (btB x) (cn w0 17) ≤ 4) (hk : ky ≤ 4) (hp : ∀ q, q < ky → eP q < cn w0 3) (hat : btB x i = true → wI w0 123 0 i = nI (pa i) ∧ pa i < cn w0 3) (ih : ∀ w', RpB w0 w' x ky pa eP (i + 1) → WP l G mS_readyPlanner n 0 0 Q 44 [some (.inr (.inr (some (0, 0)))), some (.inl x), some (.inl y), some (.inl (nI (i + 1)))] [] w' 0 0) : WP l G mS_readyPlanner n 0 0 Q 44 [some (.inr (.inr (some (0, 0)))), some (.inl x), some (.inl y), some (.inl (nI i))] [] w 0 0 := by
  have sm := RpB_W hB
  have hCw := Cpy_W sm hC
  have hS := hCw.1
  have hLw : LiS w 1 (cn w0 17) (fun j => (10, j)) := LiS_cg hB.1 (hB.2.1 2 1 2 (by omega)) hL.1
  have h24 := hL.1.2.1
  have rs := ruL_size hLw
  have rg := ruL_get hLw hi
  obtain ⟨t1, t2⟩ := hL.2 i hi
  have c10 : i < wC w 10 := by rw [w2_C hB.1]; exact t1.1
  have q1 : ¬ nI (cn w0 17) ≤ nI i := nI_ge hi (by omega)
  have s1 := ruS_inSet (w := w) (x := x) (show i < 32 by omega)
  have l1 : lvS_inSet < n := by show 1 < n; omega
  have l2 : lvL_size < n := by show 1 < n; omega
  have l3 : lvL_get < n := by show 3 < n; omega
  cases hb : btB x i with
  | false =>
    rw [hb] at s1
    refine wpn_ok (M := mS_readyPlanner) (C := cenS) (X := (alk [(397, lvS_inSet, fsS_inSet), (96, lvL_size, fsL_size)])) (tb := tS_readyPlanner) (st := [44]) eoS (XOk_cons qmS_397 (okS_inSet l G) (XOk_cons qmS_96 (okL_size l G) XOk_nil)) kS_readyPlanner 60 _ _ _ _ _ _ ?_
    simp only [reduceCtorEq, fv0, fv1, fv2, fv3, bI_0, bI_1, bft, MSh_sI_eq, fsP_T, inL_0, inL_s, pad_0, pad_n, pad_s, wpn_s, wp1_s, lg_0, lg_s, lset_0, lset_s, kil_0, kil_s, st1_s, st2_s, isL_i, isL_l, isL_r, isL_n, spl_0, spl_s, cll_n, cll_s, catS_0, catS_s, jmp_s, alk_0, alk_s, otl_n, otl_s, List.nil_append, List.cons_append, List.contains_cons, List.contains_nil, Nat.reduceBEq, Bool.or_false, Bool.false_or, Bool.or_self, Bool.false_eq_true, Bool.true_or, Bool.or_true, if_true, if_false, ite_true, ite_false, ↓reduceIte, List.length_cons, List.length_nil, Nat.reduceAdd, Nat.reduceLT, Nat.reduceLeDiff, Nat.reduceEqDiff, Int.reduceAdd, Int.reduceLE, Int.toNat_natCast, Int.reduceToNat, Int.cast_ofNat_Int, true_and, and_true, false_and, and_false, true_implies, forall_const, eq_self, and_self, or_true, true_or, or_self, false_or, or_false, yI_sI, yR_sI, yC_sI, yN_sI, yI_sR, yR_sR, yC_sR, yN_sR, not_true_eq_false, not_false_eq_true, false_implies, implies_true, Nat.zero_add, Nat.add_zero, Nat.le_refl, Nat.reduceSub, Int.reduceSub, Int.reduceLT, Int.sub_zero, Int.sub_self, List.getElem?_toArray, List.getElem?_cons_zero, List.getElem?_cons_succ, Int.toNat_zero, Int.toNat_one, Int.lt_irrefl, yI_sB, yR_sB, yC_sB, yN_sB, MSh_sB_eq, pS_readyPlanner_0, stp_aload_n, pS_readyPlanner_1, stp_getfield, qfS_49, rp_0_5, ss_C0 hS, ss_R0_5 hS, ss_C6 hS, pS_readyPlanner_4, stp_invokevirtual, qmS_400, cy_P_clear, pS_readyPlanner_7, stp_iconst, pS_readyPlanner_8, stp_istore_n, pS_readyPlanner_9, stp_iload_n, pS_readyPlanner_10, pS_readyPlanner_11, qfS_12, rp_0_0, ss_R0_0 hS, ss_C1 hS, pS_readyPlanner_14, qfS_83, rp_1_4, pS_readyPlanner_17, stp_if_icmp_ge, pS_readyPlanner_20, pS_readyPlanner_21, pS_readyPlanner_22, stp_invokestatic, qmS_397, cy_S_inSet, pS_readyPlanner_25, stp_ifCond_eq, pS_readyPlanner_28, pS_readyPlanner_29, pS_readyPlanner_32, pS_readyPlanner_33, qmS_403, cy_P_addPen, pS_readyPlanner_36, stp_iinc, pS_readyPlanner_39, stp_goto, pS_readyPlanner_42, pS_readyPlanner_43, pS_readyPlanner_44, pS_readyPlanner_45, pS_readyPlanner_46, qfS_19, rp_0_1, ss_R0_1 hS, ss_C2 hS, pS_readyPlanner_49, qmS_96, cy_L_size, pS_readyPlanner_52, pS_readyPlanner_55, pS_readyPlanner_56, pS_readyPlanner_57, pS_readyPlanner_60, pS_readyPlanner_63, pS_readyPlanner_64, pS_readyPlanner_67, pS_readyPlanner_68, pS_readyPlanner_69, pS_readyPlanner_72, pS_readyPlanner_73, qmS_277, cy_L_get, pS_readyPlanner_76, stp_checkcast, qtS_132, pS_readyPlanner_79, qfS_167, rp_10_7, pS_readyPlanner_82, qmS_406, cy_P_addLot, pS_readyPlanner_85, pS_readyPlanner_88, pS_readyPlanner_91, stp_return_, ic_0, ic_1, nv_S_readyPlanner, ml_S_readyPlanner, rs, q1, s1, l1, l2, nI_1]
    exact ih w (RpB_n hB hb)
  | true =>
    rw [hb] at s1
    obtain ⟨p1, p2⟩ := hat hb
    have lt := cnN_ltp (p := btB x) hi hb
    have e7 : wI w 10 i 7 = nI (pa i) := by rw [hB.2.1 10 i 7 (by omega), t2.2.2.2.2.2.2.1]; exact p1
    have call := smP_addLot (l := l) (G := G) (v := nI i) (pn := eP) hCw hB.2.2.1 (show cnN (btB x) i < 4 by omega) hB.2.2.2.1 hk (show pa i < cn w 3 by rw [SmW_c sm]; exact p2) (fun q hq => ⟨hB.2.2.2.2.1 q hq, by rw [SmW_c sm]; exact hp q hq⟩)
    refine wpn_ok (M := mS_readyPlanner) (C := cenS) (X := (alk [(397, lvS_inSet, fsS_inSet), (96, lvL_size, fsL_size), (277, lvL_get, fsL_get)])) (tb := tS_readyPlanner) (st := [44,85]) eoS (XOk_cons qmS_397 (okS_inSet l G) (XOk_cons qmS_96 (okL_size l G) (XOk_cons qmS_277 (okL_get l G) XOk_nil))) kS_readyPlanner 60 _ _ _ _ _ _ ?_
    simp only [reduceCtorEq, fv0, fv1, fv2, fv3, bI_0, bI_1, bft, MSh_sI_eq, fsP_T, inL_0, inL_s, pad_0, pad_n, pad_s, wpn_s, wp1_s, lg_0, lg_s, lset_0, lset_s, kil_0, kil_s, st1_s, st2_s, isL_i, isL_l, isL_r, isL_n, spl_0, spl_s, cll_n, cll_s, catS_0, catS_s, jmp_s, alk_0, alk_s, otl_n, otl_s, List.nil_append, List.cons_append, List.contains_cons, List.contains_nil, Nat.reduceBEq, Bool.or_false, Bool.false_or, Bool.or_self, Bool.false_eq_true, Bool.true_or, Bool.or_true, if_true, if_false, ite_true, ite_false, ↓reduceIte, List.length_cons, List.length_nil, Nat.reduceAdd, Nat.reduceLT, Nat.reduceLeDiff, Nat.reduceEqDiff, Int.reduceAdd, Int.reduceLE, Int.toNat_natCast, Int.reduceToNat, Int.cast_ofNat_Int, true_and, and_true, false_and, and_false, true_implies, forall_const, eq_self, and_self, or_true, true_or, or_self, false_or, or_false, yI_sI, yR_sI, yC_sI, yN_sI, yI_sR, yR_sR, yC_sR, yN_sR, not_true_eq_false, not_false_eq_true, false_implies, implies_true, Nat.zero_add, Nat.add_zero, Nat.le_refl, Nat.reduceSub, Int.reduceSub, Int.reduceLT, Int.sub_zero, Int.sub_self, List.getElem?_toArray, List.getElem?_cons_zero, List.getElem?_cons_succ, Int.toNat_zero, Int.toNat_one, Int.lt_irrefl, yI_sB, yR_sB, yC_sB, yN_sB, MSh_sB_eq, pS_readyPlanner_0, stp_aload_n, pS_readyPlanner_1, stp_getfield, qfS_49, rp_0_5, ss_C0 hS, ss_R0_5 hS, ss_C6 hS, pS_readyPlanner_4, stp_invokevirtual, qmS_400, cy_P_clear, pS_readyPlanner_7, stp_iconst, pS_readyPlanner_8, stp_istore_n, pS_readyPlanner_9, stp_iload_n, pS_readyPlanner_10, pS_readyPlanner_11, qfS_12, rp_0_0, ss_R0_0 hS, ss_C1 hS, pS_readyPlanner_14, qfS_83, rp_1_4, pS_readyPlanner_17, stp_if_icmp_ge, pS_readyPlanner_20, pS_readyPlanner_21, pS_readyPlanner_22, stp_invokestatic, qmS_397, cy_S_inSet, pS_readyPlanner_25, stp_ifCond_eq, pS_readyPlanner_28, pS_readyPlanner_29, pS_readyPlanner_32, pS_readyPlanner_33, qmS_403, cy_P_addPen, pS_readyPlanner_36, stp_iinc, pS_readyPlanner_39, stp_goto, pS_readyPlanner_42, pS_readyPlanner_43, pS_readyPlanner_44, pS_readyPlanner_45, pS_readyPlanner_46, qfS_19, rp_0_1, ss_R0_1 hS, ss_C2 hS, pS_readyPlanner_49, qmS_96, cy_L_size, pS_readyPlanner_52, pS_readyPlanner_55, pS_readyPlanner_56, pS_readyPlanner_57, pS_readyPlanner_60, pS_readyPlanner_63, pS_readyPlanner_64, pS_readyPlanner_67, pS_readyPlanner_68, pS_readyPlanner_69, pS_readyPlanner_72, pS_readyPlanner_73, qmS_277, cy_L_get, pS_readyPlanner_76, stp_checkcast, qtS_132, pS_readyPlanner_79, qfS_167, rp_10_7, pS_readyPlanner_82, qmS_406, cy_P_addLot, pS_readyPlanner_85, pS_readyPlanner_88, pS_readyPlanner_91, stp_return_, ic_0, ic_1, nv_S_readyPlanner, ml_S_readyPlanner, rs, rg, q1, s1, e7, c10, l1, l2, l3, show ¬ (1 : Int32) = 0 by decide]
    refine ⟨6, 0, 0, by omega, by omega, by omega, call.mono fun rr w' h' => ?_⟩
    obtain ⟨rfl, h'⟩ := h'
    refine wpn_ok (M := mS_readyPlanner) (C := cenS) (X := (alk [])) (tb := tS_readyPlanner) (st := [44]) eoS XOk_nil kS_readyPlanner 60 _ _ _ _ _ _ ?_
    simp only [reduceCtorEq, fv0, fv1, fv2, fv3, bI_0, bI_1, bft, MSh_sI_eq, fsP_T, inL_0, inL_s, pad_0, pad_n, pad_s, wpn_s, wp1_s, lg_0, lg_s, lset_0, lset_s, kil_0, kil_s, st1_s, st2_s, isL_i, isL_l, isL_r, isL_n, spl_0, spl_s, cll_n, cll_s, catS_0, catS_s, jmp_s, alk_0, alk_s, otl_n, otl_s, List.nil_append, List.cons_append, List.contains_cons, List.contains_nil, Nat.reduceBEq, Bool.or_false, Bool.false_or, Bool.or_self, Bool.false_eq_true, Bool.true_or, Bool.or_true, if_true, if_false, ite_true, ite_false, ↓reduceIte, List.length_cons, List.length_nil, Nat.reduceAdd, Nat.reduceLT, Nat.reduceLeDiff, Nat.reduceEqDiff, Int.reduceAdd, Int.reduceLE, Int.toNat_natCast, Int.reduceToNat, Int.cast_ofNat_Int, true_and, and_true, false_and, and_false, true_implies, forall_const, eq_self, and_self, or_true, true_or, or_self, false_or, or_false, yI_sI, yR_sI, yC_sI, yN_sI, yI_sR, yR_sR, yC_sR, yN_sR, not_true_eq_false, not_false_eq_true, false_implies, implies_true, Nat.zero_add, Nat.add_zero, Nat.le_refl, Nat.reduceSub, Int.reduceSub, Int.reduceLT, Int.sub_zero, Int.sub_self, List.getElem?_toArray, List.getElem?_cons_zero, List.getElem?_cons_succ, Int.toNat_zero, Int.toNat_one, Int.lt_irrefl, yI_sB, yR_sB, yC_sB, yN_sB, MSh_sB_eq, pS_readyPlanner_0, stp_aload_n, pS_readyPlanner_1, stp_getfield, qfS_49, rp_0_5, pS_readyPlanner_4, stp_invokevirtual, qmS_400, cy_P_clear, pS_readyPlanner_7, stp_iconst, pS_readyPlanner_8, stp_istore_n, pS_readyPlanner_9, stp_iload_n, pS_readyPlanner_10, pS_readyPlanner_11, qfS_12, rp_0_0, pS_readyPlanner_14, qfS_83, rp_1_4, pS_readyPlanner_17, stp_if_icmp_ge, pS_readyPlanner_20, pS_readyPlanner_21, pS_readyPlanner_22, stp_invokestatic, qmS_397, cy_S_inSet, pS_readyPlanner_25, stp_ifCond_eq, pS_readyPlanner_28, pS_readyPlanner_29, pS_readyPlanner_32, pS_readyPlanner_33, qmS_403, cy_P_addPen, pS_readyPlanner_36, stp_iinc, pS_readyPlanner_39, stp_goto, pS_readyPlanner_42, pS_readyPlanner_43, pS_readyPlanner_44, pS_readyPlanner_45, pS_readyPlanner_46, qfS_19, rp_0_1, pS_readyPlanner_49, qmS_96, cy_L_size, pS_readyPlanner_52, pS_readyPlanner_55, pS_readyPlanner_56, pS_readyPlanner_57, pS_readyPlanner_60, pS_readyPlanner_63, pS_readyPlanner_64, pS_readyPlanner_67, pS_readyPlanner_68, pS_readyPlanner_69, pS_readyPlanner_72, pS_readyPlanner_73, qmS_277, cy_L_get, pS_readyPlanner_76, stp_checkcast, qtS_132, pS_readyPlanner_79, qfS_167, rp_10_7, pS_readyPlanner_82, qmS_406, cy_P_addLot, pS_readyPlanner_85, pS_readyPlanner_88, pS_readyPlanner_91, stp_return_, ic_0, ic_1, nv_S_readyPlanner, ml_S_readyPlanner, nI_1]
    exact ih w' (RpB_s hB hb hk (by omega) h')
set_option maxRecDepth 100000 in
set_option maxHeartbeats 4000000 in
theorem lpS_readyB {x y : Int32} {ky : Nat} {pa eP : Nat → Nat} (hn : 6 < n) (hC : Cpy w0) (hL : CpL w0) (h4 : cnN (btB x) (cn w0 17) ≤ 4) (hk : ky ≤ 4) (hp : ∀ q, q < ky → eP q < cn w0 3) (hat : ∀ i, i < cn w0 17 → btB x i = true → wI w0 123 0 i = nI (pa i) ∧ pa i < cn w0 3) (hQ : ∀ w', RpB w0 w' x ky pa eP (cn w0 17) → Q none w') : ∀ c i w, i + c = cn w0 17 → RpB w0 w x ky pa eP i → WP l G mS_readyPlanner n 0 0 Q 44 [some (.inr (.inr (some (0, 0)))), some (.inl x), some (.inl y), some (.inl (nI i))] [] w 0 0
  | 0, i, w, hi, hB => by
    have e : i = cn w0 17 := hi
    subst e
    have hCw := Cpy_W (RpB_W hB) hC
    have hS := hCw.1
    have hLw : LiS w 1 (cn w0 17) (fun j => (10, j)) := LiS_cg hB.1 (hB.2.1 2 1 2 (by omega)) hL.1
    have rs := ruL_size hLw
    have l2 : lvL_size < n := by show 1 < n; omega
    refine wpn_ok (M := mS_readyPlanner) (C := cenS) (X := (alk [(96, lvL_size, fsL_size)])) (tb := tS_readyPlanner) (st := [44]) eoS (XOk_cons qmS_96 (okL_size l G) XOk_nil) kS_readyPlanner 60 _ _ _ _ _ _ ?_
    simp only [reduceCtorEq, fv0, fv1, fv2, fv3, bI_0, bI_1, bft, MSh_sI_eq, fsP_T, inL_0, inL_s, pad_0, pad_n, pad_s, wpn_s, wp1_s, lg_0, lg_s, lset_0, lset_s, kil_0, kil_s, st1_s, st2_s, isL_i, isL_l, isL_r, isL_n, spl_0, spl_s, cll_n, cll_s, catS_0, catS_s, jmp_s, alk_0, alk_s, otl_n, otl_s, List.nil_append, List.cons_append, List.contains_cons, List.contains_nil, Nat.reduceBEq, Bool.or_false, Bool.false_or, Bool.or_self, Bool.false_eq_true, Bool.true_or, Bool.or_true, if_true, if_false, ite_true, ite_false, ↓reduceIte, List.length_cons, List.length_nil, Nat.reduceAdd, Nat.reduceLT, Nat.reduceLeDiff, Nat.reduceEqDiff, Int.reduceAdd, Int.reduceLE, Int.toNat_natCast, Int.reduceToNat, Int.cast_ofNat_Int, true_and, and_true, false_and, and_false, true_implies, forall_const, eq_self, and_self, or_true, true_or, or_self, false_or, or_false, yI_sI, yR_sI, yC_sI, yN_sI, yI_sR, yR_sR, yC_sR, yN_sR, not_true_eq_false, not_false_eq_true, false_implies, implies_true, Nat.zero_add, Nat.add_zero, Nat.le_refl, Nat.reduceSub, Int.reduceSub, Int.reduceLT, Int.sub_zero, Int.sub_self, List.getElem?_toArray, List.getElem?_cons_zero, List.getElem?_cons_succ, Int.toNat_zero, Int.toNat_one, Int.lt_irrefl, yI_sB, yR_sB, yC_sB, yN_sB, MSh_sB_eq, pS_readyPlanner_0, stp_aload_n, pS_readyPlanner_1, stp_getfield, qfS_49, rp_0_5, ss_C0 hS, ss_R0_5 hS, ss_C6 hS, pS_readyPlanner_4, stp_invokevirtual, qmS_400, cy_P_clear, pS_readyPlanner_7, stp_iconst, pS_readyPlanner_8, stp_istore_n, pS_readyPlanner_9, stp_iload_n, pS_readyPlanner_10, pS_readyPlanner_11, qfS_12, rp_0_0, ss_R0_0 hS, ss_C1 hS, pS_readyPlanner_14, qfS_83, rp_1_4, pS_readyPlanner_17, stp_if_icmp_ge, pS_readyPlanner_20, pS_readyPlanner_21, pS_readyPlanner_22, stp_invokestatic, qmS_397, cy_S_inSet, pS_readyPlanner_25, stp_ifCond_eq, pS_readyPlanner_28, pS_readyPlanner_29, pS_readyPlanner_32, pS_readyPlanner_33, qmS_403, cy_P_addPen, pS_readyPlanner_36, stp_iinc, pS_readyPlanner_39, stp_goto, pS_readyPlanner_42, pS_readyPlanner_43, pS_readyPlanner_44, pS_readyPlanner_45, pS_readyPlanner_46, qfS_19, rp_0_1, ss_R0_1 hS, ss_C2 hS, pS_readyPlanner_49, qmS_96, cy_L_size, pS_readyPlanner_52, pS_readyPlanner_55, pS_readyPlanner_56, pS_readyPlanner_57, pS_readyPlanner_60, pS_readyPlanner_63, pS_readyPlanner_64, pS_readyPlanner_67, pS_readyPlanner_68, pS_readyPlanner_69, pS_readyPlanner_72, pS_readyPlanner_73, qmS_277, cy_L_get, pS_readyPlanner_76, stp_checkcast, qtS_132, pS_readyPlanner_79, qfS_167, rp_10_7, pS_readyPlanner_82, qmS_406, cy_P_addLot, pS_readyPlanner_85, pS_readyPlanner_88, pS_readyPlanner_91, stp_return_, ic_0, ic_1, nv_S_readyPlanner, ml_S_readyPlanner, rs, l2, Int32.le_refl]
    exact hQ w hB
  | c + 1, i, w, hi, hB => stS_readyB hn hC hL hB (by omega) h4 hk hp (hat i (by omega)) fun w' h' => lpS_readyB hn hC hL h4 hk hp hat hQ c (i + 1) w' (by omega) h'
end
