/-! addLot -/
def AlU (w0 w : Wd) (s a : Nat) (pn : Nat → Nat) (i : Nat) : Prop := w.2 = w0.2 ∧ (∀ t k q, ¬ ((t = 8 ∨ t = 184 ∨ t = 185) ∧ 4 * s ≤ k ∧ k < 4 * s + i) → wI w t k q = wI w0 t k q) ∧ ∀ q, q < i → WyF w (4 * s + q) a (pn q)
theorem AlU_W {w0 w : Wd} {s a i : Nat} {pn : Nat → Nat} (h : AlU w0 w s a pn i) : SmW w0 w := ⟨h.1, fun t k q hn => h.2.1 t k q (by omega)⟩
theorem AlU_s {w0 w : Wd} {s a i : Nat} {pn : Nat → Nat} (h : AlU w0 w s a pn i) (hC : Cpy w) (ha : a < cn w 3) (hp : pn i < cn w 3) : AlU w0 (fiW w a (pn i) (4 * s + i)) s a pn (i + 1) := by
  have sm := SmW_fi w a (pn i) (4 * s + i) (wyL (grf w) (dsM w) a (pn i))
  have e : ∀ t k q, ¬ ((t = 8 ∨ t = 184 ∨ t = 185) ∧ k = 4 * s + i) → wI (fiW w a (pn i) (4 * s + i)) t k q = wI w t k q := fun t k q hn => by
    unfold fiW
    rw [fiS_I, if_neg (by omega), if_neg (by omega), if_neg (by omega), if_neg (by omega)]
  refine ⟨(fiS_2 _ _ _ _ _).trans h.1, fun t k q hn => by rw [e t k q (by omega)]; exact h.2.1 t k q (by omega), fun q hq => ?_⟩
  by_cases z : q = i
  · rw [z]
    exact WyF_fi hC ha hp
  · exact WyF_cg (SmW_g sm) (SmW_d sm) (SmW_c sm 6) (fun r => e 8 _ r (by omega)) (fun r => e 184 _ r (by omega)) (fun r => e 185 _ r (by omega)) (h.2.2 q (by omega))
def AlP (w w' : Wd) (s k a : Nat) (v : Int32) (pn : Nat → Nat) : Prop := w'.2 = w.2 ∧ (∀ t k' q, ¬ ((t = 8 ∨ t = 184 ∨ t = 185) ∧ 4 * s ≤ k' ∧ k' < 4 * s + k) → ¬ (t = 177 ∧ k' = 0 ∧ q = s) → ¬ (t = 6 ∧ k' = 0 ∧ q = 8) → wI w' t k' q = wI w t k' q) ∧ wI w' 177 0 s = v ∧ wI w' 6 0 8 = nI (s + 1) ∧ ∀ q, q < k → WyF w' (4 * s + q) a (pn q)
section
variable {l : Launch} {G : Gc} {w0 w : Wd} {Q : Option AV → Wd → Prop} {n : Nat}
set_option maxRecDepth 100000 in
set_option maxHeartbeats 4000000 in
theorem stP_addLot {s k a i : Nat} {v : Int32} {pn : Nat → Nat} (hn : 5 < n) (hC : Cpy w0) (h8 : wI w0 6 0 8 = nI s) (hs : s < 4) (h9 : wI w0 6 0 9 = nI k) (hk : k ≤ 4) (ha : a < cn w0 3) (hp : ∀ q, q < k → wI w0 178 0 q = nI (pn q) ∧ pn q < cn w0 3) (hi : i < k) (hU : AlU w0 w s a pn i) (ih : ∀ w', AlU w0 w' s a pn (i + 1) → WP l G mP_addLot n 0 0 Q 20 [some (.inr (.inr (some (6, 0)))), some (.inl v), some (.inl (nI a)), some (.inl (nI (i + 1)))] [] w' 0 0) : WP l G mP_addLot n 0 0 Q 20 [some (.inr (.inr (some (6, 0)))), some (.inl v), some (.inl (nI a)), some (.inl (nI i))] [] w 0 0 := by
  have sm := AlU_W hU
  have hCw := Cpy_W sm hC
  have hS := hCw.1
  have c3 := SmW_c sm 3
  have e8 : wI w 6 0 8 = nI s := by rw [hU.2.1 6 0 8 (by omega)]; exact h8
  have e9 : wI w 6 0 9 = nI k := by rw [hU.2.1 6 0 9 (by omega)]; exact h9
  obtain ⟨p1, p2⟩ := hp i hi
  have e178 : wI w 178 0 i = nI (pn i) := by rw [hU.2.1 178 0 i (by omega)]; exact p1
  have q1 : ¬ nI k ≤ nI i := nI_ge hi (by omega)
  have q2 : ¬ (4 : Int32) ≤ nI i := nI_ge (b := 4) (by omega) (by omega)
  have vi : vp_in (nI i) 4 := vp_in_nI (by omega) (by omega)
  have ki : (nI i).toNatClampNeg = i := nI_clamp (by omega)
  have ix := i4 s (by omega) i (by omega)
  have kx : (nI (4 * s + i)).toNatClampNeg = 4 * s + i := nI_clamp (by omega)
  have vx : vp_in (nI (4 * s + i)) 16 := vp_in_nI (by omega) (by omega)
  have rx : wR w 301 0 (4 * s + i) = some (8, 4 * s + i) := hS.2.2.2.2.2 (4 * s + i) (by omega)
  have fi := ruY_find hCw (show 4 * s + i < 17 by omega) (show a < cn w 3 by rw [c3]; exact ha) (show pn i < cn w 3 by rw [c3]; exact p2)
  have nx := AlU_s hU hCw (by rw [c3]; exact ha) (by rw [c3]; exact p2)
  have l5 : lvY_find < n := hn
  refine wpn_ok (M := mP_addLot) (C := cenP) (X := (alk [(63, lvY_find, fsY_find)])) (tb := tP_addLot) (st := [20]) eoP (XOk_cons qmP_63 (okY_find l G) XOk_nil) kP_addLot 60 _ _ _ _ _ _ ?_
  simp only [reduceCtorEq, fv0, fv1, fv2, fv3, bI_0, bI_1, bft, MSh_sI_eq, fsP_T, inL_0, inL_s, pad_0, pad_n, pad_s, wpn_s, wp1_s, lg_0, lg_s, lset_0, lset_s, kil_0, kil_s, st1_s, st2_s, isL_i, isL_l, isL_r, isL_n, spl_0, spl_s, cll_n, cll_s, catS_0, catS_s, jmp_s, alk_0, alk_s, otl_n, otl_s, List.nil_append, List.cons_append, List.contains_cons, List.contains_nil, Nat.reduceBEq, Bool.or_false, Bool.false_or, Bool.or_self, Bool.false_eq_true, Bool.true_or, Bool.or_true, if_true, if_false, ite_true, ite_false, ↓reduceIte, List.length_cons, List.length_nil, Nat.reduceAdd, Nat.reduceLT, Nat.reduceLeDiff, Nat.reduceEqDiff, Int.reduceAdd, Int.reduceLE, Int.toNat_natCast, Int.reduceToNat, Int.cast_ofNat_Int, true_and, and_true, false_and, and_false, true_implies, forall_const, eq_self, and_self, or_true, true_or, or_self, false_or, or_false, yI_sI, yR_sI, yC_sI, yN_sI, yI_sR, yR_sR, yC_sR, yN_sR, not_true_eq_false, not_false_eq_true, false_implies, implies_true, Nat.zero_add, Nat.add_zero, Nat.le_refl, Nat.reduceSub, Int.reduceSub, Int.reduceLT, Int.sub_zero, Int.sub_self, List.getElem?_toArray, List.getElem?_cons_zero, List.getElem?_cons_succ, Int.toNat_zero, Int.toNat_one, Int.lt_irrefl, yI_sB, yR_sB, yC_sB, yN_sB, MSh_sB_eq, pP_addLot_0, stp_aload_n, pP_addLot_1, stp_getfield, qfP_36, rp_6_8, ss_C6 hS, pP_addLot_4, stp_iconst, pP_addLot_5, stp_if_icmp_ge, pP_addLot_8, pP_addLot_9, qfP_9, rp_6_1, ss_R6_1 hS, ss_C177 hS, ss_N177 hS, pP_addLot_12, pP_addLot_13, pP_addLot_16, stp_iload_n, pP_addLot_17, stp_iastore, pP_addLot_18, pP_addLot_19, stp_istore_n, pP_addLot_20, pP_addLot_21, pP_addLot_22, qfP_40, rp_6_9, pP_addLot_25, pP_addLot_28, pP_addLot_29, pP_addLot_30, pP_addLot_33, pP_addLot_34, qfP_58, rp_6_0, ss_R6_0 hS, ss_C1 hS, pP_addLot_37, pP_addLot_38, pP_addLot_39, qfP_15, rp_6_2, ss_R6_2 hS, ss_C178 hS, ss_N178 hS, pP_addLot_42, pP_addLot_43, stp_iaload, pP_addLot_44, pP_addLot_45, qfP_20, rp_6_3, ss_R6_3 hS, ss_C301 hS, ss_N301 hS, pP_addLot_48, pP_addLot_49, pP_addLot_52, pP_addLot_53, stp_imul, pP_addLot_54, pP_addLot_55, stp_iadd, pP_addLot_56, stp_aaload, pP_addLot_57, stp_invokevirtual, qmP_63, cy_Y_find, pP_addLot_60, stp_pop, pP_addLot_61, stp_iinc, pP_addLot_64, stp_goto, pP_addLot_67, pP_addLot_68, stp_dup, pP_addLot_69, pP_addLot_72, pP_addLot_73, pP_addLot_74, stp_putfield, fi_6_8, nr_6_8, pP_addLot_77, stp_return_, ic_4, ic_0, ic_1, nv_P_addLot, ml_P_addLot, e8, e9, e178, q1, q2, vi, ki, ix, kx, vx, rx, fi, l5, nI_1, ss_C301 hS, ss_N301 hS]
  exact ih _ nx
set_option maxRecDepth 100000 in
set_option maxHeartbeats 4000000 in
theorem lpP_addLot {s k a : Nat} {v : Int32} {pn : Nat → Nat} (hn : 5 < n) (hC : Cpy w0) (h8 : wI w0 6 0 8 = nI s) (hs : s < 4) (h9 : wI w0 6 0 9 = nI k) (hk : k ≤ 4) (ha : a < cn w0 3) (hp : ∀ q, q < k → wI w0 178 0 q = nI (pn q) ∧ pn q < cn w0 3) (hQ : ∀ w', AlU w0 w' s a pn k → Q none (sI w' 6 0 8 (nI (s + 1)))) : ∀ c i w, i + c = k → AlU w0 w s a pn i → WP l G mP_addLot n 0 0 Q 20 [some (.inr (.inr (some (6, 0)))), some (.inl v), some (.inl (nI a)), some (.inl (nI i))] [] w 0 0
  | 0, i, w, hi, hU => by
    have e : i = k := hi
    subst e
    have hCw := Cpy_W (AlU_W hU) hC
    have hS := hCw.1
    have e8 : wI w 6 0 8 = nI s := by rw [hU.2.1 6 0 8 (by omega)]; exact h8
    have e9 : wI w 6 0 9 = nI i := by rw [hU.2.1 6 0 9 (by omega)]; exact h9
    refine wpn_ok (M := mP_addLot) (C := cenP) (X := (alk [])) (tb := tP_addLot) (st := [20]) eoP XOk_nil kP_addLot 60 _ _ _ _ _ _ ?_
    simp only [reduceCtorEq, fv0, fv1, fv2, fv3, bI_0, bI_1, bft, MSh_sI_eq, fsP_T, inL_0, inL_s, pad_0, pad_n, pad_s, wpn_s, wp1_s, lg_0, lg_s, lset_0, lset_s, kil_0, kil_s, st1_s, st2_s, isL_i, isL_l, isL_r, isL_n, spl_0, spl_s, cll_n, cll_s, catS_0, catS_s, jmp_s, alk_0, alk_s, otl_n, otl_s, List.nil_append, List.cons_append, List.contains_cons, List.contains_nil, Nat.reduceBEq, Bool.or_false, Bool.false_or, Bool.or_self, Bool.false_eq_true, Bool.true_or, Bool.or_true, if_true, if_false, ite_true, ite_false, ↓reduceIte, List.length_cons, List.length_nil, Nat.reduceAdd, Nat.reduceLT, Nat.reduceLeDiff, Nat.reduceEqDiff, Int.reduceAdd, Int.reduceLE, Int.toNat_natCast, Int.reduceToNat, Int.cast_ofNat_Int, true_and, and_true, false_and, and_false, true_implies, forall_const, eq_self, and_self, or_true, true_or, or_self, false_or, or_false, yI_sI, yR_sI, yC_sI, yN_sI, yI_sR, yR_sR, yC_sR, yN_sR, not_true_eq_false, not_false_eq_true, false_implies, implies_true, Nat.zero_add, Nat.add_zero, Nat.le_refl, Nat.reduceSub, Int.reduceSub, Int.reduceLT, Int.sub_zero, Int.sub_self, List.getElem?_toArray, List.getElem?_cons_zero, List.getElem?_cons_succ, Int.toNat_zero, Int.toNat_one, Int.lt_irrefl, yI_sB, yR_sB, yC_sB, yN_sB, MSh_sB_eq, pP_addLot_0, stp_aload_n, pP_addLot_1, stp_getfield, qfP_36, rp_6_8, ss_C6 hS, pP_addLot_4, stp_iconst, pP_addLot_5, stp_if_icmp_ge, pP_addLot_8, pP_addLot_9, qfP_9, rp_6_1, ss_R6_1 hS, ss_C177 hS, ss_N177 hS, pP_addLot_12, pP_addLot_13, pP_addLot_16, stp_iload_n, pP_addLot_17, stp_iastore, pP_addLot_18, pP_addLot_19, stp_istore_n, pP_addLot_20, pP_addLot_21, pP_addLot_22, qfP_40, rp_6_9, pP_addLot_25, pP_addLot_28, pP_addLot_29, pP_addLot_30, pP_addLot_33, pP_addLot_34, qfP_58, rp_6_0, ss_R6_0 hS, ss_C1 hS, pP_addLot_37, pP_addLot_38, pP_addLot_39, qfP_15, rp_6_2, ss_R6_2 hS, ss_C178 hS, ss_N178 hS, pP_addLot_42, pP_addLot_43, stp_iaload, pP_addLot_44, pP_addLot_45, qfP_20, rp_6_3, ss_R6_3 hS, ss_C301 hS, ss_N301 hS, pP_addLot_48, pP_addLot_49, pP_addLot_52, pP_addLot_53, stp_imul, pP_addLot_54, pP_addLot_55, stp_iadd, pP_addLot_56, stp_aaload, pP_addLot_57, stp_invokevirtual, qmP_63, cy_Y_find, pP_addLot_60, stp_pop, pP_addLot_61, stp_iinc, pP_addLot_64, stp_goto, pP_addLot_67, pP_addLot_68, stp_dup, pP_addLot_69, pP_addLot_72, pP_addLot_73, pP_addLot_74, stp_putfield, fi_6_8, nr_6_8, pP_addLot_77, stp_return_, ic_4, ic_0, ic_1, nv_P_addLot, ml_P_addLot, e8, e9, Int32.le_refl, nI_1]
    exact hQ w hU
  | c + 1, i, w, hi, hU => stP_addLot hn hC h8 hs h9 hk ha hp (by omega) hU fun w' h' => lpP_addLot hn hC h8 hs h9 hk ha hp hQ c (i + 1) w' (by omega) h'
set_option maxRecDepth 100000 in
set_option maxHeartbeats 4000000 in
theorem smP_addLot {s k a : Nat} {v : Int32} {pn : Nat → Nat} (hC : Cpy w) (h8 : wI w 6 0 8 = nI s) (hs : s < 4) (h9 : wI w 6 0 9 = nI k) (hk : k ≤ 4) (ha : a < cn w 3) (hp : ∀ q, q < k → wI w 178 0 q = nI (pn q) ∧ pn q < cn w 3) : Sem l G mP_addLot 6 0 0 [.inr (.inr (some (6, 0))), .inl v, .inl (nI a)] w (fun r w' => r = none ∧ AlP w w' s k a v pn) := by
  have hS := hC.1
  have q1 : ¬ (4 : Int32) ≤ nI s := nI_ge (b := 4) (by omega) (by omega)
  have vs : vp_in (nI s) 4 := vp_in_nI (by omega) (by omega)
  have ks : (nI s).toNatClampNeg = s := nI_clamp (by omega)
  have sm : SmW w (sI w 177 0 s v) := ⟨sI_2 _ _ _ _ _, fun t k q hn => by rw [yI_sI, if_neg (by omega)]⟩
  have hC1 := Cpy_W sm hC
  have key := lpP_addLot (l := l) (G := G) (n := 6) (w0 := sI w 177 0 s v) (s := s) (k := k) (a := a) (v := v) (pn := pn) (Q := fun r w' => r = none ∧ AlP w w' s k a v pn) (by decide) hC1 (by rw [yI_sI, if_neg (by omega)]; exact h8) hs (by rw [yI_sI, if_neg (by omega)]; exact h9) hk (by rw [SmW_c sm]; exact ha) (fun q hq => by rw [yI_sI, if_neg (by omega), SmW_c sm]; exact hp q hq) (fun w' hU => ⟨rfl, ?_⟩) k 0 (sI w 177 0 s v) (by omega) ⟨rfl, fun _ _ _ _ => rfl, fun q hq => by omega⟩
  · refine Sem_of (by decide) rfl (Nat.le_of_ble_eq_true rfl) ?_
    rw [nI_0] at key
    refine wpn_ok (M := mP_addLot) (C := cenP) (X := (alk [])) (tb := tP_addLot) (st := [20]) eoP XOk_nil kP_addLot 60 _ _ _ _ _ _ ?_
    simp only [reduceCtorEq, fv0, fv1, fv2, fv3, bI_0, bI_1, bft, MSh_sI_eq, fsP_T, inL_0, inL_s, pad_0, pad_n, pad_s, wpn_s, wp1_s, lg_0, lg_s, lset_0, lset_s, kil_0, kil_s, st1_s, st2_s, isL_i, isL_l, isL_r, isL_n, spl_0, spl_s, cll_n, cll_s, catS_0, catS_s, jmp_s, alk_0, alk_s, otl_n, otl_s, List.nil_append, List.cons_append, List.contains_cons, List.contains_nil, Nat.reduceBEq, Bool.or_false, Bool.false_or, Bool.or_self, Bool.false_eq_true, Bool.true_or, Bool.or_true, if_true, if_false, ite_true, ite_false, ↓reduceIte, List.length_cons, List.length_nil, Nat.reduceAdd, Nat.reduceLT, Nat.reduceLeDiff, Nat.reduceEqDiff, Int.reduceAdd, Int.reduceLE, Int.toNat_natCast, Int.reduceToNat, Int.cast_ofNat_Int, true_and, and_true, false_and, and_false, true_implies, forall_const, eq_self, and_self, or_true, true_or, or_self, false_or, or_false, yI_sI, yR_sI, yC_sI, yN_sI, yI_sR, yR_sR, yC_sR, yN_sR, not_true_eq_false, not_false_eq_true, false_implies, implies_true, Nat.zero_add, Nat.add_zero, Nat.le_refl, Nat.reduceSub, Int.reduceSub, Int.reduceLT, Int.sub_zero, Int.sub_self, List.getElem?_toArray, List.getElem?_cons_zero, List.getElem?_cons_succ, Int.toNat_zero, Int.toNat_one, Int.lt_irrefl, yI_sB, yR_sB, yC_sB, yN_sB, MSh_sB_eq, pP_addLot_0, stp_aload_n, pP_addLot_1, stp_getfield, qfP_36, rp_6_8, ss_C6 hS, pP_addLot_4, stp_iconst, pP_addLot_5, stp_if_icmp_ge, pP_addLot_8, pP_addLot_9, qfP_9, rp_6_1, ss_R6_1 hS, ss_C177 hS, ss_N177 hS, pP_addLot_12, pP_addLot_13, pP_addLot_16, stp_iload_n, pP_addLot_17, stp_iastore, pP_addLot_18, pP_addLot_19, stp_istore_n, pP_addLot_20, pP_addLot_21, pP_addLot_22, qfP_40, rp_6_9, pP_addLot_25, pP_addLot_28, pP_addLot_29, pP_addLot_30, pP_addLot_33, pP_addLot_34, qfP_58, rp_6_0, ss_R6_0 hS, ss_C1 hS, pP_addLot_37, pP_addLot_38, pP_addLot_39, qfP_15, rp_6_2, ss_R6_2 hS, ss_C178 hS, ss_N178 hS, pP_addLot_42, pP_addLot_43, stp_iaload, pP_addLot_44, pP_addLot_45, qfP_20, rp_6_3, ss_R6_3 hS, ss_C301 hS, ss_N301 hS, pP_addLot_48, pP_addLot_49, pP_addLot_52, pP_addLot_53, stp_imul, pP_addLot_54, pP_addLot_55, stp_iadd, pP_addLot_56, stp_aaload, pP_addLot_57, stp_invokevirtual, qmP_63, cy_Y_find, pP_addLot_60, stp_pop, pP_addLot_61, stp_iinc, pP_addLot_64, stp_goto, pP_addLot_67, pP_addLot_68, stp_dup, pP_addLot_69, pP_addLot_72, pP_addLot_73, pP_addLot_74, stp_putfield, fi_6_8, nr_6_8, pP_addLot_77, stp_return_, ic_4, ic_0, ic_1, nv_P_addLot, ml_P_addLot, h8, q1, vs, ks]
    exact key
  · obtain ⟨u1, u2, u3⟩ := hU
    refine ⟨by rw [sI_2, u1, sI_2], fun t k' q h1 h2 h3 => ?_, ?_, by rw [yI_sI, if_pos ⟨rfl, rfl, rfl⟩], fun q hq => ?_⟩
    · rw [yI_sI, if_neg h3, u2 t k' q h1, yI_sI, if_neg h2]
    · rw [yI_sI, if_neg (by omega), u2 177 0 s (by omega), yI_sI, if_pos ⟨rfl, rfl, rfl⟩]
    · have sm2 : SmW w' (sI w' 6 0 8 (nI (s + 1))) := ⟨sI_2 _ _ _ _ _, fun t k q hn => by rw [yI_sI, if_neg (by omega)]⟩
      exact WyF_cg (SmW_g sm2) (SmW_d sm2) (SmW_c sm2 6) (fun r => by rw [yI_sI, if_neg (by omega)]) (fun r => by rw [yI_sI, if_neg (by omega)]) (fun r => by rw [yI_sI, if_neg (by omega)]) (u3 q hq)
end
