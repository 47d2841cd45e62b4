/-! calls: lay, account -/
theorem lyU_I (w : Wd) : ∀ n t k i, wI (lyU w n) t k i = if t = 168 ∧ k = 0 ∧ i < n then sumN (lyF w i) (cn w 17) else wI w t k i
  | 0, t, k, i => by rw [if_neg (by omega)]; rfl
  | n + 1, t, k, i => by
    rw [lyU, yI_sI, lyU_I w n]
    by_cases q : t = 168 ∧ k = 0 ∧ i = n
    · rw [if_pos q, if_pos (by omega), q.2.2]
    · rw [if_neg q]
      by_cases q2 : t = 168 ∧ k = 0 ∧ i < n
      · rw [if_pos q2, if_pos (by omega)]
      · rw [if_neg q2, if_neg (by omega)]
/-- the class's row, of the first i lots -/
def lcU (w : Wd) (s i : Nat) : Wd := sB (sI (sI w 7 0 2 1) 7 0 1 (nI s)) 183 0 (fun p => if p < s then sumN (lyF w p) i else wI w 183 0 p)
theorem lcU_I (w : Wd) (s i t k q : Nat) : wI (lcU w s i) t k q = if t = 183 ∧ k = 0 then (if q < s then sumN (lyF w q) i else wI w 183 0 q) else if t = 7 ∧ k = 0 ∧ q = 1 then nI s else if t = 7 ∧ k = 0 ∧ q = 2 then 1 else wI w t k q := by
  unfold lcU
  rw [yI_sB, yI_sI, yI_sI]
theorem lcU_2 (w : Wd) (s i : Nat) : (lcU w s i).2 = w.2 := rfl
theorem lcU_0 (w : Wd) (s : Nat) : bgW w s = lcU w s 0 := by
  refine Wd_eq (fun t k q => ?_) rfl
  unfold bgW
  rw [bgU_I, lcU_I, yI_sI, yI_sI, yI_sI, yI_sI, if_neg (show ¬ (183 = 7 ∧ 0 = 0 ∧ q = 1) by omega), if_neg (show ¬ (183 = 7 ∧ 0 = 0 ∧ q = 2) by omega)]
  rfl
theorem lcU_n {w : Wd} {s i : Nat} (hs : s ≤ 14) (h : wI w 123 0 i = -1) : lcU w s (i + 1) = lcU w s i := by
  refine Wd_eq (fun t k q => ?_) rfl
  rw [lcU_I, lcU_I]
  by_cases c : t = 183 ∧ k = 0
  · rw [if_pos c, if_pos c]
    by_cases d : q < s
    · have e : lyF w q i = 0 := if_neg (by rw [h]; exact fun z => nI_nm1 (k := q) (by omega) z.symm)
      rw [if_pos d, if_pos d, sumN, e, Int32.add_zero]
    · rw [if_neg d, if_neg d]
  · rw [if_neg c, if_neg c]
theorem lcU_s {w : Wd} {s i p : Nat} (hs : s ≤ 14) (hp : p < s) (h : wI w 123 0 i = nI p) : sI (lcU w s i) 183 0 p (wI (lcU w s i) 183 0 p + wI w 120 0 i) = lcU w s (i + 1) := by
  refine Wd_eq (fun t k q => ?_) rfl
  rw [yI_sI, lcU_I, lcU_I, lcU_I, if_pos (show 183 = 183 ∧ 0 = 0 from ⟨rfl, rfl⟩), if_pos hp]
  by_cases c : t = 183 ∧ k = 0
  · rw [if_pos c, if_pos c]
    by_cases d : q = p
    · rw [if_pos ⟨c.1, c.2, d⟩, d, if_pos hp, sumN]
      have e : lyF w p i = wI w 120 0 i := if_pos h
      rw [e]
    · rw [if_neg (by omega)]
      by_cases d2 : q < s
      · have e : lyF w q i = 0 := if_neg (by rw [h]; exact fun z => d ((nI_eq (by omega) (by omega)).mp z).symm)
        rw [if_pos d2, if_pos d2, sumN, e, Int32.add_zero]
      · rw [if_neg d2, if_neg d2]
  · rw [if_neg (by omega), if_neg c, if_neg c]
section
variable {l : Launch} {G : Gc} {n mc ms cu su : Nat} {Q : Option AV → Wd → Prop} {w : Wd}
set_option maxRecDepth 100000 in
set_option maxHeartbeats 4000000 in
theorem smR_addAt0 {v : Int32} (hS : SSh w) : Sem l G mR_addAt 1 0 0 [.inr (.inr (some (7, 0))), .inl (-1), .inl v] w (fun r w' => r = none ∧ w' = w) := by
  have h1 : (-1 : Int32) < 0 := by decide
  refine Sem_of (by decide) rfl (Nat.le_of_ble_eq_true rfl) ?_
  refine wpn_ok (M := mR_addAt) (C := cenR) (X := (alk [])) (tb := tR_addAt) (st := []) eoR XOk_nil kR_addAt 60 _ _ _ _ _ _ ?_
  simp only [reduceCtorEq, fv0, fv1, fv2, fv3, bI_0, bI_1, bft, MSh_sI_eq, fsP_T, inL_0, inL_s, pad_0, pad_n, pad_s, wpn_s, wp1_s, lg_0, lg_s, lset_0, lset_s, kil_0, kil_s, st1_s, st2_s, isL_i, isL_l, isL_r, isL_n, spl_0, spl_s, cll_n, cll_s, catS_0, catS_s, jmp_s, alk_0, alk_s, otl_n, otl_s, List.nil_append, List.cons_append, List.contains_cons, List.contains_nil, Nat.reduceBEq, Bool.or_false, Bool.false_or, Bool.or_self, Bool.false_eq_true, Bool.true_or, Bool.or_true, if_true, if_false, ite_true, ite_false, ↓reduceIte, List.length_cons, List.length_nil, Nat.reduceAdd, Nat.reduceLT, Nat.reduceLeDiff, Nat.reduceEqDiff, Int.reduceAdd, Int.reduceLE, Int.toNat_natCast, Int.reduceToNat, Int.cast_ofNat_Int, true_and, and_true, false_and, and_false, true_implies, forall_const, eq_self, and_self, or_true, true_or, or_self, false_or, or_false, yI_sI, yR_sI, yC_sI, yN_sI, yI_sR, yR_sR, yC_sR, yN_sR, not_true_eq_false, not_false_eq_true, false_implies, implies_true, Nat.zero_add, Nat.add_zero, Nat.le_refl, Nat.reduceSub, Int.reduceSub, Int.reduceLT, Int.sub_zero, Int.sub_self, List.getElem?_toArray, List.getElem?_cons_zero, List.getElem?_cons_succ, Int.toNat_zero, Int.toNat_one, Int.lt_irrefl, yI_sB, yR_sB, yC_sB, yN_sB, MSh_sB_eq, pR_addAt_0, stp_iload_n, pR_addAt_1, stp_ifCond_lt, pR_addAt_4, pR_addAt_5, stp_aload_n, pR_addAt_6, stp_getfield, qfR_15, rp_7_1, ss_C7 hS, pR_addAt_9, stp_if_icmp_ge, pR_addAt_12, pR_addAt_13, qfR_9, rp_7_0, ss_R7_0 hS, ss_C183 hS, ss_N183 hS, pR_addAt_16, pR_addAt_17, stp_dup2, pR_addAt_18, stp_iaload, pR_addAt_19, pR_addAt_20, stp_iadd, pR_addAt_21, stp_iastore, pR_addAt_22, stp_return_, nv_R_addAt, ml_R_addAt, h1]
set_option maxRecDepth 100000 in
set_option maxHeartbeats 4000000 in
theorem stS_lay {s i : Nat} (hn : 8 < n) (hmc : cu ≤ mc) (hms : su ≤ ms) (hC : Cpl w) (hs : s = cn w 3) (hi : i < cn w 17) (ih : WP l G mS_lay n mc ms Q 16 [some (.inr (.inr (some (0, 0)))), some (.inl (nI (i + 1)))] [] (lcU w s (i + 1)) cu su) : WP l G mS_lay n mc ms Q 16 [some (.inr (.inr (some (0, 0)))), some (.inl (nI i))] [] (lcU w s i) cu su := by
  have hP : Cpl w := hC
  have hS0 := hP.1
  have hS := SSh_of hS0 (lcU_2 w s i)
  have h24 := hP.2.1.2.2.2.1.2
  have h14 := hP.2.1.2.1.2
  have hLi : LiS (lcU w s i) 1 (cn w 17) (fun j => (10, j)) := LiS_cg (lcU_2 w s i) (by rw [lcU_I, if_neg (by omega), if_neg (by omega), if_neg (by omega)]) hP.2.2.2.1
  have rs := ruL_size hLi
  have rg : fsL_get [.inr (.inr (some (2, 1))), .inl (nI i)] (lcU w s i) = some (some (.inr (.inr (some (10, i)))), lcU w s i) := ruL_get hLi hi
  obtain ⟨hst, hc⟩ := Cpl_lot hP hi
  have c10 : i < wC (lcU w s i) 10 := by rw [w2_C (lcU_2 w s i)]; exact hst.1
  have q1 : ¬ nI (cn w 17) ≤ nI i := nI_ge hi (by omega)
  have e7 : wI (lcU w s i) 10 i 7 = wI w 123 0 i := by rw [lcU_I, if_neg (by omega), if_neg (by omega), if_neg (by omega)]; exact hc.2.2.2.2.2.2.1
  have e5 : wI (lcU w s i) 10 i 5 = wI w 120 0 i := by rw [lcU_I, if_neg (by omega), if_neg (by omega), if_neg (by omega)]; exact hc.2.2.2.2.1
  have hl1 : lvL_size < n := by show 1 < n; omega
  have hl2 : lvL_get < n := by show 3 < n; omega
  have hl3 : lvR_addAt < n := by show 1 < n; omega
  have f1 : wI (lcU w s i) 7 0 1 = nI s := by rw [lcU_I, if_neg (by omega), if_pos ⟨rfl, rfl, rfl⟩]
  rcases hP.2.1.2.2.2.2.2.2.2.1 i hi with q | ⟨p, hp, q⟩
  · rw [lcU_n (by omega) q] at ih
    rw [q] at e7
    have call := smR_addAt0 (l := l) (G := G) (v := wI w 120 0 i) hS
    refine wpn_ok (M := mS_lay) (C := cenS) (X := (alk [(96, lvL_size, fsL_size), (277, lvL_get, fsL_get)])) (tb := tS_lay) (st := [16]) eoS (XOk_cons qmS_96 (okL_size l G) (XOk_cons qmS_277 (okL_get l G) XOk_nil)) kS_lay 60 _ _ _ _ _ _ ?_
    simp only [reduceCtorEq, fv0, fv1, fv2, fv3, bI_0, bI_1, bft, MSh_sI_eq, fsP_T, inL_0, inL_s, pad_0, pad_n, pad_s, wpn_s, wp1_s, lg_0, lg_s, lset_0, lset_s, kil_0, kil_s, st1_s, st2_s, isL_i, isL_l, isL_r, isL_n, spl_0, spl_s, cll_n, cll_s, catS_0, catS_s, jmp_s, alk_0, alk_s, otl_n, otl_s, List.nil_append, List.cons_append, List.contains_cons, List.contains_nil, Nat.reduceBEq, Bool.or_false, Bool.false_or, Bool.or_self, Bool.false_eq_true, Bool.true_or, Bool.or_true, if_true, if_false, ite_true, ite_false, ↓reduceIte, List.length_cons, List.length_nil, Nat.reduceAdd, Nat.reduceLT, Nat.reduceLeDiff, Nat.reduceEqDiff, Int.reduceAdd, Int.reduceLE, Int.toNat_natCast, Int.reduceToNat, Int.cast_ofNat_Int, true_and, and_true, false_and, and_false, true_implies, forall_const, eq_self, and_self, or_true, true_or, or_self, false_or, or_false, yI_sI, yR_sI, yC_sI, yN_sI, yI_sR, yR_sR, yC_sR, yN_sR, not_true_eq_false, not_false_eq_true, false_implies, implies_true, Nat.zero_add, Nat.add_zero, Nat.le_refl, Nat.reduceSub, Int.reduceSub, Int.reduceLT, Int.sub_zero, Int.sub_self, List.getElem?_toArray, List.getElem?_cons_zero, List.getElem?_cons_succ, Int.toNat_zero, Int.toNat_one, Int.lt_irrefl, yI_sB, yR_sB, yC_sB, yN_sB, MSh_sB_eq, pS_lay_0, stp_aload_n, pS_lay_1, stp_getfield, qfS_56, rp_0_6, ss_C0 hS, ss_R0_6 hS, ss_C7 hS, pS_lay_4, pS_lay_5, qfS_12, rp_0_0, ss_R0_0 hS, ss_C1 hS, pS_lay_8, qfS_83, rp_1_4, pS_lay_11, stp_invokevirtual, qmS_361, cy_R_begin, pS_lay_14, stp_iconst, pS_lay_15, stp_istore_n, pS_lay_16, stp_iload_n, pS_lay_17, pS_lay_18, qfS_19, rp_0_1, ss_R0_1 hS, ss_C2 hS, pS_lay_21, qmS_96, cy_L_size, pS_lay_24, stp_if_icmp_ge, pS_lay_27, pS_lay_28, pS_lay_31, pS_lay_32, pS_lay_35, pS_lay_36, qmS_277, cy_L_get, pS_lay_39, stp_checkcast, qtS_132, pS_lay_42, qfS_167, rp_10_7, pS_lay_45, pS_lay_46, pS_lay_49, pS_lay_50, pS_lay_53, pS_lay_56, qfS_152, rp_10_5, pS_lay_59, qmS_364, cy_R_addAt, pS_lay_62, stp_iinc, pS_lay_65, stp_goto, pS_lay_68, pS_lay_69, pS_lay_72, pS_lay_75, stp_ireturn, ic_0, ic_1, nv_S_lay, ml_S_lay, c10, rs, rg, q1, e7, e5, hl1, hl2]
    refine ⟨1, 0, 0, by omega, hmc, hms, call.mono fun rr w' h' => ?_⟩
    obtain ⟨rfl, rfl⟩ := h'
    refine wpn_ok (M := mS_lay) (C := cenS) (X := (alk [(96, lvL_size, fsL_size), (277, lvL_get, fsL_get)])) (tb := tS_lay) (st := [16]) eoS (XOk_cons qmS_96 (okL_size l G) (XOk_cons qmS_277 (okL_get l G) XOk_nil)) kS_lay 60 _ _ _ _ _ _ ?_
    simp only [reduceCtorEq, fv0, fv1, fv2, fv3, bI_0, bI_1, bft, MSh_sI_eq, fsP_T, inL_0, inL_s, pad_0, pad_n, pad_s, wpn_s, wp1_s, lg_0, lg_s, lset_0, lset_s, kil_0, kil_s, st1_s, st2_s, isL_i, isL_l, isL_r, isL_n, spl_0, spl_s, cll_n, cll_s, catS_0, catS_s, jmp_s, alk_0, alk_s, otl_n, otl_s, List.nil_append, List.cons_append, List.contains_cons, List.contains_nil, Nat.reduceBEq, Bool.or_false, Bool.false_or, Bool.or_self, Bool.false_eq_true, Bool.true_or, Bool.or_true, if_true, if_false, ite_true, ite_false, ↓reduceIte, List.length_cons, List.length_nil, Nat.reduceAdd, Nat.reduceLT, Nat.reduceLeDiff, Nat.reduceEqDiff, Int.reduceAdd, Int.reduceLE, Int.toNat_natCast, Int.reduceToNat, Int.cast_ofNat_Int, true_and, and_true, false_and, and_false, true_implies, forall_const, eq_self, and_self, or_true, true_or, or_self, false_or, or_false, yI_sI, yR_sI, yC_sI, yN_sI, yI_sR, yR_sR, yC_sR, yN_sR, not_true_eq_false, not_false_eq_true, false_implies, implies_true, Nat.zero_add, Nat.add_zero, Nat.le_refl, Nat.reduceSub, Int.reduceSub, Int.reduceLT, Int.sub_zero, Int.sub_self, List.getElem?_toArray, List.getElem?_cons_zero, List.getElem?_cons_succ, Int.toNat_zero, Int.toNat_one, Int.lt_irrefl, yI_sB, yR_sB, yC_sB, yN_sB, MSh_sB_eq, pS_lay_0, stp_aload_n, pS_lay_1, stp_getfield, qfS_56, rp_0_6, ss_C0 hS, ss_R0_6 hS, ss_C7 hS, pS_lay_4, pS_lay_5, qfS_12, rp_0_0, ss_R0_0 hS, ss_C1 hS, pS_lay_8, qfS_83, rp_1_4, pS_lay_11, stp_invokevirtual, qmS_361, cy_R_begin, pS_lay_14, stp_iconst, pS_lay_15, stp_istore_n, pS_lay_16, stp_iload_n, pS_lay_17, pS_lay_18, qfS_19, rp_0_1, ss_R0_1 hS, ss_C2 hS, pS_lay_21, qmS_96, cy_L_size, pS_lay_24, stp_if_icmp_ge, pS_lay_27, pS_lay_28, pS_lay_31, pS_lay_32, pS_lay_35, pS_lay_36, qmS_277, cy_L_get, pS_lay_39, stp_checkcast, qtS_132, pS_lay_42, qfS_167, rp_10_7, pS_lay_45, pS_lay_46, pS_lay_49, pS_lay_50, pS_lay_53, pS_lay_56, qfS_152, rp_10_5, pS_lay_59, qmS_364, cy_R_addAt, pS_lay_62, stp_iinc, pS_lay_65, stp_goto, pS_lay_68, pS_lay_69, pS_lay_72, pS_lay_75, stp_ireturn, ic_0, ic_1, nv_S_lay, ml_S_lay, nI_1, Option.toList_none]
    exact ih
  · rw [← lcU_s (by omega) (by omega) q] at ih
    rw [q] at e7
    have cp : (nI p).toNatClampNeg = p := nI_clamp (by omega)
    have ra := ruR_addAt (w := lcU w s i) (x := nI p) (v := wI w 120 0 i) ⟨hS, s, by omega, f1⟩ ⟨nI_pos (by omega), by rw [f1]; exact nI_ge (by omega) (by omega)⟩
    rw [cp] at ra
    refine wpn_ok (M := mS_lay) (C := cenS) (X := (alk [(96, lvL_size, fsL_size), (277, lvL_get, fsL_get), (364, lvR_addAt, fsR_addAt)])) (tb := tS_lay) (st := [16]) eoS (XOk_cons qmS_96 (okL_size l G) (XOk_cons qmS_277 (okL_get l G) (XOk_cons qmS_364 (okR_addAt l G) XOk_nil))) kS_lay 60 _ _ _ _ _ _ ?_
    simp only [reduceCtorEq, fv0, fv1, fv2, fv3, bI_0, bI_1, bft, MSh_sI_eq, fsP_T, inL_0, inL_s, pad_0, pad_n, pad_s, wpn_s, wp1_s, lg_0, lg_s, lset_0, lset_s, kil_0, kil_s, st1_s, st2_s, isL_i, isL_l, isL_r, isL_n, spl_0, spl_s, cll_n, cll_s, catS_0, catS_s, jmp_s, alk_0, alk_s, otl_n, otl_s, List.nil_append, List.cons_append, List.contains_cons, List.contains_nil, Nat.reduceBEq, Bool.or_false, Bool.false_or, Bool.or_self, Bool.false_eq_true, Bool.true_or, Bool.or_true, if_true, if_false, ite_true, ite_false, ↓reduceIte, List.length_cons, List.length_nil, Nat.reduceAdd, Nat.reduceLT, Nat.reduceLeDiff, Nat.reduceEqDiff, Int.reduceAdd, Int.reduceLE, Int.toNat_natCast, Int.reduceToNat, Int.cast_ofNat_Int, true_and, and_true, false_and, and_false, true_implies, forall_const, eq_self, and_self, or_true, true_or, or_self, false_or, or_false, yI_sI, yR_sI, yC_sI, yN_sI, yI_sR, yR_sR, yC_sR, yN_sR, not_true_eq_false, not_false_eq_true, false_implies, implies_true, Nat.zero_add, Nat.add_zero, Nat.le_refl, Nat.reduceSub, Int.reduceSub, Int.reduceLT, Int.sub_zero, Int.sub_self, List.getElem?_toArray, List.getElem?_cons_zero, List.getElem?_cons_succ, Int.toNat_zero, Int.toNat_one, Int.lt_irrefl, yI_sB, yR_sB, yC_sB, yN_sB, MSh_sB_eq, pS_lay_0, stp_aload_n, pS_lay_1, stp_getfield, qfS_56, rp_0_6, ss_C0 hS, ss_R0_6 hS, ss_C7 hS, pS_lay_4, pS_lay_5, qfS_12, rp_0_0, ss_R0_0 hS, ss_C1 hS, pS_lay_8, qfS_83, rp_1_4, pS_lay_11, stp_invokevirtual, qmS_361, cy_R_begin, pS_lay_14, stp_iconst, pS_lay_15, stp_istore_n, pS_lay_16, stp_iload_n, pS_lay_17, pS_lay_18, qfS_19, rp_0_1, ss_R0_1 hS, ss_C2 hS, pS_lay_21, qmS_96, cy_L_size, pS_lay_24, stp_if_icmp_ge, pS_lay_27, pS_lay_28, pS_lay_31, pS_lay_32, pS_lay_35, pS_lay_36, qmS_277, cy_L_get, pS_lay_39, stp_checkcast, qtS_132, pS_lay_42, qfS_167, rp_10_7, pS_lay_45, pS_lay_46, pS_lay_49, pS_lay_50, pS_lay_53, pS_lay_56, qfS_152, rp_10_5, pS_lay_59, qmS_364, cy_R_addAt, pS_lay_62, stp_iinc, pS_lay_65, stp_goto, pS_lay_68, pS_lay_69, pS_lay_72, pS_lay_75, stp_ireturn, ic_0, ic_1, nv_S_lay, ml_S_lay, c10, rs, rg, q1, e7, e5, ra, hl1, hl2, hl3, nI_1]
    exact ih
set_option maxRecDepth 100000 in
set_option maxHeartbeats 4000000 in
theorem lpS_lay {s : Nat} (hn : 8 < n) (hmc : cu ≤ mc) (hms : su ≤ ms) (hC : Cpl w) (hs : s = cn w 3) (hQ : Q (some (.inl (nI s))) (lcU w s (cn w 17))) : ∀ c i, i + c = cn w 17 → WP l G mS_lay n mc ms Q 16 [some (.inr (.inr (some (0, 0)))), some (.inl (nI i))] [] (lcU w s i) cu su
  | 0, i, hi => by
    have e : i = cn w 17 := hi
    subst e
    have hS := SSh_of hC.1 (lcU_2 w s (cn w 17))
    have hLi : LiS (lcU w s (cn w 17)) 1 (cn w 17) (fun j => (10, j)) := LiS_cg (lcU_2 w s _) (by rw [lcU_I, if_neg (by omega), if_neg (by omega), if_neg (by omega)]) hC.2.2.2.1
    have rs := ruL_size hLi
    have hl1 : lvL_size < n := by show 1 < n; omega
    have e4 : wI (lcU w s (cn w 17)) 1 0 4 = nI s := by rw [lcU_I, if_neg (by omega), if_neg (by omega), if_neg (by omega), hC.2.2.1.2.1, hs]; exact hC.2.1.2.1.1
    refine wpn_ok (M := mS_lay) (C := cenS) (X := (alk [(96, lvL_size, fsL_size)])) (tb := tS_lay) (st := [16]) eoS (XOk_cons qmS_96 (okL_size l G) XOk_nil) kS_lay 60 _ _ _ _ _ _ ?_
    simp only [reduceCtorEq, fv0, fv1, fv2, fv3, bI_0, bI_1, bft, MSh_sI_eq, fsP_T, inL_0, inL_s, pad_0, pad_n, pad_s, wpn_s, wp1_s, lg_0, lg_s, lset_0, lset_s, kil_0, kil_s, st1_s, st2_s, isL_i, isL_l, isL_r, isL_n, spl_0, spl_s, cll_n, cll_s, catS_0, catS_s, jmp_s, alk_0, alk_s, otl_n, otl_s, List.nil_append, List.cons_append, List.contains_cons, List.contains_nil, Nat.reduceBEq, Bool.or_false, Bool.false_or, Bool.or_self, Bool.false_eq_true, Bool.true_or, Bool.or_true, if_true, if_false, ite_true, ite_false, ↓reduceIte, List.length_cons, List.length_nil, Nat.reduceAdd, Nat.reduceLT, Nat.reduceLeDiff, Nat.reduceEqDiff, Int.reduceAdd, Int.reduceLE, Int.toNat_natCast, Int.reduceToNat, Int.cast_ofNat_Int, true_and, and_true, false_and, and_false, true_implies, forall_const, eq_self, and_self, or_true, true_or, or_self, false_or, or_false, yI_sI, yR_sI, yC_sI, yN_sI, yI_sR, yR_sR, yC_sR, yN_sR, not_true_eq_false, not_false_eq_true, false_implies, implies_true, Nat.zero_add, Nat.add_zero, Nat.le_refl, Nat.reduceSub, Int.reduceSub, Int.reduceLT, Int.sub_zero, Int.sub_self, List.getElem?_toArray, List.getElem?_cons_zero, List.getElem?_cons_succ, Int.toNat_zero, Int.toNat_one, Int.lt_irrefl, yI_sB, yR_sB, yC_sB, yN_sB, MSh_sB_eq, pS_lay_0, stp_aload_n, pS_lay_1, stp_getfield, qfS_56, rp_0_6, ss_C0 hS, ss_R0_6 hS, ss_C7 hS, pS_lay_4, pS_lay_5, qfS_12, rp_0_0, ss_R0_0 hS, ss_C1 hS, pS_lay_8, qfS_83, rp_1_4, pS_lay_11, stp_invokevirtual, qmS_361, cy_R_begin, pS_lay_14, stp_iconst, pS_lay_15, stp_istore_n, pS_lay_16, stp_iload_n, pS_lay_17, pS_lay_18, qfS_19, rp_0_1, ss_R0_1 hS, ss_C2 hS, pS_lay_21, qmS_96, cy_L_size, pS_lay_24, stp_if_icmp_ge, pS_lay_27, pS_lay_28, pS_lay_31, pS_lay_32, pS_lay_35, pS_lay_36, qmS_277, cy_L_get, pS_lay_39, stp_checkcast, qtS_132, pS_lay_42, qfS_167, rp_10_7, pS_lay_45, pS_lay_46, pS_lay_49, pS_lay_50, pS_lay_53, pS_lay_56, qfS_152, rp_10_5, pS_lay_59, qmS_364, cy_R_addAt, pS_lay_62, stp_iinc, pS_lay_65, stp_goto, pS_lay_68, pS_lay_69, pS_lay_72, pS_lay_75, stp_ireturn, ic_0, ic_1, nv_S_lay, ml_S_lay, rs, e4, hl1, Int32.le_refl]
    exact hQ
  | c + 1, i, hi => stS_lay hn hmc hms hC hs (by omega) (lpS_lay hn hmc hms hC hs hQ c (i + 1) (by omega))
end
section
variable {l : Launch} {G : Gc} {c : Nat} {w : Wd}
theorem ly_inv (h : Inv c w) : Inv (c + 1) (lyU (lyW (lcU w (cn w 3) (cn w 17))) (cn w 3)) := by
  have h3 := (iv_M h).2.1
  have f := lcU_I w (cn w 3) (cn w 17)
  have e17 : cn (lyW (lcU w (cn w 3) (cn w 17))) 17 = cn w 17 := rfl
  have eF : ∀ p, lyF (lyW (lcU w (cn w 3) (cn w 17))) p = lyF w p := fun p => rfl
  have e : ∀ t k i, wI (lyU (lyW (lcU w (cn w 3) (cn w 17))) (cn w 3)) t k i = if t = 168 ∧ k = 0 ∧ i < cn w 3 then sumN (lyF w i) (cn w 17) else if t = 13 ∧ k = 0 ∧ i = 67 then wI w 13 0 3 else if t = 13 ∧ k = 0 ∧ i = 66 then 1 else wI (lcU w (cn w 3) (cn w 17)) t k i := fun t k i => by
    rw [lyU_I, e17, eF]
    unfold lyW
    rw [yI_sI, yI_sI, f 13 0 3, if_neg (show ¬ (13 = 183 ∧ 0 = 0) by omega), if_neg (show ¬ (13 = 7 ∧ 0 = 0 ∧ 3 = 1) by omega), if_neg (show ¬ (13 = 7 ∧ 0 = 0 ∧ 3 = 2) by omega)]
  have h2 : (lyU (lyW (lcU w (cn w 3) (cn w 17))) (cn w 3)).2 = w.2 := lyU_2 _ _
  revert e h2
  generalize lyU (lyW (lcU w (cn w 3) (cn w 17))) (cn w 3) = w'
  intro e h2
  have g : ∀ t k i, ¬ (t = 7 ∨ t = 183 ∨ t = 168 ∨ (t = 13 ∧ (i = 66 ∨ i = 67))) → wI w' t k i = wI w t k i := fun t k i n => by
    rw [e, if_neg (by omega), if_neg (by omega), if_neg (by omega), f, if_neg (by omega), if_neg (by omega), if_neg (by omega)]
  have w67 : wI w' 13 0 67 = wI w 13 0 3 := by rw [e, if_neg (by omega), if_pos ⟨rfl, rfl, rfl⟩]
  have c67 : cn w' 67 = cn w 3 := by unfold cn; rw [w67]
  have w66 : wI w' 13 0 66 = 1 := by rw [e, if_neg (by omega), if_neg (by omega), if_pos ⟨rfl, rfl, rfl⟩]
  refine Inv_row (w := w) h2 ⟨by rw [w67, c67]; exact h3.1, by rw [c67]; exact h3.2⟩ ⟨?_, Or.inr w66, ?_, fun i hi => ?_⟩ g h
  · rw [w66, e, if_neg (by omega), if_neg (by omega), if_neg (by omega), f, if_neg (by omega), if_neg (by omega), if_pos ⟨rfl, rfl, rfl⟩]
  · rw [w67, e, if_neg (by omega), if_neg (by omega), if_neg (by omega), f, if_neg (by omega), if_pos ⟨rfl, rfl, rfl⟩]; exact h3.1.symm
  · rw [c67] at hi
    rw [e, e, if_neg (by omega), if_neg (by omega), if_neg (by omega), f, if_pos ⟨rfl, rfl⟩, if_pos hi, if_pos ⟨rfl, rfl, hi⟩]
set_option maxRecDepth 100000 in
set_option maxHeartbeats 4000000 in
theorem ca_lay (h : Inv c w) : Cok l G c w mS_lay mM_lay [] := by
  have hS := iv_S h
  have hM := iv_M h
  have h3 := hM.2.1
  have e4 : wI w 1 0 4 = nI (cn w 3) := (iv_0 h).2.1.trans h3.1
  have rb : fsR_begin [.inr (.inr (some (7, 0))), .inl (nI (cn w 3))] w = some (none, lcU w (cn w 3) 0) := by
    have e : fsR_begin [.inr (.inr (some (7, 0))), .inl (nI (cn w 3))] w = some (none, bgW w (nI (cn w 3)).toNatClampNeg) := fsP_t ⟨hS, cn w 3, h3.2, rfl⟩
    rw [e, nI_clamp (by have := h3.2; omega), lcU_0]
  have hS1 := SSh_of hS (lcU_2 w (cn w 3) 0)
  refine ⟨18, by decide, Sem_of (by decide) rfl (Nat.le_of_ble_eq_true rfl) ?_⟩
  refine wpn_ok (M := mS_lay) (C := cenS) (X := (alk [(361, lvR_begin, fsR_begin)])) (tb := tS_lay) (st := [16]) eoS (XOk_cons qmS_361 (okR_begin l G) XOk_nil) kS_lay 60 _ _ _ _ _ _ ?_
  simp only [reduceCtorEq, fv0, fv1, fv2, fv3, bI_0, bI_1, bft, MSh_sI_eq, fsP_T, inL_0, inL_s, pad_0, pad_n, pad_s, wpn_s, wp1_s, lg_0, lg_s, lset_0, lset_s, kil_0, kil_s, st1_s, st2_s, isL_i, isL_l, isL_r, isL_n, spl_0, spl_s, cll_n, cll_s, catS_0, catS_s, jmp_s, alk_0, alk_s, otl_n, otl_s, List.nil_append, List.cons_append, List.contains_cons, List.contains_nil, Nat.reduceBEq, Bool.or_false, Bool.false_or, Bool.or_self, Bool.false_eq_true, Bool.true_or, Bool.or_true, if_true, if_false, ite_true, ite_false, ↓reduceIte, List.length_cons, List.length_nil, Nat.reduceAdd, Nat.reduceLT, Nat.reduceLeDiff, Nat.reduceEqDiff, Int.reduceAdd, Int.reduceLE, Int.toNat_natCast, Int.reduceToNat, Int.cast_ofNat_Int, true_and, and_true, false_and, and_false, true_implies, forall_const, eq_self, and_self, or_true, true_or, or_self, false_or, or_false, yI_sI, yR_sI, yC_sI, yN_sI, yI_sR, yR_sR, yC_sR, yN_sR, not_true_eq_false, not_false_eq_true, false_implies, implies_true, Nat.zero_add, Nat.add_zero, Nat.le_refl, Nat.reduceSub, Int.reduceSub, Int.reduceLT, Int.sub_zero, Int.sub_self, List.getElem?_toArray, List.getElem?_cons_zero, List.getElem?_cons_succ, Int.toNat_zero, Int.toNat_one, Int.lt_irrefl, yI_sB, yR_sB, yC_sB, yN_sB, MSh_sB_eq, pS_lay_0, stp_aload_n, pS_lay_1, stp_getfield, qfS_56, rp_0_6, ss_C0 hS, ss_R0_6 hS, ss_C7 hS, pS_lay_4, pS_lay_5, qfS_12, rp_0_0, ss_R0_0 hS, ss_C1 hS, pS_lay_8, qfS_83, rp_1_4, pS_lay_11, stp_invokevirtual, qmS_361, cy_R_begin, pS_lay_14, stp_iconst, pS_lay_15, stp_istore_n, pS_lay_16, stp_iload_n, pS_lay_17, pS_lay_18, qfS_19, rp_0_1, ss_R0_1 hS, ss_C2 hS, pS_lay_21, qmS_96, cy_L_size, pS_lay_24, stp_if_icmp_ge, pS_lay_27, pS_lay_28, pS_lay_31, pS_lay_32, pS_lay_35, pS_lay_36, qmS_277, cy_L_get, pS_lay_39, stp_checkcast, qtS_132, pS_lay_42, qfS_167, rp_10_7, pS_lay_45, pS_lay_46, pS_lay_49, pS_lay_50, pS_lay_53, pS_lay_56, qfS_152, rp_10_5, pS_lay_59, qmS_364, cy_R_addAt, pS_lay_62, stp_iinc, pS_lay_65, stp_goto, pS_lay_68, pS_lay_69, pS_lay_72, pS_lay_75, stp_ireturn, ic_0, ic_1, nv_S_lay, ml_S_lay, e4, rb, lvR_begin]
  refine lpS_lay (by decide) (by decide) (by decide) (iv_l h) rfl ?_ (cn w 17) 0 (Nat.zero_add _)
  have mm : msk (lcU w (cn w 3) (cn w 17)) = msk w := msk_ag rfl fun t k j hc => by
    rw [lcU_I, if_neg (by rintro ⟨rfl, -⟩; cases hc), if_neg (by rintro ⟨rfl, -⟩; cases hc), if_neg (by rintro ⟨rfl, -⟩; cases hc)]
  have e2 : fsM_lay [.inr (.inr (some (13, 0)))] (lcU w (cn w 3) (cn w 17)) = some (some (.inl (nI (cn w 3))), lyU (lyW (lcU w (cn w 3) (cn w 17))) (cn w 3)) := by
    have e : fsM_lay [.inr (.inr (some (13, 0)))] (lcU w (cn w 3) (cn w 17)) = some (some (.inl (wI (lcU w (cn w 3) (cn w 17)) 13 0 3)), lyU (lyW (lcU w (cn w 3) (cn w 17))) (cn (lcU w (cn w 3) (cn w 17)) 3)) := fsP_t (MOk_m mm hM)
    have e3 : wI (lcU w (cn w 3) (cn w 17)) 13 0 3 = wI w 13 0 3 := by rw [lcU_I, if_neg (by omega), if_neg (by omega), if_neg (by omega)]
    rw [e, cn_cg e3, e3, h3.1]
  exact Pst_fs (okM_lay l G) (by decide) e2 (ly_inv h)
end
section
variable {l : Launch} {G : Gc} {n mc ms cu su : Nat} {Q : Option AV → Wd → Prop} {w : Wd}
set_option maxRecDepth 100000 in
set_option maxHeartbeats 4000000 in
theorem stS_account {o : Int32} {i : Nat} {l5 : Option AV} (hn : 8 < n) (hC : Cpl w) (hi : i < cn w 17) (ih : ∀ l5, WP l G mS_account n mc ms Q 21 [some (.inr (.inr (some (0, 0)))), some (.inl o), some (.inr (.inl (acN w o (i + 1)))), none, some (.inl (nI (i + 1))), l5] [] w cu su) : WP l G mS_account n mc ms Q 21 [some (.inr (.inr (some (0, 0)))), some (.inl o), some (.inr (.inl (acN w o i))), none, some (.inl (nI i)), l5] [] w cu su := by
  have hP : Cpl w := hC
  have hS := hP.1
  have h24 := hP.2.1.2.2.2.1.2
  have rs := ruL_size hP.2.2.2.1
  have rg : fsL_get [.inr (.inr (some (2, 1))), .inl (nI i)] w = some (some (.inr (.inr (some (10, i)))), w) := ruL_get hP.2.2.2.1 hi
  have rd := ruS_isInDoubt hP hi
  obtain ⟨hst, hc⟩ := Cpl_lot hP hi
  obtain ⟨c10, c102, c11, -⟩ := id hst
  have q1 : ¬ nI (cn w 17) ≤ nI i := nI_ge hi (by omega)
  have e4 := hc.2.2.2.1
  have e9 : wI w 11 i 9 = wI w 239 0 i := hc.2.2.2.2.2.2.2.2.2.2.2.2.1
  have e9' : wI w 11 i 9 = wI w 230 0 i := hc.2.2.2.2.2.2.2.2.2.2.2.1
  have e8 := hc.2.2.2.2.2.2.2.2.2.2.2.2.2.2.2.2.2.1
  have ih0 := ih (some (.inr (.inr (some (10, i)))))
  have hl1 : lvL_size < n := by show 1 < n; omega
  have hl2 : lvL_get < n := by show 3 < n; omega
  have hl3 : lvS_isInDoubt < n := Nat.lt_of_le_of_lt (Nat.le_of_ble_eq_true rfl) hn
  by_cases h1 : wI w 119 0 i = o
  · by_cases h2 : wI w 239 0 i = 0
    · have ev : acV w o i = 0 := if_neg (fun z => z.2.1 h2)
      rw [acN, ev, Int64.add_zero] at ih0
      refine wpn_ok (M := mS_account) (C := cenS) (X := (alk [(96, lvL_size, fsL_size), (277, lvL_get, fsL_get), (182, lvS_isInDoubt, fsS_isInDoubt)])) (tb := tS_account) (st := [21]) eoS (XOk_cons qmS_96 (okL_size l G) (XOk_cons qmS_277 (okL_get l G) (XOk_cons qmS_182 (okS_isInDoubt l G) XOk_nil))) kS_account 60 _ _ _ _ _ _ ?_
      simp only [reduceCtorEq, fv0, fv1, fv2, fv3, bI_0, bI_1, bft, MSh_sI_eq, fsP_T, inL_0, inL_s, pad_0, pad_n, pad_s, wpn_s, wp1_s, lg_0, lg_s, lset_0, lset_s, kil_0, kil_s, st1_s, st2_s, isL_i, isL_l, isL_r, isL_n, spl_0, spl_s, cll_n, cll_s, catS_0, catS_s, jmp_s, alk_0, alk_s, otl_n, otl_s, List.nil_append, List.cons_append, List.contains_cons, List.contains_nil, Nat.reduceBEq, Bool.or_false, Bool.false_or, Bool.or_self, Bool.false_eq_true, Bool.true_or, Bool.or_true, if_true, if_false, ite_true, ite_false, ↓reduceIte, List.length_cons, List.length_nil, Nat.reduceAdd, Nat.reduceLT, Nat.reduceLeDiff, Nat.reduceEqDiff, Int.reduceAdd, Int.reduceLE, Int.toNat_natCast, Int.reduceToNat, Int.cast_ofNat_Int, true_and, and_true, false_and, and_false, true_implies, forall_const, eq_self, and_self, or_true, true_or, or_self, false_or, or_false, yI_sI, yR_sI, yC_sI, yN_sI, yI_sR, yR_sR, yC_sR, yN_sR, not_true_eq_false, not_false_eq_true, false_implies, implies_true, Nat.zero_add, Nat.add_zero, Nat.le_refl, Nat.reduceSub, Int.reduceSub, Int.reduceLT, Int.sub_zero, Int.sub_self, List.getElem?_toArray, List.getElem?_cons_zero, List.getElem?_cons_succ, Int.toNat_zero, Int.toNat_one, Int.lt_irrefl, yI_sB, yR_sB, yC_sB, yN_sB, MSh_sB_eq, pS_account_0, stp_iload_n, pS_account_1, stp_invokestatic, qmS_328, cy_S_isOwner, pS_account_4, stp_ifCond_ne, pS_account_7, stp_aload_n, pS_account_8, stp_bipush, pS_account_10, stp_invokevirtual, qmS_79, cy_S_refuse, ss_C0 hS, pS_account_13, stp_pop, pS_account_14, stp_lconst, pS_account_15, stp_lreturn, pS_account_16, pS_account_17, stp_lstore_n, pS_account_18, stp_iconst, pS_account_19, stp_istore, pS_account_21, stp_iload, pS_account_23, pS_account_24, stp_getfield, qfS_19, rp_0_1, ss_R0_1 hS, ss_C2 hS, pS_account_27, qmS_96, cy_L_size, pS_account_30, stp_if_icmp_ge, pS_account_33, pS_account_34, pS_account_37, pS_account_39, qmS_277, cy_L_get, pS_account_42, stp_checkcast, qtS_132, pS_account_45, stp_astore, pS_account_47, stp_aload, pS_account_49, qfS_161, rp_10_4, pS_account_52, pS_account_53, stp_if_icmp_ne, pS_account_56, pS_account_58, qfS_186, rp_10_2, pS_account_61, qfS_195, rp_11_9, pS_account_64, stp_ifCond_eq, pS_account_67, pS_account_68, pS_account_70, qmS_182, cy_S_isInDoubt, pS_account_73, pS_account_76, stp_lload_n, pS_account_77, pS_account_79, pS_account_82, qfS_199, rp_11_8, pS_account_85, stp_i2l, pS_account_86, stp_ladd, pS_account_87, pS_account_88, stp_iinc, pS_account_91, stp_goto, pS_account_94, pS_account_95, bp_m3, ic_0, ic_1, nv_S_account, ml_S_account, c10, c102, c11, rs, rg, q1, e4, e9, h1, h2, hl1, hl2, hl3, nI_1]
      exact ih0
    · cases h3 : dbt w i with
      | true =>
        have ev : acV w o i = 0 := if_neg (fun z => by rw [h3] at z; cases z.2.2)
        rw [acN, ev, Int64.add_zero] at ih0
        rw [h3] at rd
        refine wpn_ok (M := mS_account) (C := cenS) (X := (alk [(96, lvL_size, fsL_size), (277, lvL_get, fsL_get), (182, lvS_isInDoubt, fsS_isInDoubt)])) (tb := tS_account) (st := [21]) eoS (XOk_cons qmS_96 (okL_size l G) (XOk_cons qmS_277 (okL_get l G) (XOk_cons qmS_182 (okS_isInDoubt l G) XOk_nil))) kS_account 60 _ _ _ _ _ _ ?_
        simp only [reduceCtorEq, fv0, fv1, fv2, fv3, bI_0, bI_1, bft, MSh_sI_eq, fsP_T, inL_0, inL_s, pad_0, pad_n, pad_s, wpn_s, wp1_s, lg_0, lg_s, lset_0, lset_s, kil_0, kil_s, st1_s, st2_s, isL_i, isL_l, isL_r, isL_n, spl_0, spl_s, cll_n, cll_s, catS_0, catS_s, jmp_s, alk_0, alk_s, otl_n, otl_s, List.nil_append, List.cons_append, List.contains_cons, List.contains_nil, Nat.reduceBEq, Bool.or_false, Bool.false_or, Bool.or_self, Bool.false_eq_true, Bool.true_or, Bool.or_true, if_true, if_false, ite_true, ite_false, ↓reduceIte, List.length_cons, List.length_nil, Nat.reduceAdd, Nat.reduceLT, Nat.reduceLeDiff, Nat.reduceEqDiff, Int.reduceAdd, Int.reduceLE, Int.toNat_natCast, Int.reduceToNat, Int.cast_ofNat_Int, true_and, and_true, false_and, and_false, true_implies, forall_const, eq_self, and_self, or_true, true_or, or_self, false_or, or_false, yI_sI, yR_sI, yC_sI, yN_sI, yI_sR, yR_sR, yC_sR, yN_sR, not_true_eq_false, not_false_eq_true, false_implies, implies_true, Nat.zero_add, Nat.add_zero, Nat.le_refl, Nat.reduceSub, Int.reduceSub, Int.reduceLT, Int.sub_zero, Int.sub_self, List.getElem?_toArray, List.getElem?_cons_zero, List.getElem?_cons_succ, Int.toNat_zero, Int.toNat_one, Int.lt_irrefl, yI_sB, yR_sB, yC_sB, yN_sB, MSh_sB_eq, pS_account_0, stp_iload_n, pS_account_1, stp_invokestatic, qmS_328, cy_S_isOwner, pS_account_4, stp_ifCond_ne, pS_account_7, stp_aload_n, pS_account_8, stp_bipush, pS_account_10, stp_invokevirtual, qmS_79, cy_S_refuse, ss_C0 hS, pS_account_13, stp_pop, pS_account_14, stp_lconst, pS_account_15, stp_lreturn, pS_account_16, pS_account_17, stp_lstore_n, pS_account_18, stp_iconst, pS_account_19, stp_istore, pS_account_21, stp_iload, pS_account_23, pS_account_24, stp_getfield, qfS_19, rp_0_1, ss_R0_1 hS, ss_C2 hS, pS_account_27, qmS_96, cy_L_size, pS_account_30, stp_if_icmp_ge, pS_account_33, pS_account_34, pS_account_37, pS_account_39, qmS_277, cy_L_get, pS_account_42, stp_checkcast, qtS_132, pS_account_45, stp_astore, pS_account_47, stp_aload, pS_account_49, qfS_161, rp_10_4, pS_account_52, pS_account_53, stp_if_icmp_ne, pS_account_56, pS_account_58, qfS_186, rp_10_2, pS_account_61, qfS_195, rp_11_9, pS_account_64, stp_ifCond_eq, pS_account_67, pS_account_68, pS_account_70, qmS_182, cy_S_isInDoubt, pS_account_73, pS_account_76, stp_lload_n, pS_account_77, pS_account_79, pS_account_82, qfS_199, rp_11_8, pS_account_85, stp_i2l, pS_account_86, stp_ladd, pS_account_87, pS_account_88, stp_iinc, pS_account_91, stp_goto, pS_account_94, pS_account_95, bp_m3, ic_0, ic_1, nv_S_account, ml_S_account, c10, c102, c11, rs, rg, rd, q1, e4, e9, h1, h2, show ¬ (1 : Int32) = 0 by decide, hl1, hl2, hl3, nI_1]
        exact ih0
      | false =>
        have em : wI w 11 i 8 = wI w 131 0 i := (e8 (by rw [← e9', e9]; exact h2)).2.2.1
        have ev : acV w o i = (wI w 131 0 i).toInt64 := if_pos ⟨h1, h2, h3⟩
        rw [acN, ev] at ih0
        rw [h3] at rd
        refine wpn_ok (M := mS_account) (C := cenS) (X := (alk [(96, lvL_size, fsL_size), (277, lvL_get, fsL_get), (182, lvS_isInDoubt, fsS_isInDoubt)])) (tb := tS_account) (st := [21]) eoS (XOk_cons qmS_96 (okL_size l G) (XOk_cons qmS_277 (okL_get l G) (XOk_cons qmS_182 (okS_isInDoubt l G) XOk_nil))) kS_account 60 _ _ _ _ _ _ ?_
        simp only [reduceCtorEq, fv0, fv1, fv2, fv3, bI_0, bI_1, bft, MSh_sI_eq, fsP_T, inL_0, inL_s, pad_0, pad_n, pad_s, wpn_s, wp1_s, lg_0, lg_s, lset_0, lset_s, kil_0, kil_s, st1_s, st2_s, isL_i, isL_l, isL_r, isL_n, spl_0, spl_s, cll_n, cll_s, catS_0, catS_s, jmp_s, alk_0, alk_s, otl_n, otl_s, List.nil_append, List.cons_append, List.contains_cons, List.contains_nil, Nat.reduceBEq, Bool.or_false, Bool.false_or, Bool.or_self, Bool.false_eq_true, Bool.true_or, Bool.or_true, if_true, if_false, ite_true, ite_false, ↓reduceIte, List.length_cons, List.length_nil, Nat.reduceAdd, Nat.reduceLT, Nat.reduceLeDiff, Nat.reduceEqDiff, Int.reduceAdd, Int.reduceLE, Int.toNat_natCast, Int.reduceToNat, Int.cast_ofNat_Int, true_and, and_true, false_and, and_false, true_implies, forall_const, eq_self, and_self, or_true, true_or, or_self, false_or, or_false, yI_sI, yR_sI, yC_sI, yN_sI, yI_sR, yR_sR, yC_sR, yN_sR, not_true_eq_false, not_false_eq_true, false_implies, implies_true, Nat.zero_add, Nat.add_zero, Nat.le_refl, Nat.reduceSub, Int.reduceSub, Int.reduceLT, Int.sub_zero, Int.sub_self, List.getElem?_toArray, List.getElem?_cons_zero, List.getElem?_cons_succ, Int.toNat_zero, Int.toNat_one, Int.lt_irrefl, yI_sB, yR_sB, yC_sB, yN_sB, MSh_sB_eq, pS_account_0, stp_iload_n, pS_account_1, stp_invokestatic, qmS_328, cy_S_isOwner, pS_account_4, stp_ifCond_ne, pS_account_7, stp_aload_n, pS_account_8, stp_bipush, pS_account_10, stp_invokevirtual, qmS_79, cy_S_refuse, ss_C0 hS, pS_account_13, stp_pop, pS_account_14, stp_lconst, pS_account_15, stp_lreturn, pS_account_16, pS_account_17, stp_lstore_n, pS_account_18, stp_iconst, pS_account_19, stp_istore, pS_account_21, stp_iload, pS_account_23, pS_account_24, stp_getfield, qfS_19, rp_0_1, ss_R0_1 hS, ss_C2 hS, pS_account_27, qmS_96, cy_L_size, pS_account_30, stp_if_icmp_ge, pS_account_33, pS_account_34, pS_account_37, pS_account_39, qmS_277, cy_L_get, pS_account_42, stp_checkcast, qtS_132, pS_account_45, stp_astore, pS_account_47, stp_aload, pS_account_49, qfS_161, rp_10_4, pS_account_52, pS_account_53, stp_if_icmp_ne, pS_account_56, pS_account_58, qfS_186, rp_10_2, pS_account_61, qfS_195, rp_11_9, pS_account_64, stp_ifCond_eq, pS_account_67, pS_account_68, pS_account_70, qmS_182, cy_S_isInDoubt, pS_account_73, pS_account_76, stp_lload_n, pS_account_77, pS_account_79, pS_account_82, qfS_199, rp_11_8, pS_account_85, stp_i2l, pS_account_86, stp_ladd, pS_account_87, pS_account_88, stp_iinc, pS_account_91, stp_goto, pS_account_94, pS_account_95, bp_m3, ic_0, ic_1, nv_S_account, ml_S_account, c10, c102, c11, rs, rg, rd, q1, e4, e9, em, h1, h2, show ¬ (1 : Int32) = 0 by decide, hl1, hl2, hl3, nI_1]
        exact ih0
  · have ev : acV w o i = 0 := if_neg (fun z => h1 z.1)
    rw [acN, ev, Int64.add_zero] at ih0
    refine wpn_ok (M := mS_account) (C := cenS) (X := (alk [(96, lvL_size, fsL_size), (277, lvL_get, fsL_get), (182, lvS_isInDoubt, fsS_isInDoubt)])) (tb := tS_account) (st := [21]) eoS (XOk_cons qmS_96 (okL_size l G) (XOk_cons qmS_277 (okL_get l G) (XOk_cons qmS_182 (okS_isInDoubt l G) XOk_nil))) kS_account 60 _ _ _ _ _ _ ?_
    simp only [reduceCtorEq, fv0, fv1, fv2, fv3, bI_0, bI_1, bft, MSh_sI_eq, fsP_T, inL_0, inL_s, pad_0, pad_n, pad_s, wpn_s, wp1_s, lg_0, lg_s, lset_0, lset_s, kil_0, kil_s, st1_s, st2_s, isL_i, isL_l, isL_r, isL_n, spl_0, spl_s, cll_n, cll_s, catS_0, catS_s, jmp_s, alk_0, alk_s, otl_n, otl_s, List.nil_append, List.cons_append, List.contains_cons, List.contains_nil, Nat.reduceBEq, Bool.or_false, Bool.false_or, Bool.or_self, Bool.false_eq_true, Bool.true_or, Bool.or_true, if_true, if_false, ite_true, ite_false, ↓reduceIte, List.length_cons, List.length_nil, Nat.reduceAdd, Nat.reduceLT, Nat.reduceLeDiff, Nat.reduceEqDiff, Int.reduceAdd, Int.reduceLE, Int.toNat_natCast, Int.reduceToNat, Int.cast_ofNat_Int, true_and, and_true, false_and, and_false, true_implies, forall_const, eq_self, and_self, or_true, true_or, or_self, false_or, or_false, yI_sI, yR_sI, yC_sI, yN_sI, yI_sR, yR_sR, yC_sR, yN_sR, not_true_eq_false, not_false_eq_true, false_implies, implies_true, Nat.zero_add, Nat.add_zero, Nat.le_refl, Nat.reduceSub, Int.reduceSub, Int.reduceLT, Int.sub_zero, Int.sub_self, List.getElem?_toArray, List.getElem?_cons_zero, List.getElem?_cons_succ, Int.toNat_zero, Int.toNat_one, Int.lt_irrefl, yI_sB, yR_sB, yC_sB, yN_sB, MSh_sB_eq, pS_account_0, stp_iload_n, pS_account_1, stp_invokestatic, qmS_328, cy_S_isOwner, pS_account_4, stp_ifCond_ne, pS_account_7, stp_aload_n, pS_account_8, stp_bipush, pS_account_10, stp_invokevirtual, qmS_79, cy_S_refuse, ss_C0 hS, pS_account_13, stp_pop, pS_account_14, stp_lconst, pS_account_15, stp_lreturn, pS_account_16, pS_account_17, stp_lstore_n, pS_account_18, stp_iconst, pS_account_19, stp_istore, pS_account_21, stp_iload, pS_account_23, pS_account_24, stp_getfield, qfS_19, rp_0_1, ss_R0_1 hS, ss_C2 hS, pS_account_27, qmS_96, cy_L_size, pS_account_30, stp_if_icmp_ge, pS_account_33, pS_account_34, pS_account_37, pS_account_39, qmS_277, cy_L_get, pS_account_42, stp_checkcast, qtS_132, pS_account_45, stp_astore, pS_account_47, stp_aload, pS_account_49, qfS_161, rp_10_4, pS_account_52, pS_account_53, stp_if_icmp_ne, pS_account_56, pS_account_58, qfS_186, rp_10_2, pS_account_61, qfS_195, rp_11_9, pS_account_64, stp_ifCond_eq, pS_account_67, pS_account_68, pS_account_70, qmS_182, cy_S_isInDoubt, pS_account_73, pS_account_76, stp_lload_n, pS_account_77, pS_account_79, pS_account_82, qfS_199, rp_11_8, pS_account_85, stp_i2l, pS_account_86, stp_ladd, pS_account_87, pS_account_88, stp_iinc, pS_account_91, stp_goto, pS_account_94, pS_account_95, bp_m3, ic_0, ic_1, nv_S_account, ml_S_account, c10, c102, c11, rs, rg, q1, e4, h1, hl1, hl2, hl3, nI_1]
    exact ih0
set_option maxRecDepth 100000 in
set_option maxHeartbeats 4000000 in
theorem lpS_account {o : Int32} (hn : 8 < n) (hC : Cpl w) (hQ : Q (some (.inr (.inl (acN w o (cn w 17))))) w) : ∀ c i l5, i + c = cn w 17 → WP l G mS_account n mc ms Q 21 [some (.inr (.inr (some (0, 0)))), some (.inl o), some (.inr (.inl (acN w o i))), none, some (.inl (nI i)), l5] [] w cu su
  | 0, i, l5, hi => by
    have e : i = cn w 17 := hi
    subst e
    have hS := hC.1
    have rs := ruL_size hC.2.2.2.1
    have hl1 : lvL_size < n := by show 1 < n; omega
    refine wpn_ok (M := mS_account) (C := cenS) (X := (alk [(96, lvL_size, fsL_size)])) (tb := tS_account) (st := [21]) eoS (XOk_cons qmS_96 (okL_size l G) XOk_nil) kS_account 60 _ _ _ _ _ _ ?_
    simp only [reduceCtorEq, fv0, fv1, fv2, fv3, bI_0, bI_1, bft, MSh_sI_eq, fsP_T, inL_0, inL_s, pad_0, pad_n, pad_s, wpn_s, wp1_s, lg_0, lg_s, lset_0, lset_s, kil_0, kil_s, st1_s, st2_s, isL_i, isL_l, isL_r, isL_n, spl_0, spl_s, cll_n, cll_s, catS_0, catS_s, jmp_s, alk_0, alk_s, otl_n, otl_s, List.nil_append, List.cons_append, List.contains_cons, List.contains_nil, Nat.reduceBEq, Bool.or_false, Bool.false_or, Bool.or_self, Bool.false_eq_true, Bool.true_or, Bool.or_true, if_true, if_false, ite_true, ite_false, ↓reduceIte, List.length_cons, List.length_nil, Nat.reduceAdd, Nat.reduceLT, Nat.reduceLeDiff, Nat.reduceEqDiff, Int.reduceAdd, Int.reduceLE, Int.toNat_natCast, Int.reduceToNat, Int.cast_ofNat_Int, true_and, and_true, false_and, and_false, true_implies, forall_const, eq_self, and_self, or_true, true_or, or_self, false_or, or_false, yI_sI, yR_sI, yC_sI, yN_sI, yI_sR, yR_sR, yC_sR, yN_sR, not_true_eq_false, not_false_eq_true, false_implies, implies_true, Nat.zero_add, Nat.add_zero, Nat.le_refl, Nat.reduceSub, Int.reduceSub, Int.reduceLT, Int.sub_zero, Int.sub_self, List.getElem?_toArray, List.getElem?_cons_zero, List.getElem?_cons_succ, Int.toNat_zero, Int.toNat_one, Int.lt_irrefl, yI_sB, yR_sB, yC_sB, yN_sB, MSh_sB_eq, pS_account_0, stp_iload_n, pS_account_1, stp_invokestatic, qmS_328, cy_S_isOwner, pS_account_4, stp_ifCond_ne, pS_account_7, stp_aload_n, pS_account_8, stp_bipush, pS_account_10, stp_invokevirtual, qmS_79, cy_S_refuse, ss_C0 hS, pS_account_13, stp_pop, pS_account_14, stp_lconst, pS_account_15, stp_lreturn, pS_account_16, pS_account_17, stp_lstore_n, pS_account_18, stp_iconst, pS_account_19, stp_istore, pS_account_21, stp_iload, pS_account_23, pS_account_24, stp_getfield, qfS_19, rp_0_1, ss_R0_1 hS, ss_C2 hS, pS_account_27, qmS_96, cy_L_size, pS_account_30, stp_if_icmp_ge, pS_account_33, pS_account_34, pS_account_37, pS_account_39, qmS_277, cy_L_get, pS_account_42, stp_checkcast, qtS_132, pS_account_45, stp_astore, pS_account_47, stp_aload, pS_account_49, qfS_161, rp_10_4, pS_account_52, pS_account_53, stp_if_icmp_ne, pS_account_56, pS_account_58, qfS_186, rp_10_2, pS_account_61, qfS_195, rp_11_9, pS_account_64, stp_ifCond_eq, pS_account_67, pS_account_68, pS_account_70, qmS_182, cy_S_isInDoubt, pS_account_73, pS_account_76, stp_lload_n, pS_account_77, pS_account_79, pS_account_82, qfS_199, rp_11_8, pS_account_85, stp_i2l, pS_account_86, stp_ladd, pS_account_87, pS_account_88, stp_iinc, pS_account_91, stp_goto, pS_account_94, pS_account_95, bp_m3, ic_0, ic_1, nv_S_account, ml_S_account, rs, hl1, Int32.le_refl]
    exact hQ
  | c + 1, i, l5, hi => stS_account hn hC (by omega) (fun l5 => lpS_account hn hC hQ c (i + 1) l5 (by omega))
end
section
variable {l : Launch} {G : Gc} {c : Nat} {w : Wd}
set_option maxRecDepth 100000 in
set_option maxHeartbeats 4000000 in
theorem ca_account (h : Inv c w) (o : Int32) : Cok l G c w mS_account mM_account [.inl o] := by
  have hS := iv_S h
  have hM := iv_M h
  have e : ∀ w, fsM_account [.inr (.inr (some (13, 0))), .inl o] w = fsP (MOk w) (some (.inr (.inl (if inR o 0 5 = false then 0 else acN w o (cn w 17)))), if inR o 0 5 = false then rfz w 3 else w) := fun _ => rfl
  refine ⟨18, by decide, Sem_of (by decide) rfl (Nat.le_of_ble_eq_true rfl) ?_⟩
  refine wpn_ok (M := mS_account) (C := cenS) (X := (alk [(328, lvS_isOwner, fsS_isOwner), (79, lvS_refuse, fsS_refuse)])) (tb := tS_account) (st := [21]) eoS (XOk_cons qmS_328 (okS_isOwner l G) (XOk_cons qmS_79 (okS_refuse l G) XOk_nil)) kS_account 60 _ _ _ _ _ _ ?_
  cases ho : inR o 0 5 with
  | false =>
    simp only [reduceCtorEq, fv0, fv1, fv2, fv3, bI_0, bI_1, bft, MSh_sI_eq, fsP_T, inL_0, inL_s, pad_0, pad_n, pad_s, wpn_s, wp1_s, lg_0, lg_s, lset_0, lset_s, kil_0, kil_s, st1_s, st2_s, isL_i, isL_l, isL_r, isL_n, spl_0, spl_s, cll_n, cll_s, catS_0, catS_s, jmp_s, alk_0, alk_s, otl_n, otl_s, List.nil_append, List.cons_append, List.contains_cons, List.contains_nil, Nat.reduceBEq, Bool.or_false, Bool.false_or, Bool.or_self, Bool.false_eq_true, Bool.true_or, Bool.or_true, if_true, if_false, ite_true, ite_false, ↓reduceIte, List.length_cons, List.length_nil, Nat.reduceAdd, Nat.reduceLT, Nat.reduceLeDiff, Nat.reduceEqDiff, Int.reduceAdd, Int.reduceLE, Int.toNat_natCast, Int.reduceToNat, Int.cast_ofNat_Int, true_and, and_true, false_and, and_false, true_implies, forall_const, eq_self, and_self, or_true, true_or, or_self, false_or, or_false, yI_sI, yR_sI, yC_sI, yN_sI, yI_sR, yR_sR, yC_sR, yN_sR, not_true_eq_false, not_false_eq_true, false_implies, implies_true, Nat.zero_add, Nat.add_zero, Nat.le_refl, Nat.reduceSub, Int.reduceSub, Int.reduceLT, Int.sub_zero, Int.sub_self, List.getElem?_toArray, List.getElem?_cons_zero, List.getElem?_cons_succ, Int.toNat_zero, Int.toNat_one, Int.lt_irrefl, yI_sB, yR_sB, yC_sB, yN_sB, MSh_sB_eq, pS_account_0, stp_iload_n, pS_account_1, stp_invokestatic, qmS_328, cy_S_isOwner, pS_account_4, stp_ifCond_ne, pS_account_7, stp_aload_n, pS_account_8, stp_bipush, pS_account_10, stp_invokevirtual, qmS_79, cy_S_refuse, ss_C0 hS, pS_account_13, stp_pop, pS_account_14, stp_lconst, pS_account_15, stp_lreturn, pS_account_16, pS_account_17, stp_lstore_n, pS_account_18, stp_iconst, pS_account_19, stp_istore, pS_account_21, stp_iload, pS_account_23, pS_account_24, stp_getfield, qfS_19, rp_0_1, ss_R0_1 hS, ss_C2 hS, pS_account_27, qmS_96, cy_L_size, pS_account_30, stp_if_icmp_ge, pS_account_33, pS_account_34, pS_account_37, pS_account_39, qmS_277, cy_L_get, pS_account_42, stp_checkcast, qtS_132, pS_account_45, stp_astore, pS_account_47, stp_aload, pS_account_49, qfS_161, rp_10_4, pS_account_52, pS_account_53, stp_if_icmp_ne, pS_account_56, pS_account_58, qfS_186, rp_10_2, pS_account_61, qfS_195, rp_11_9, pS_account_64, stp_ifCond_eq, pS_account_67, pS_account_68, pS_account_70, qmS_182, cy_S_isInDoubt, pS_account_73, pS_account_76, stp_lload_n, pS_account_77, pS_account_79, pS_account_82, qfS_199, rp_11_8, pS_account_85, stp_i2l, pS_account_86, stp_ladd, pS_account_87, pS_account_88, stp_iinc, pS_account_91, stp_goto, pS_account_94, pS_account_95, bp_m3, ic_0, ic_1, nv_S_account, ml_S_account, fsS_isOwner, ho, rfS_3 hS, lvS_isOwner, lvS_refuse, lc0]
    have e2 : fsM_account [.inr (.inr (some (13, 0))), .inl o] (rfs w 3) = some (some (.inr (.inl 0)), rfz (rfs w 3) 3) := by
      rw [e, fsP_t (rfs_M hM)]
      simp only [ho, if_true]
    have e3 : Inv (c + 1) (rfz (rfs w 3) 3) := Inv_rf h
    exact Pst_fs (okM_account l G) (by decide) e2 e3
  | true =>
    simp only [reduceCtorEq, fv0, fv1, fv2, fv3, bI_0, bI_1, bft, MSh_sI_eq, fsP_T, inL_0, inL_s, pad_0, pad_n, pad_s, wpn_s, wp1_s, lg_0, lg_s, lset_0, lset_s, kil_0, kil_s, st1_s, st2_s, isL_i, isL_l, isL_r, isL_n, spl_0, spl_s, cll_n, cll_s, catS_0, catS_s, jmp_s, alk_0, alk_s, otl_n, otl_s, List.nil_append, List.cons_append, List.contains_cons, List.contains_nil, Nat.reduceBEq, Bool.or_false, Bool.false_or, Bool.or_self, Bool.false_eq_true, Bool.true_or, Bool.or_true, if_true, if_false, ite_true, ite_false, ↓reduceIte, List.length_cons, List.length_nil, Nat.reduceAdd, Nat.reduceLT, Nat.reduceLeDiff, Nat.reduceEqDiff, Int.reduceAdd, Int.reduceLE, Int.toNat_natCast, Int.reduceToNat, Int.cast_ofNat_Int, true_and, and_true, false_and, and_false, true_implies, forall_const, eq_self, and_self, or_true, true_or, or_self, false_or, or_false, yI_sI, yR_sI, yC_sI, yN_sI, yI_sR, yR_sR, yC_sR, yN_sR, not_true_eq_false, not_false_eq_true, false_implies, implies_true, Nat.zero_add, Nat.add_zero, Nat.le_refl, Nat.reduceSub, Int.reduceSub, Int.reduceLT, Int.sub_zero, Int.sub_self, List.getElem?_toArray, List.getElem?_cons_zero, List.getElem?_cons_succ, Int.toNat_zero, Int.toNat_one, Int.lt_irrefl, yI_sB, yR_sB, yC_sB, yN_sB, MSh_sB_eq, pS_account_0, stp_iload_n, pS_account_1, stp_invokestatic, qmS_328, cy_S_isOwner, pS_account_4, stp_ifCond_ne, pS_account_7, stp_aload_n, pS_account_8, stp_bipush, pS_account_10, stp_invokevirtual, qmS_79, cy_S_refuse, ss_C0 hS, pS_account_13, stp_pop, pS_account_14, stp_lconst, pS_account_15, stp_lreturn, pS_account_16, pS_account_17, stp_lstore_n, pS_account_18, stp_iconst, pS_account_19, stp_istore, pS_account_21, stp_iload, pS_account_23, pS_account_24, stp_getfield, qfS_19, rp_0_1, ss_R0_1 hS, ss_C2 hS, pS_account_27, qmS_96, cy_L_size, pS_account_30, stp_if_icmp_ge, pS_account_33, pS_account_34, pS_account_37, pS_account_39, qmS_277, cy_L_get, pS_account_42, stp_checkcast, qtS_132, pS_account_45, stp_astore, pS_account_47, stp_aload, pS_account_49, qfS_161, rp_10_4, pS_account_52, pS_account_53, stp_if_icmp_ne, pS_account_56, pS_account_58, qfS_186, rp_10_2, pS_account_61, qfS_195, rp_11_9, pS_account_64, stp_ifCond_eq, pS_account_67, pS_account_68, pS_account_70, qmS_182, cy_S_isInDoubt, pS_account_73, pS_account_76, stp_lload_n, pS_account_77, pS_account_79, pS_account_82, qfS_199, rp_11_8, pS_account_85, stp_i2l, pS_account_86, stp_ladd, pS_account_87, pS_account_88, stp_iinc, pS_account_91, stp_goto, pS_account_94, pS_account_95, bp_m3, ic_0, ic_1, nv_S_account, ml_S_account, fsS_isOwner, ho, show ¬ (1 : Int32) = 0 by decide, lvS_isOwner, lvS_refuse, lc0]
    have e2 : fsM_account [.inr (.inr (some (13, 0))), .inl o] w = some (some (.inr (.inl (acN w o (cn w 17)))), w) := by
      rw [e, fsP_t hM]
      simp only [ho, Bool.true_eq_false, if_false]
    exact lpS_account (by decide) (iv_l h) (Pst_fs (okM_account l G) (by decide) e2 (Inv_up h)) (cn w 17) 0 none (Nat.zero_add _)
end
