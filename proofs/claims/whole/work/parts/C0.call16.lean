/-! calls: feed, copy -/
/-- a byte, as the class and as the reference cut it out -/
def fby (x : Int32) (i : Nat) : Int32 := (x >>> (8 * nI i &&& 31)) &&& 255
def fcb (x : Int32) (i : Nat) : Int32 := (x.toUInt32 >>> ((8 * nI i).toUInt32 &&& Int32.toUInt32 31)).toInt32 &&& 255
theorem byt_eq (x : Int32) (s : Nat) (hs : s ≤ 24) : (x.toUInt32.toBitVec >>> s) &&& (255 : BitVec 32) = (x.toBitVec.sshiftRight s) &&& (255 : BitVec 32) := by
  have e : x.toUInt32.toBitVec = x.toBitVec := rfl
  rw [e]
  generalize x.toBitVec = v
  apply BitVec.eq_of_getLsbD_eq
  intro j hj
  rw [BitVec.getLsbD_and, BitVec.getLsbD_and, BitVec.getLsbD_ushiftRight, BitVec.getLsbD_sshiftRight]
  by_cases q : j < 8
  · rw [if_pos (by omega)]
    simp [show ¬ 32 ≤ j by omega]
  · have z : (255 : BitVec 32).getLsbD j = false := by
      have : (255 : BitVec 32) = BitVec.ofNat 32 (2 ^ 8 - 1) := rfl
      rw [this, BitVec.getLsbD_ofNat, Nat.testBit_two_pow_sub_one]
      simp [q]
    rw [z, Bool.and_false, Bool.and_false]
theorem fcb_eq (x : Int32) {i : Nat} (hi : i < 4) : fcb x i = fby x i := by
  apply Int32.toBitVec_inj.mp
  rcases (show i = 0 ∨ i = 1 ∨ i = 2 ∨ i = 3 by omega) with rfl | rfl | rfl | rfl
  · exact byt_eq x 0 (by decide)
  · exact byt_eq x 8 (by decide)
  · exact byt_eq x 16 (by decide)
  · exact byt_eq x 24 (by decide)
theorem fdU_2 (x : Int32) : ∀ n w, (fdU x n w).2 = w.2
  | 0, _ => rfl
  | n + 1, w => by rw [fdU, fdU_2 x n, sI_2, sI_2]
theorem fdU_I (x : Int32) : ∀ n w s, wI w 13 0 58 = nI s → s + n ≤ 80 → ∀ t k i, wI (fdU x n w) t k i = if t = 13 ∧ k = 0 ∧ i = 58 then nI (s + n) else if t = 159 ∧ k = 0 ∧ s ≤ i ∧ i < s + n then fby x (n - 1 - (i - s)) else wI w t k i
  | 0, w, s, e, hs, t, k, i => by
    by_cases q : t = 13 ∧ k = 0 ∧ i = 58
    · rw [if_pos q, q.1, q.2.1, q.2.2]; exact e
    · rw [if_neg q, if_neg (by omega)]; rfl
  | n + 1, w, s, e, hs, t, k, i => by
    have ec : cn w 58 = s := by rw [cn, e]; exact nI_clamp (by omega)
    rw [fdU, fdU_I x n _ (s + 1) (by rw [yI_sI, if_pos ⟨rfl, rfl, rfl⟩, e]; exact nI_add s 1) (by omega), ec]
    by_cases q : t = 13 ∧ k = 0 ∧ i = 58
    · rw [if_pos q, if_pos q, show s + 1 + n = s + (n + 1) by omega]
    · rw [if_neg q, if_neg q]
      by_cases q2 : t = 159 ∧ k = 0 ∧ s + 1 ≤ i ∧ i < s + 1 + n
      · rw [if_pos q2, if_pos (by omega), show n - 1 - (i - (s + 1)) = n + 1 - 1 - (i - s) by omega]
      · rw [if_neg q2, yI_sI, if_neg q, yI_sI]
        by_cases q3 : t = 159 ∧ k = 0 ∧ i = s
        · rw [if_pos q3, if_pos (by omega), show n + 1 - 1 - (i - s) = n by omega]; rfl
        · rw [if_neg q3, if_neg (by omega)]
def fcU (x : Int32) : Nat → Nat → Wd → Wd
  | 0, _, w => w
  | i + 1, s, w => fcU x i (s + 1) (tdW w s (fcb x i))
theorem fcU_2 (x : Int32) : ∀ n s w, (fcU x n s w).2 = w.2
  | 0, _, _ => rfl
  | n + 1, s, w => by rw [fcU, fcU_2 x n]; rfl
theorem fcU_I (x : Int32) : ∀ n w s, wI w 3 0 1 = nI s → s + n ≤ 80 → ∀ t k i, wI (fcU x n s w) t k i = if t = 3 ∧ k = 0 ∧ i = 1 then nI (s + n) else if t = 174 ∧ k = 0 ∧ s ≤ i ∧ i < s + n then fcb x (n - 1 - (i - s)) else wI w t k i
  | 0, w, s, e, hs, t, k, i => by
    by_cases q : t = 3 ∧ k = 0 ∧ i = 1
    · rw [if_pos q, q.1, q.2.1, q.2.2]; exact e
    · rw [if_neg q, if_neg (by omega)]; rfl
  | n + 1, w, s, e, hs, t, k, i => by
    rw [fcU, fcU_I x n _ (s + 1) (by unfold tdW; rw [yI_sI, if_pos ⟨rfl, rfl, rfl⟩]) (by omega)]
    by_cases q : t = 3 ∧ k = 0 ∧ i = 1
    · rw [if_pos q, if_pos q, show s + 1 + n = s + (n + 1) by omega]
    · rw [if_neg q, if_neg q]
      by_cases q2 : t = 174 ∧ k = 0 ∧ s + 1 ≤ i ∧ i < s + 1 + n
      · rw [if_pos q2, if_pos (by omega), show n - 1 - (i - (s + 1)) = n + 1 - 1 - (i - s) by omega]
      · unfold tdW
        rw [if_neg q2, yI_sI, if_neg q, yI_sI]
        by_cases q3 : t = 174 ∧ k = 0 ∧ i = s
        · rw [if_pos q3, if_pos (by omega), show n + 1 - 1 - (i - s) = n by omega]
        · rw [if_neg q3, if_neg (by omega)]
section
variable {l : Launch} {G : Gc} {n mc ms cu su : Nat} {Q : Option AV → Wd → Prop}
set_option maxRecDepth 100000 in
set_option maxHeartbeats 4000000 in
theorem lpS_feed {x y : Int32} (hn : 1 < n) (hmc : cu ≤ mc) (hms : su ≤ ms) : ∀ i s (w : Wd), SSh w → wI w 3 0 1 = nI s → s + i ≤ 80 → Q (some (.inl (nI (s + i)))) (fcU x i s w) → WP l G mS_feed n mc ms Q 48 [some (.inr (.inr (some (0, 0)))), some (.inl x), some (.inl y), some (.inl (nI i - 1))] [] w cu su
  | 0, s, w, hS, e, hs, hQ => by
    have h1 : nI 0 - 1 < 0 := by decide
    refine wpn_ok (M := mS_feed) (C := cenS) (X := (alk [])) (tb := tS_feed) (st := [48]) eoS XOk_nil kS_feed 60 _ _ _ _ _ _ ?_
    simp only [reduceCtorEq, fv0, fv1, fv2, fv3, bI_0, bI_1, bft, MSh_sI_eq, fsP_T, inL_0, inL_s, pad_0, pad_n, pad_s, wpn_s, wp1_s, lg_0, lg_s, lset_0, lset_s, kil_0, kil_s, st1_s, st2_s, isL_i, isL_l, isL_r, isL_n, spl_0, spl_s, cll_n, cll_s, catS_0, catS_s, jmp_s, alk_0, alk_s, otl_n, otl_s, List.nil_append, List.cons_append, List.contains_cons, List.contains_nil, Nat.reduceBEq, Bool.or_false, Bool.false_or, Bool.or_self, Bool.false_eq_true, Bool.true_or, Bool.or_true, if_true, if_false, ite_true, ite_false, ↓reduceIte, List.length_cons, List.length_nil, Nat.reduceAdd, Nat.reduceLT, Nat.reduceLeDiff, Nat.reduceEqDiff, Int.reduceAdd, Int.reduceLE, Int.toNat_natCast, Int.reduceToNat, Int.cast_ofNat_Int, true_and, and_true, false_and, and_false, true_implies, forall_const, eq_self, and_self, or_true, true_or, or_self, false_or, or_false, yI_sI, yR_sI, yC_sI, yN_sI, yI_sR, yR_sR, yC_sR, yN_sR, not_true_eq_false, not_false_eq_true, false_implies, implies_true, Nat.zero_add, Nat.add_zero, Nat.le_refl, Nat.reduceSub, Int.reduceSub, Int.reduceLT, Int.sub_zero, Int.sub_self, List.getElem?_toArray, List.getElem?_cons_zero, List.getElem?_cons_succ, Int.toNat_zero, Int.toNat_one, Int.lt_irrefl, yI_sB, yR_sB, yC_sB, yN_sB, MSh_sB_eq, pS_feed_0, stp_iload_n, pS_feed_1, stp_ifCond_ge, pS_feed_4, stp_aload_n, pS_feed_5, stp_bipush, pS_feed_7, stp_invokevirtual, qmS_79, cy_S_refuse, ss_C0 hS, pS_feed_10, stp_ireturn, pS_feed_11, pS_feed_12, stp_iconst, pS_feed_13, stp_if_icmp_le, pS_feed_16, pS_feed_17, pS_feed_19, pS_feed_22, pS_feed_23, pS_feed_24, stp_getfield, qfS_26, rp_0_2, ss_R0_2 hS, ss_C3 hS, pS_feed_27, qfS_253, rp_3_1, pS_feed_30, pS_feed_31, stp_iadd, pS_feed_32, pS_feed_34, pS_feed_37, pS_feed_38, pS_feed_40, pS_feed_43, pS_feed_44, pS_feed_45, pS_feed_46, stp_isub, pS_feed_47, stp_istore_n, pS_feed_48, pS_feed_49, stp_ifCond_lt, pS_feed_52, pS_feed_53, pS_feed_56, pS_feed_57, pS_feed_59, pS_feed_60, stp_imul, pS_feed_61, stp_iushr, pS_feed_62, stp_sipush, pS_feed_65, stp_iand, pS_feed_66, qmS_255, cy_T_add, pS_feed_69, stp_iinc, pS_feed_72, stp_goto, pS_feed_75, pS_feed_76, pS_feed_79, pS_feed_82, bp_m4, ic_4, bp_m7, bp_80, bp_m8, ic_1, bp_8, sp_255, ic_m1, nv_S_feed, ml_S_feed, h1, e]
    exact hQ
  | i + 1, s, w, hS, e, hs, hQ => by
    have h1 : ¬ nI i < 0 := nI_pos (by omega)
    have call := smT_add (l := l) (G := G) (v := fcb x i) hS (show s < 80 by omega) e
    have hS' : SSh (tdW w s (fcb x i)) := SSh_of hS rfl
    have e' : wI (tdW w s (fcb x i)) 3 0 1 = nI (s + 1) := by unfold tdW; rw [yI_sI, if_pos ⟨rfl, rfl, rfl⟩]
    have ih := lpS_feed (x := x) (y := y) hn hmc hms i (s + 1) (tdW w s (fcb x i)) hS' e' (by omega) (by rw [show s + 1 + i = s + (i + 1) by omega]; exact hQ)
    rw [nI_pred]
    refine wpn_ok (M := mS_feed) (C := cenS) (X := (alk [])) (tb := tS_feed) (st := [48]) eoS XOk_nil kS_feed 60 _ _ _ _ _ _ ?_
    simp only [reduceCtorEq, fv0, fv1, fv2, fv3, bI_0, bI_1, bft, MSh_sI_eq, fsP_T, inL_0, inL_s, pad_0, pad_n, pad_s, wpn_s, wp1_s, lg_0, lg_s, lset_0, lset_s, kil_0, kil_s, st1_s, st2_s, isL_i, isL_l, isL_r, isL_n, spl_0, spl_s, cll_n, cll_s, catS_0, catS_s, jmp_s, alk_0, alk_s, otl_n, otl_s, List.nil_append, List.cons_append, List.contains_cons, List.contains_nil, Nat.reduceBEq, Bool.or_false, Bool.false_or, Bool.or_self, Bool.false_eq_true, Bool.true_or, Bool.or_true, if_true, if_false, ite_true, ite_false, ↓reduceIte, List.length_cons, List.length_nil, Nat.reduceAdd, Nat.reduceLT, Nat.reduceLeDiff, Nat.reduceEqDiff, Int.reduceAdd, Int.reduceLE, Int.toNat_natCast, Int.reduceToNat, Int.cast_ofNat_Int, true_and, and_true, false_and, and_false, true_implies, forall_const, eq_self, and_self, or_true, true_or, or_self, false_or, or_false, yI_sI, yR_sI, yC_sI, yN_sI, yI_sR, yR_sR, yC_sR, yN_sR, not_true_eq_false, not_false_eq_true, false_implies, implies_true, Nat.zero_add, Nat.add_zero, Nat.le_refl, Nat.reduceSub, Int.reduceSub, Int.reduceLT, Int.sub_zero, Int.sub_self, List.getElem?_toArray, List.getElem?_cons_zero, List.getElem?_cons_succ, Int.toNat_zero, Int.toNat_one, Int.lt_irrefl, yI_sB, yR_sB, yC_sB, yN_sB, MSh_sB_eq, pS_feed_0, stp_iload_n, pS_feed_1, stp_ifCond_ge, pS_feed_4, stp_aload_n, pS_feed_5, stp_bipush, pS_feed_7, stp_invokevirtual, qmS_79, cy_S_refuse, ss_C0 hS, pS_feed_10, stp_ireturn, pS_feed_11, pS_feed_12, stp_iconst, pS_feed_13, stp_if_icmp_le, pS_feed_16, pS_feed_17, pS_feed_19, pS_feed_22, pS_feed_23, pS_feed_24, stp_getfield, qfS_26, rp_0_2, ss_R0_2 hS, ss_C3 hS, pS_feed_27, qfS_253, rp_3_1, pS_feed_30, pS_feed_31, stp_iadd, pS_feed_32, pS_feed_34, pS_feed_37, pS_feed_38, pS_feed_40, pS_feed_43, pS_feed_44, pS_feed_45, pS_feed_46, stp_isub, pS_feed_47, stp_istore_n, pS_feed_48, pS_feed_49, stp_ifCond_lt, pS_feed_52, pS_feed_53, pS_feed_56, pS_feed_57, pS_feed_59, pS_feed_60, stp_imul, pS_feed_61, stp_iushr, pS_feed_62, stp_sipush, pS_feed_65, stp_iand, pS_feed_66, qmS_255, cy_T_add, pS_feed_69, stp_iinc, pS_feed_72, stp_goto, pS_feed_75, pS_feed_76, pS_feed_79, pS_feed_82, bp_m4, ic_4, bp_m7, bp_80, bp_m8, ic_1, bp_8, sp_255, ic_m1, nv_S_feed, ml_S_feed, h1]
    refine ⟨1, 0, 0, hn, hmc, hms, call.mono fun rr w' h' => ?_⟩
    obtain ⟨rfl, rfl⟩ := h'
    refine wpn_ok (M := mS_feed) (C := cenS) (X := (alk [])) (tb := tS_feed) (st := [48]) eoS XOk_nil kS_feed 60 _ _ _ _ _ _ ?_
    simp only [reduceCtorEq, fv0, fv1, fv2, fv3, bI_0, bI_1, bft, MSh_sI_eq, fsP_T, inL_0, inL_s, pad_0, pad_n, pad_s, wpn_s, wp1_s, lg_0, lg_s, lset_0, lset_s, kil_0, kil_s, st1_s, st2_s, isL_i, isL_l, isL_r, isL_n, spl_0, spl_s, cll_n, cll_s, catS_0, catS_s, jmp_s, alk_0, alk_s, otl_n, otl_s, List.nil_append, List.cons_append, List.contains_cons, List.contains_nil, Nat.reduceBEq, Bool.or_false, Bool.false_or, Bool.or_self, Bool.false_eq_true, Bool.true_or, Bool.or_true, if_true, if_false, ite_true, ite_false, ↓reduceIte, List.length_cons, List.length_nil, Nat.reduceAdd, Nat.reduceLT, Nat.reduceLeDiff, Nat.reduceEqDiff, Int.reduceAdd, Int.reduceLE, Int.toNat_natCast, Int.reduceToNat, Int.cast_ofNat_Int, true_and, and_true, false_and, and_false, true_implies, forall_const, eq_self, and_self, or_true, true_or, or_self, false_or, or_false, yI_sI, yR_sI, yC_sI, yN_sI, yI_sR, yR_sR, yC_sR, yN_sR, not_true_eq_false, not_false_eq_true, false_implies, implies_true, Nat.zero_add, Nat.add_zero, Nat.le_refl, Nat.reduceSub, Int.reduceSub, Int.reduceLT, Int.sub_zero, Int.sub_self, List.getElem?_toArray, List.getElem?_cons_zero, List.getElem?_cons_succ, Int.toNat_zero, Int.toNat_one, Int.lt_irrefl, yI_sB, yR_sB, yC_sB, yN_sB, MSh_sB_eq, pS_feed_0, stp_iload_n, pS_feed_1, stp_ifCond_ge, pS_feed_4, stp_aload_n, pS_feed_5, stp_bipush, pS_feed_7, stp_invokevirtual, qmS_79, cy_S_refuse, ss_C0 hS', pS_feed_10, stp_ireturn, pS_feed_11, pS_feed_12, stp_iconst, pS_feed_13, stp_if_icmp_le, pS_feed_16, pS_feed_17, pS_feed_19, pS_feed_22, pS_feed_23, pS_feed_24, stp_getfield, qfS_26, rp_0_2, ss_R0_2 hS', ss_C3 hS', pS_feed_27, qfS_253, rp_3_1, pS_feed_30, pS_feed_31, stp_iadd, pS_feed_32, pS_feed_34, pS_feed_37, pS_feed_38, pS_feed_40, pS_feed_43, pS_feed_44, pS_feed_45, pS_feed_46, stp_isub, pS_feed_47, stp_istore_n, pS_feed_48, pS_feed_49, stp_ifCond_lt, pS_feed_52, pS_feed_53, pS_feed_56, pS_feed_57, pS_feed_59, pS_feed_60, stp_imul, pS_feed_61, stp_iushr, pS_feed_62, stp_sipush, pS_feed_65, stp_iand, pS_feed_66, qmS_255, cy_T_add, pS_feed_69, stp_iinc, pS_feed_72, stp_goto, pS_feed_75, pS_feed_76, pS_feed_79, pS_feed_82, bp_m4, ic_4, bp_m7, bp_80, bp_m8, ic_1, bp_8, sp_255, ic_m1, nv_S_feed, ml_S_feed, nI_pr, Option.toList_none]
    exact ih
end
section
variable {l : Launch} {G : Gc} {c : Nat} {w : Wd}
theorem fe_inv {x : Int32} {s n : Nat} (h : Inv c w) (e : wI w 13 0 58 = nI s) (hs : s + n ≤ 80) (hn : n ≤ 4) : Inv (c + 1) (fdU x n (fcU x n s w)) := by
  have e1 : wI w 3 0 1 = nI s := (iv_0 h).2.2.1.trans e
  have f1 := fcU_I x n w s e1 hs
  have f2 := fdU_I x n (fcU x n s w) s (by rw [f1, if_neg (by omega), if_neg (by omega)]; exact e) hs
  have h2 : (fdU x n (fcU x n s w)).2 = w.2 := by rw [fdU_2, fcU_2]
  revert f2 h2
  generalize fdU x n (fcU x n s w) = w'
  intro f2 h2
  have g : ∀ t k i, ¬ (t = 13 ∧ i = 58) → ¬ t = 159 → ¬ (t = 3 ∧ i = 1) → ¬ t = 174 → wI w' t k i = wI w t k i := fun t k i n1 n2 n3 n4 => by
    rw [f2, if_neg (by omega), if_neg (by omega), f1, if_neg (by omega), if_neg (by omega)]
  have w58 : wI w' 13 0 58 = nI (s + n) := by rw [f2, if_pos ⟨rfl, rfl, rfl⟩]
  have c58 : cn w' 58 = s + n := by rw [cn, w58]; exact nI_clamp (by omega)
  have hM := MSh_of (iv_M h).1 h2
  have gm : ∀ k, ¬ k = 58 → wI w' 13 0 k = wI w 13 0 k := fun k hk => g _ _ _ (by omega) (by omega) (by omega) (by omega)
  refine Inv_cg2 (c := c) (w := w) (Nat.le_succ c) h2 ?_ ?_ (IvK_cg (gm 63 (by decide)) (fun i => g _ _ _ (by omega) (by omega) (by omega) (by omega)) (iv_K h)) (fun k i _ => g _ _ _ (by omega) (by omega) (by omega) (by omega)) (fun t k i ht => ?_) h
  · obtain ⟨-, m3, m6, m17, mR, m63, m58, m123, m67, m47⟩ := iv_M h
    refine ⟨hM, okc_cg (gm _ (by decide)) m3, okc_cg (gm _ (by decide)) m6, okc_cg (gm _ (by decide)) m17, ⟨okc_cg (gm _ (by decide)) mR.1, fun r hr => ?_⟩, okc_cg (gm _ (by decide)) m63, ⟨by rw [w58, c58], by omega⟩, fun j hj => ?_, okc_cg (gm _ (by decide)) m67, ?_⟩
    · rw [cn_cg (gm _ (by decide))] at hr
      unfold cnT
      rw [g _ _ _ (by omega) (by omega) (by omega) (by omega)]
      exact mR.2 r hr
    · rw [cn_cg (gm _ (by decide))] at hj
      rw [cn_cg (gm _ (by decide)), g _ _ _ (by omega) (by omega) (by omega) (by omega)]
      exact m123 j hj
    · rcases m47 with q | q
      · exact Or.inl (by rw [gm _ (by decide)]; exact q)
      · exact Or.inr (okc_cg (gm _ (by decide)) q)
  · obtain ⟨c1, c2, c3, c4, c5, c6, c7, c8⟩ := iv_0 h
    have m3 := cn_cg (w := w) (w' := w') (gm 3 (by decide))
    have m63 := cn_cg (w := w) (w' := w') (gm 63 (by decide))
    have s58 : cn w 58 = s := by rw [cn, e]; exact nI_clamp (by omega)
    have G4 := fun t k i (ht : ¬ (t = 13 ∧ i = 58) ∧ ¬ t = 159 ∧ ¬ (t = 3 ∧ i = 1) ∧ ¬ t = 174) => g t k i ht.1 ht.2.1 ht.2.2.1 ht.2.2.2
    refine ⟨?_, ?_, ?_, ?_, fun b hb => ?_, fun p hp => ?_, fun i hi => ?_, fun i hi => ?_⟩
    · rw [G4 _ _ _ (by omega), G4 _ _ _ (by omega)]; exact c1
    · rw [G4 _ _ _ (by omega), G4 _ _ _ (by omega)]; exact c2
    · rw [w58, f2, if_neg (by omega), if_neg (by omega), f1, if_pos ⟨rfl, rfl, rfl⟩]
    · rw [G4 _ _ _ (by omega), G4 _ _ _ (by omega)]; exact c4
    · rw [G4 _ _ _ (by omega), G4 _ _ _ (by omega)]; exact c5 b hb
    · rw [m3] at hp
      rw [G4 _ _ _ (by omega), G4 _ _ _ (by omega), G4 _ _ _ (by omega), G4 _ _ _ (by omega)]; exact c6 p hp
    · rw [c58] at hi
      have q1 : wI w' 174 0 i = if s ≤ i ∧ i < s + n then fcb x (n - 1 - (i - s)) else wI w 174 0 i := by
        rw [f2, if_neg (by omega), if_neg (by omega), f1, if_neg (by omega)]
        simp only [true_and]
      have q2 : wI w' 159 0 i = if s ≤ i ∧ i < s + n then fby x (n - 1 - (i - s)) else wI w 159 0 i := by
        rw [f2, if_neg (by omega), f1, if_neg (show ¬ (159 = 3 ∧ 0 = 0 ∧ i = 1) by omega), if_neg (show ¬ (159 = 174 ∧ 0 = 0 ∧ s ≤ i ∧ i < s + n) by omega)]
        simp only [true_and]
      rw [q1, q2]
      by_cases z : s ≤ i
      · rw [if_pos ⟨z, hi⟩, if_pos ⟨z, hi⟩]; exact fcb_eq x (by omega)
      · rw [if_neg (by omega), if_neg (by omega)]; exact c7 i (by omega)
    · rw [m63] at hi
      rw [G4 _ _ _ (by omega), G4 _ _ _ (by omega), G4 _ _ _ (by omega), G4 _ _ _ (by omega)]; exact c8 i hi
  · unfold Kp K1 K2 K3 K4 K5 at ht
    exact g _ _ _ (by omega) (by omega) (by omega) (by omega)
set_option maxRecDepth 100000 in
set_option maxHeartbeats 4000000 in
theorem ca_feed (h : Inv c w) (x n : Int32) : Cok l G c w mS_feed mM_feed [.inl x, .inl n] := by
  have hS := iv_S h
  have hM := iv_M h
  have h0 := iv_0 h
  obtain ⟨-, h3, h6, h17, hR, h63, h58, -⟩ := id hM
  have rf : ∀ b : Nat, 0 < b ∧ b < 9 → fdD w n = -nI b → Pst l G c mM_feed [.inl x, .inl n] (some (.inl (-nI b))) (rfs w b) := fun b hb hd => by
    refine Pst_rf (d := fun w => fdD w n) (v := fun w => wI (fdU x n.toNatClampNeg w) 13 0 58) (W := fun w => fdU x n.toNatClampNeg w) (okM_feed l G) (by decide) (fun _ => rfl) h (b := b) hb rfl ?_
    show fdD w n = _
    exact hd
  have e58 := h0.2.2.1
  refine ⟨18, by decide, Sem_of (by decide) rfl (Nat.le_of_ble_eq_true rfl) ?_⟩
  refine wpn_ok (M := mS_feed) (C := cenS) (X := (alk [(79, lvS_refuse, fsS_refuse)])) (tb := tS_feed) (st := [48]) eoS (XOk_cons qmS_79 (okS_refuse l G) XOk_nil) kS_feed 60 _ _ _ _ _ _ ?_
  by_cases q0 : 0 ≤ n
  case neg =>
    simp only [reduceCtorEq, fv0, fv1, fv2, fv3, bI_0, bI_1, bft, MSh_sI_eq, fsP_T, inL_0, inL_s, pad_0, pad_n, pad_s, wpn_s, wp1_s, lg_0, lg_s, lset_0, lset_s, kil_0, kil_s, st1_s, st2_s, isL_i, isL_l, isL_r, isL_n, spl_0, spl_s, cll_n, cll_s, catS_0, catS_s, jmp_s, alk_0, alk_s, otl_n, otl_s, List.nil_append, List.cons_append, List.contains_cons, List.contains_nil, Nat.reduceBEq, Bool.or_false, Bool.false_or, Bool.or_self, Bool.false_eq_true, Bool.true_or, Bool.or_true, if_true, if_false, ite_true, ite_false, ↓reduceIte, List.length_cons, List.length_nil, Nat.reduceAdd, Nat.reduceLT, Nat.reduceLeDiff, Nat.reduceEqDiff, Int.reduceAdd, Int.reduceLE, Int.toNat_natCast, Int.reduceToNat, Int.cast_ofNat_Int, true_and, and_true, false_and, and_false, true_implies, forall_const, eq_self, and_self, or_true, true_or, or_self, false_or, or_false, yI_sI, yR_sI, yC_sI, yN_sI, yI_sR, yR_sR, yC_sR, yN_sR, not_true_eq_false, not_false_eq_true, false_implies, implies_true, Nat.zero_add, Nat.add_zero, Nat.le_refl, Nat.reduceSub, Int.reduceSub, Int.reduceLT, Int.sub_zero, Int.sub_self, List.getElem?_toArray, List.getElem?_cons_zero, List.getElem?_cons_succ, Int.toNat_zero, Int.toNat_one, Int.lt_irrefl, yI_sB, yR_sB, yC_sB, yN_sB, MSh_sB_eq, pS_feed_0, stp_iload_n, pS_feed_1, stp_ifCond_ge, pS_feed_4, stp_aload_n, pS_feed_5, stp_bipush, pS_feed_7, stp_invokevirtual, qmS_79, cy_S_refuse, ss_C0 hS, pS_feed_10, stp_ireturn, pS_feed_11, pS_feed_12, stp_iconst, pS_feed_13, stp_if_icmp_le, pS_feed_16, pS_feed_17, pS_feed_19, pS_feed_22, pS_feed_23, pS_feed_24, stp_getfield, qfS_26, rp_0_2, ss_R0_2 hS, ss_C3 hS, pS_feed_27, qfS_253, rp_3_1, pS_feed_30, pS_feed_31, stp_iadd, pS_feed_32, pS_feed_34, pS_feed_37, pS_feed_38, pS_feed_40, pS_feed_43, pS_feed_44, pS_feed_45, pS_feed_46, stp_isub, pS_feed_47, stp_istore_n, pS_feed_48, pS_feed_49, stp_ifCond_lt, pS_feed_52, pS_feed_53, pS_feed_56, pS_feed_57, pS_feed_59, pS_feed_60, stp_imul, pS_feed_61, stp_iushr, pS_feed_62, stp_sipush, pS_feed_65, stp_iand, pS_feed_66, qmS_255, cy_T_add, pS_feed_69, stp_iinc, pS_feed_72, stp_goto, pS_feed_75, pS_feed_76, pS_feed_79, pS_feed_82, bp_m4, ic_4, bp_m7, bp_80, bp_m8, ic_1, bp_8, sp_255, ic_m1, nv_S_feed, ml_S_feed, q0, rfS_4 hS, lvS_refuse]
    exact rf 4 (by decide) (by simp only [fdD, q0, not_false_eq_true, if_true]; rfl)
  case pos =>
    by_cases q4 : n ≤ 4
    case neg =>
      simp only [reduceCtorEq, fv0, fv1, fv2, fv3, bI_0, bI_1, bft, MSh_sI_eq, fsP_T, inL_0, inL_s, pad_0, pad_n, pad_s, wpn_s, wp1_s, lg_0, lg_s, lset_0, lset_s, kil_0, kil_s, st1_s, st2_s, isL_i, isL_l, isL_r, isL_n, spl_0, spl_s, cll_n, cll_s, catS_0, catS_s, jmp_s, alk_0, alk_s, otl_n, otl_s, List.nil_append, List.cons_append, List.contains_cons, List.contains_nil, Nat.reduceBEq, Bool.or_false, Bool.false_or, Bool.or_self, Bool.false_eq_true, Bool.true_or, Bool.or_true, if_true, if_false, ite_true, ite_false, ↓reduceIte, List.length_cons, List.length_nil, Nat.reduceAdd, Nat.reduceLT, Nat.reduceLeDiff, Nat.reduceEqDiff, Int.reduceAdd, Int.reduceLE, Int.toNat_natCast, Int.reduceToNat, Int.cast_ofNat_Int, true_and, and_true, false_and, and_false, true_implies, forall_const, eq_self, and_self, or_true, true_or, or_self, false_or, or_false, yI_sI, yR_sI, yC_sI, yN_sI, yI_sR, yR_sR, yC_sR, yN_sR, not_true_eq_false, not_false_eq_true, false_implies, implies_true, Nat.zero_add, Nat.add_zero, Nat.le_refl, Nat.reduceSub, Int.reduceSub, Int.reduceLT, Int.sub_zero, Int.sub_self, List.getElem?_toArray, List.getElem?_cons_zero, List.getElem?_cons_succ, Int.toNat_zero, Int.toNat_one, Int.lt_irrefl, yI_sB, yR_sB, yC_sB, yN_sB, MSh_sB_eq, pS_feed_0, stp_iload_n, pS_feed_1, stp_ifCond_ge, pS_feed_4, stp_aload_n, pS_feed_5, stp_bipush, pS_feed_7, stp_invokevirtual, qmS_79, cy_S_refuse, ss_C0 hS, pS_feed_10, stp_ireturn, pS_feed_11, pS_feed_12, stp_iconst, pS_feed_13, stp_if_icmp_le, pS_feed_16, pS_feed_17, pS_feed_19, pS_feed_22, pS_feed_23, pS_feed_24, stp_getfield, qfS_26, rp_0_2, ss_R0_2 hS, ss_C3 hS, pS_feed_27, qfS_253, rp_3_1, pS_feed_30, pS_feed_31, stp_iadd, pS_feed_32, pS_feed_34, pS_feed_37, pS_feed_38, pS_feed_40, pS_feed_43, pS_feed_44, pS_feed_45, pS_feed_46, stp_isub, pS_feed_47, stp_istore_n, pS_feed_48, pS_feed_49, stp_ifCond_lt, pS_feed_52, pS_feed_53, pS_feed_56, pS_feed_57, pS_feed_59, pS_feed_60, stp_imul, pS_feed_61, stp_iushr, pS_feed_62, stp_sipush, pS_feed_65, stp_iand, pS_feed_66, qmS_255, cy_T_add, pS_feed_69, stp_iinc, pS_feed_72, stp_goto, pS_feed_75, pS_feed_76, pS_feed_79, pS_feed_82, bp_m4, ic_4, bp_m7, bp_80, bp_m8, ic_1, bp_8, sp_255, ic_m1, nv_S_feed, ml_S_feed, q0, q4, rfS_7 hS, lvS_refuse]
      exact rf 7 (by decide) (by simp only [fdD, q0, q4, not_false_eq_true, not_true_eq_false, if_true, if_false]; rfl)
    case pos =>
      by_cases q8 : wI w 13 0 58 + n ≤ 80
      case neg =>
        simp only [reduceCtorEq, fv0, fv1, fv2, fv3, bI_0, bI_1, bft, MSh_sI_eq, fsP_T, inL_0, inL_s, pad_0, pad_n, pad_s, wpn_s, wp1_s, lg_0, lg_s, lset_0, lset_s, kil_0, kil_s, st1_s, st2_s, isL_i, isL_l, isL_r, isL_n, spl_0, spl_s, cll_n, cll_s, catS_0, catS_s, jmp_s, alk_0, alk_s, otl_n, otl_s, List.nil_append, List.cons_append, List.contains_cons, List.contains_nil, Nat.reduceBEq, Bool.or_false, Bool.false_or, Bool.or_self, Bool.false_eq_true, Bool.true_or, Bool.or_true, if_true, if_false, ite_true, ite_false, ↓reduceIte, List.length_cons, List.length_nil, Nat.reduceAdd, Nat.reduceLT, Nat.reduceLeDiff, Nat.reduceEqDiff, Int.reduceAdd, Int.reduceLE, Int.toNat_natCast, Int.reduceToNat, Int.cast_ofNat_Int, true_and, and_true, false_and, and_false, true_implies, forall_const, eq_self, and_self, or_true, true_or, or_self, false_or, or_false, yI_sI, yR_sI, yC_sI, yN_sI, yI_sR, yR_sR, yC_sR, yN_sR, not_true_eq_false, not_false_eq_true, false_implies, implies_true, Nat.zero_add, Nat.add_zero, Nat.le_refl, Nat.reduceSub, Int.reduceSub, Int.reduceLT, Int.sub_zero, Int.sub_self, List.getElem?_toArray, List.getElem?_cons_zero, List.getElem?_cons_succ, Int.toNat_zero, Int.toNat_one, Int.lt_irrefl, yI_sB, yR_sB, yC_sB, yN_sB, MSh_sB_eq, pS_feed_0, stp_iload_n, pS_feed_1, stp_ifCond_ge, pS_feed_4, stp_aload_n, pS_feed_5, stp_bipush, pS_feed_7, stp_invokevirtual, qmS_79, cy_S_refuse, ss_C0 hS, pS_feed_10, stp_ireturn, pS_feed_11, pS_feed_12, stp_iconst, pS_feed_13, stp_if_icmp_le, pS_feed_16, pS_feed_17, pS_feed_19, pS_feed_22, pS_feed_23, pS_feed_24, stp_getfield, qfS_26, rp_0_2, ss_R0_2 hS, ss_C3 hS, pS_feed_27, qfS_253, rp_3_1, pS_feed_30, pS_feed_31, stp_iadd, pS_feed_32, pS_feed_34, pS_feed_37, pS_feed_38, pS_feed_40, pS_feed_43, pS_feed_44, pS_feed_45, pS_feed_46, stp_isub, pS_feed_47, stp_istore_n, pS_feed_48, pS_feed_49, stp_ifCond_lt, pS_feed_52, pS_feed_53, pS_feed_56, pS_feed_57, pS_feed_59, pS_feed_60, stp_imul, pS_feed_61, stp_iushr, pS_feed_62, stp_sipush, pS_feed_65, stp_iand, pS_feed_66, qmS_255, cy_T_add, pS_feed_69, stp_iinc, pS_feed_72, stp_goto, pS_feed_75, pS_feed_76, pS_feed_79, pS_feed_82, bp_m4, ic_4, bp_m7, bp_80, bp_m8, ic_1, bp_8, sp_255, ic_m1, nv_S_feed, ml_S_feed, q0, q4, q8, e58, rfS_8 hS, lvS_refuse]
        exact rf 8 (by decide) (by simp only [fdD, q0, q4, q8, not_false_eq_true, not_true_eq_false, if_true, if_false]; rfl)
      case pos =>
        simp only [reduceCtorEq, fv0, fv1, fv2, fv3, bI_0, bI_1, bft, MSh_sI_eq, fsP_T, inL_0, inL_s, pad_0, pad_n, pad_s, wpn_s, wp1_s, lg_0, lg_s, lset_0, lset_s, kil_0, kil_s, st1_s, st2_s, isL_i, isL_l, isL_r, isL_n, spl_0, spl_s, cll_n, cll_s, catS_0, catS_s, jmp_s, alk_0, alk_s, otl_n, otl_s, List.nil_append, List.cons_append, List.contains_cons, List.contains_nil, Nat.reduceBEq, Bool.or_false, Bool.false_or, Bool.or_self, Bool.false_eq_true, Bool.true_or, Bool.or_true, if_true, if_false, ite_true, ite_false, ↓reduceIte, List.length_cons, List.length_nil, Nat.reduceAdd, Nat.reduceLT, Nat.reduceLeDiff, Nat.reduceEqDiff, Int.reduceAdd, Int.reduceLE, Int.toNat_natCast, Int.reduceToNat, Int.cast_ofNat_Int, true_and, and_true, false_and, and_false, true_implies, forall_const, eq_self, and_self, or_true, true_or, or_self, false_or, or_false, yI_sI, yR_sI, yC_sI, yN_sI, yI_sR, yR_sR, yC_sR, yN_sR, not_true_eq_false, not_false_eq_true, false_implies, implies_true, Nat.zero_add, Nat.add_zero, Nat.le_refl, Nat.reduceSub, Int.reduceSub, Int.reduceLT, Int.sub_zero, Int.sub_self, List.getElem?_toArray, List.getElem?_cons_zero, List.getElem?_cons_succ, Int.toNat_zero, Int.toNat_one, Int.lt_irrefl, yI_sB, yR_sB, yC_sB, yN_sB, MSh_sB_eq, pS_feed_0, stp_iload_n, pS_feed_1, stp_ifCond_ge, pS_feed_4, stp_aload_n, pS_feed_5, stp_bipush, pS_feed_7, stp_invokevirtual, qmS_79, cy_S_refuse, ss_C0 hS, pS_feed_10, stp_ireturn, pS_feed_11, pS_feed_12, stp_iconst, pS_feed_13, stp_if_icmp_le, pS_feed_16, pS_feed_17, pS_feed_19, pS_feed_22, pS_feed_23, pS_feed_24, stp_getfield, qfS_26, rp_0_2, ss_R0_2 hS, ss_C3 hS, pS_feed_27, qfS_253, rp_3_1, pS_feed_30, pS_feed_31, stp_iadd, pS_feed_32, pS_feed_34, pS_feed_37, pS_feed_38, pS_feed_40, pS_feed_43, pS_feed_44, pS_feed_45, pS_feed_46, stp_isub, pS_feed_47, stp_istore_n, pS_feed_48, pS_feed_49, stp_ifCond_lt, pS_feed_52, pS_feed_53, pS_feed_56, pS_feed_57, pS_feed_59, pS_feed_60, stp_imul, pS_feed_61, stp_iushr, pS_feed_62, stp_sipush, pS_feed_65, stp_iand, pS_feed_66, qmS_255, cy_T_add, pS_feed_69, stp_iinc, pS_feed_72, stp_goto, pS_feed_75, pS_feed_76, pS_feed_79, pS_feed_82, bp_m4, ic_4, bp_m7, bp_80, bp_m8, ic_1, bp_8, sp_255, ic_m1, nv_S_feed, ml_S_feed, q0, q4, q8, e58, lvS_refuse]
        have q0' : ¬ n < 0 := fun q => by rw [Int32.lt_iff_toInt_lt] at q; rw [Int32.le_iff_toInt_le] at q0; omega
        have hd : fdD w n = 0 := by simp only [fdD, q0, q4, q8, not_true_eq_false, if_false]
        obtain ⟨i, hi, rfl⟩ := nI_of (x := n) q0'
        have e4 : i ≤ 4 := by
          rw [Int32.le_iff_toInt_le, nI_toInt hi] at q4
          have : (4 : Int32).toInt = 4 := by decide
          omega
        have hb := h58.2
        have e8 : cn w 58 + i ≤ 80 := by
          rw [h58.1, nI_add, Int32.le_iff_toInt_le, nI_toInt (by omega)] at q8
          have : (80 : Int32).toInt = 80 := by decide
          omega
        have ei : (nI i).toNatClampNeg = i := nI_clamp hi
        have m : msk (fcU x i (cn w 58) w) = msk w := msk_ag (fcU_2 x i _ w) fun t k j hc => by
          rw [fcU_I x i w (cn w 58) (e58.trans h58.1) e8, if_neg (by rintro ⟨rfl, -⟩; cases hc), if_neg (by rintro ⟨rfl, -⟩; cases hc)]
        refine lpS_feed (by decide) (by decide) (by decide) i (cn w 58) w hS (e58.trans h58.1) e8 ?_
        have hd2 : fdD (fcU x i (cn w 58) w) (nI i) = 0 := (mskE (f := fun w => fdD w (nI i)) (fun _ => rfl) m).trans hd
        have e2 : fsM_feed [.inr (.inr (some (13, 0))), .inl x, .inl (nI i)] (fcU x i (cn w 58) w) = some (some (.inl (nI (cn w 58 + i))), fdU x i (fcU x i (cn w 58) w)) := by
          have e0 : ∀ w, fsM_feed [.inr (.inr (some (13, 0))), .inl x, .inl (nI i)] w = fsP (MOk w) (some (.inl (rfV (fdD w (nI i)) (wI (fdU x (nI i).toNatClampNeg w) 13 0 58))), rfO w (fdD w (nI i)) (fdU x (nI i).toNatClampNeg w)) := fun _ => rfl
          rw [e0, fsP_t (MOk_m m hM), hd2, ei]
          unfold rfV rfO
          rw [if_pos rfl, if_pos rfl, fdU_I x i _ (cn w 58) (by rw [fcU_I x i w (cn w 58) (e58.trans h58.1) e8, if_neg (by omega), if_neg (by omega)]; exact h58.1) e8, if_pos ⟨rfl, rfl, rfl⟩]
        exact Pst_fs (okM_feed l G) (by decide) e2 (fe_inv h h58.1 e8 e4)
end
