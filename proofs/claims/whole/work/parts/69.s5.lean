/-! sales, in the class -/
theorem inR_5 {b : Int32} (h : inR b 0 4 = true) : ∃ i, i < 5 ∧ b = nI i := by
  obtain ⟨i, hi, rfl⟩ := inR_nat 4 (by omega) (show inR b 0 (nI 4) = true from h)
  exact ⟨i, by omega, rfl⟩
abbrev lvE_wasSeenBy : Nat := 3
noncomputable def fsE_wasSeenBy : FS := fun as w => match as with
  | [.inr (.inr (some (11, j))), .inl b] => fsP (j < wC w 11) (some (.inl (bI (inR b 0 4 && btB (wI w 11 j 3) b.toNatClampNeg))), w)
  | _ => none
set_option maxRecDepth 100000 in
set_option maxHeartbeats 4000000 in
theorem okE_wasSeenBy (l : Launch) (G : Gc) : FsOk l G mE_wasSeenBy lvE_wasSeenBy fsE_wasSeenBy := by
  intro as w r w' h
  simp only [fsE_wasSeenBy] at h
  split at h
  · rename_i j b
    obtain ⟨hj, h⟩ := fsP_s h
    cases h
    refine Sem_of (by decide) rfl (Nat.le_of_ble_eq_true rfl) ?_
    refine wpn_ok (M := mE_wasSeenBy) (C := cenE) (X := (alk [(47, lvS_isBuyer, fsS_isBuyer), (51, lvS_inSet, fsS_inSet)])) (tb := tE_wasSeenBy) (st := []) eoE (XOk_cons qmE_47 (okS_isBuyer l G) (XOk_cons qmE_51 (okS_inSet l G) XOk_nil)) kE_wasSeenBy 60 _ _ _ _ _ _ ?_
    cases hb : inR b 0 4
    · simp only [reduceCtorEq, fv0, fv1, fv2, fv3, bI_0, bI_1, bft, MSh_sI_eq, fsP_T, inL_0, inL_s, pad_0, pad_n, pad_s, wpn_s, wp1_s, lg_0, lg_s, lset_0, lset_s, kil_0, kil_s, st1_s, st2_s, isL_i, isL_l, isL_r, isL_n, spl_0, spl_s, cll_n, cll_s, catS_0, catS_s, jmp_s, alk_0, alk_s, otl_n, otl_s, List.nil_append, List.cons_append, List.contains_cons, List.contains_nil, Nat.reduceBEq, Bool.or_false, Bool.false_or, Bool.or_self, Bool.false_eq_true, Bool.true_or, Bool.or_true, if_true, if_false, ite_true, ite_false, ↓reduceIte, List.length_cons, List.length_nil, Nat.reduceAdd, Nat.reduceLT, Nat.reduceLeDiff, Nat.reduceEqDiff, Int.reduceAdd, Int.reduceLE, Int.toNat_natCast, Int.reduceToNat, Int.cast_ofNat_Int, true_and, and_true, false_and, and_false, true_implies, forall_const, eq_self, and_self, or_true, true_or, or_self, false_or, or_false, yI_sI, yR_sI, yC_sI, yN_sI, yI_sR, yR_sR, yC_sR, yN_sR, not_true_eq_false, not_false_eq_true, false_implies, implies_true, Nat.zero_add, Nat.add_zero, Nat.le_refl, Nat.reduceSub, Int.reduceSub, Int.reduceLT, Int.sub_zero, Int.sub_self, List.getElem?_toArray, List.getElem?_cons_zero, List.getElem?_cons_succ, Int.toNat_zero, Int.toNat_one, Int.lt_irrefl, yI_sB, yR_sB, yC_sB, yN_sB, MSh_sB_eq, pE_wasSeenBy_0, stp_iload_n, pE_wasSeenBy_1, stp_invokestatic, qmE_47, cy_S_isBuyer, pE_wasSeenBy_4, stp_ifCond_eq, pE_wasSeenBy_7, stp_aload_n, pE_wasSeenBy_8, stp_getfield, qfE_22, rp_11_3, pE_wasSeenBy_11, pE_wasSeenBy_12, qmE_51, cy_S_inSet, pE_wasSeenBy_15, pE_wasSeenBy_18, stp_iconst, pE_wasSeenBy_19, stp_goto, pE_wasSeenBy_22, pE_wasSeenBy_23, stp_ireturn, ic_1, ic_0, nv_E_wasSeenBy, ml_E_wasSeenBy, fsS_isBuyer, hb, lvE_wasSeenBy, lvS_isBuyer, lvS_inSet]
      simp [bI]
    · obtain ⟨i, hi, rfl⟩ := inR_5 hb
      have c1 : (nI i).toNatClampNeg = i := nI_clamp (by omega)
      cases hs : btB (wI w 11 j 3) i <;> simp only [reduceCtorEq, fv0, fv1, fv2, fv3, bI_0, bI_1, bft, MSh_sI_eq, fsP_T, inL_0, inL_s, pad_0, pad_n, pad_s, wpn_s, wp1_s, lg_0, lg_s, lset_0, lset_s, kil_0, kil_s, st1_s, st2_s, isL_i, isL_l, isL_r, isL_n, spl_0, spl_s, cll_n, cll_s, catS_0, catS_s, jmp_s, alk_0, alk_s, otl_n, otl_s, List.nil_append, List.cons_append, List.contains_cons, List.contains_nil, Nat.reduceBEq, Bool.or_false, Bool.false_or, Bool.or_self, Bool.false_eq_true, Bool.true_or, Bool.or_true, if_true, if_false, ite_true, ite_false, ↓reduceIte, List.length_cons, List.length_nil, Nat.reduceAdd, Nat.reduceLT, Nat.reduceLeDiff, Nat.reduceEqDiff, Int.reduceAdd, Int.reduceLE, Int.toNat_natCast, Int.reduceToNat, Int.cast_ofNat_Int, true_and, and_true, false_and, and_false, true_implies, forall_const, eq_self, and_self, or_true, true_or, or_self, false_or, or_false, yI_sI, yR_sI, yC_sI, yN_sI, yI_sR, yR_sR, yC_sR, yN_sR, not_true_eq_false, not_false_eq_true, false_implies, implies_true, Nat.zero_add, Nat.add_zero, Nat.le_refl, Nat.reduceSub, Int.reduceSub, Int.reduceLT, Int.sub_zero, Int.sub_self, List.getElem?_toArray, List.getElem?_cons_zero, List.getElem?_cons_succ, Int.toNat_zero, Int.toNat_one, Int.lt_irrefl, yI_sB, yR_sB, yC_sB, yN_sB, MSh_sB_eq, pE_wasSeenBy_0, stp_iload_n, pE_wasSeenBy_1, stp_invokestatic, qmE_47, cy_S_isBuyer, pE_wasSeenBy_4, stp_ifCond_eq, pE_wasSeenBy_7, stp_aload_n, pE_wasSeenBy_8, stp_getfield, qfE_22, rp_11_3, pE_wasSeenBy_11, pE_wasSeenBy_12, qmE_51, cy_S_inSet, pE_wasSeenBy_15, pE_wasSeenBy_18, stp_iconst, pE_wasSeenBy_19, stp_goto, pE_wasSeenBy_22, pE_wasSeenBy_23, stp_ireturn, ic_1, ic_0, nv_E_wasSeenBy, ml_E_wasSeenBy, fsS_isBuyer, hb, hj, ruS_inSet (show i < 32 by omega), hs, c1, lvE_wasSeenBy, lvS_isBuyer, lvS_inSet] <;> simp [bI]
  · cases h
theorem ruE_wasSeenBy {w : Wd} {j : Nat} {b : Int32} (h : j < wC w 11) : fsE_wasSeenBy [.inr (.inr (some (11, j))), .inl b] w = some (some (.inl (bI (inR b 0 4 && btB (wI w 11 j 3) b.toNatClampNeg))), w) := fsP_t h
abbrev lvE_show : Nat := 3
noncomputable def fsE_show : FS := fun as w => match as with
  | [.inr (.inr (some (11, j))), .inl b] => fsP (j < wC w 11 ∧ inR b 0 4 = true) (none, sI w 11 j 3 (wI w 11 j 3 ||| ((1 : Int32) <<< (b &&& 31))))
  | _ => none
set_option maxRecDepth 100000 in
set_option maxHeartbeats 4000000 in
theorem okE_show (l : Launch) (G : Gc) : FsOk l G mE_show lvE_show fsE_show := by
  intro as w r w' h
  simp only [fsE_show] at h
  split at h
  · rename_i j b
    obtain ⟨⟨hj, hb⟩, h⟩ := fsP_s h
    cases h
    refine Sem_of (by decide) rfl (Nat.le_of_ble_eq_true rfl) ?_
    refine wpn_ok (M := mE_show) (C := cenE) (X := (alk [(47, lvS_isBuyer, fsS_isBuyer)])) (tb := tE_show) (st := []) eoE (XOk_cons qmE_47 (okS_isBuyer l G) XOk_nil) kE_show 200 _ _ _ _ _ _ ?_
    simp only [reduceCtorEq, fv0, fv1, fv2, fv3, bI_0, bI_1, bft, MSh_sI_eq, fsP_T, inL_0, inL_s, pad_0, pad_n, pad_s, wpn_s, wp1_s, lg_0, lg_s, lset_0, lset_s, kil_0, kil_s, st1_s, st2_s, isL_i, isL_l, isL_r, isL_n, spl_0, spl_s, cll_n, cll_s, catS_0, catS_s, jmp_s, alk_0, alk_s, otl_n, otl_s, List.nil_append, List.cons_append, List.contains_cons, List.contains_nil, Nat.reduceBEq, Bool.or_false, Bool.false_or, Bool.or_self, Bool.false_eq_true, Bool.true_or, Bool.or_true, if_true, if_false, ite_true, ite_false, ↓reduceIte, List.length_cons, List.length_nil, Nat.reduceAdd, Nat.reduceLT, Nat.reduceLeDiff, Nat.reduceEqDiff, Int.reduceAdd, Int.reduceLE, Int.toNat_natCast, Int.reduceToNat, Int.cast_ofNat_Int, true_and, and_true, false_and, and_false, true_implies, forall_const, eq_self, and_self, or_true, true_or, or_self, false_or, or_false, yI_sI, yR_sI, yC_sI, yN_sI, yI_sR, yR_sR, yC_sR, yN_sR, not_true_eq_false, not_false_eq_true, false_implies, implies_true, Nat.zero_add, Nat.add_zero, Nat.le_refl, Nat.reduceSub, Int.reduceSub, Int.reduceLT, Int.sub_zero, Int.sub_self, List.getElem?_toArray, List.getElem?_cons_zero, List.getElem?_cons_succ, Int.toNat_zero, Int.toNat_one, Int.lt_irrefl, yI_sB, yR_sB, yC_sB, yN_sB, MSh_sB_eq, pE_show_0, stp_iload_n, pE_show_1, stp_invokestatic, qmE_47, cy_S_isBuyer, pE_show_4, stp_ifCond_eq, pE_show_7, stp_aload_n, pE_show_8, stp_dup, pE_show_9, stp_getfield, qfE_22, rp_11_3, pE_show_12, stp_iconst, pE_show_13, pE_show_14, stp_ishl, pE_show_15, stp_ior, pE_show_16, stp_putfield, fi_11_3, nr_11_3, pE_show_19, stp_return_, ic_1, nv_E_show, ml_E_show, fsS_isBuyer, lvS_isBuyer, lvE_show, hj, hb]
  · cases h
abbrev lvE_offer : Nat := 3
def ofW (w : Wd) (j i : Nat) (p : Int32) : Wd := sI (sI (sI w 11 j 2 (wI w 11 j 2 + 1)) 187 j i p) 188 j i (wI w 11 j 2 + 1)
noncomputable def fsE_offer : FS := fun as w => match as with
  | [.inr (.inr (some (11, j))), .inl b, .inl p] => fsP (LtS w j ∧ inR b 0 4 = true) (none, ofW w j b.toNatClampNeg p)
  | _ => none
set_option maxRecDepth 100000 in
set_option maxHeartbeats 4000000 in
theorem okE_offer (l : Launch) (G : Gc) : FsOk l G mE_offer lvE_offer fsE_offer := by
  intro as w r w' h
  simp only [fsE_offer] at h
  split at h
  · rename_i j b p
    obtain ⟨⟨⟨s0, s1, s2, s3, s4, s5, s6, s7, s8⟩, hb⟩, h⟩ := fsP_s h
    cases h
    obtain ⟨i, hi, rfl⟩ := inR_5 hb
    have c1 : (nI i).toNatClampNeg = i := nI_clamp (by omega)
    have v1 : vp_in (nI i) 5 := vp_in_nI (by omega) (by omega)
    refine Sem_of (by decide) rfl (Nat.le_of_ble_eq_true rfl) ?_
    refine wpn_ok (M := mE_offer) (C := cenE) (X := (alk [(47, lvS_isBuyer, fsS_isBuyer)])) (tb := tE_offer) (st := []) eoE (XOk_cons qmE_47 (okS_isBuyer l G) XOk_nil) kE_offer 60 _ _ _ _ _ _ ?_
    simp only [reduceCtorEq, fv0, fv1, fv2, fv3, bI_0, bI_1, bft, MSh_sI_eq, fsP_T, inL_0, inL_s, pad_0, pad_n, pad_s, wpn_s, wp1_s, lg_0, lg_s, lset_0, lset_s, kil_0, kil_s, st1_s, st2_s, isL_i, isL_l, isL_r, isL_n, spl_0, spl_s, cll_n, cll_s, catS_0, catS_s, jmp_s, alk_0, alk_s, otl_n, otl_s, List.nil_append, List.cons_append, List.contains_cons, List.contains_nil, Nat.reduceBEq, Bool.or_false, Bool.false_or, Bool.or_self, Bool.false_eq_true, Bool.true_or, Bool.or_true, if_true, if_false, ite_true, ite_false, ↓reduceIte, List.length_cons, List.length_nil, Nat.reduceAdd, Nat.reduceLT, Nat.reduceLeDiff, Nat.reduceEqDiff, Int.reduceAdd, Int.reduceLE, Int.toNat_natCast, Int.reduceToNat, Int.cast_ofNat_Int, true_and, and_true, false_and, and_false, true_implies, forall_const, eq_self, and_self, or_true, true_or, or_self, false_or, or_false, yI_sI, yR_sI, yC_sI, yN_sI, yI_sR, yR_sR, yC_sR, yN_sR, not_true_eq_false, not_false_eq_true, false_implies, implies_true, Nat.zero_add, Nat.add_zero, Nat.le_refl, Nat.reduceSub, Int.reduceSub, Int.reduceLT, Int.sub_zero, Int.sub_self, List.getElem?_toArray, List.getElem?_cons_zero, List.getElem?_cons_succ, Int.toNat_zero, Int.toNat_one, Int.lt_irrefl, yI_sB, yR_sB, yC_sB, yN_sB, MSh_sB_eq, pE_offer_0, stp_iload_n, pE_offer_1, stp_invokestatic, qmE_47, cy_S_isBuyer, pE_offer_4, stp_ifCond_eq, pE_offer_7, stp_aload_n, pE_offer_8, stp_dup, pE_offer_9, stp_getfield, qfE_18, rp_11_2, pE_offer_12, stp_iconst, pE_offer_13, stp_iadd, pE_offer_14, stp_putfield, fi_11_2, nr_11_2, pE_offer_17, pE_offer_18, qfE_9, rp_11_0, pE_offer_21, pE_offer_22, pE_offer_23, stp_iastore, pE_offer_24, pE_offer_25, qfE_15, rp_11_1, pE_offer_28, pE_offer_29, pE_offer_30, pE_offer_33, pE_offer_34, stp_return_, ic_1, nv_E_offer, ml_E_offer, fsS_isBuyer, hb, s2, s3, s4, s5, s6, s7, s8, v1, c1, ofW, lvE_offer, lvS_isBuyer]
  · cases h
def ofF (w : Wd) (j : Nat) : Nat → Bool := fun i => !decide (wI w 187 j i ≤ 0)
section
variable {l : Launch} {G : Gc} {n : Nat} {Q : Option AV → Wd → Prop} {w : Wd}
set_option maxRecDepth 100000 in
set_option maxHeartbeats 4000000 in
theorem lpE_offers {j : Nat} (hs : LtS w j) (hQ : Q (some (.inl (cntN (ofF w j) 5))) w) : ∀ k i, i + k = 5 → WP l G mE_offers n 0 0 Q 4 [some (.inr (.inr (some (11, j)))), some (.inl (cntN (ofF w j) i)), some (.inl (nI i))] [] w 0 0
  | 0, i, hi => by
    have e : i = 5 := hi
    subst e
    have this : (5 : Int32) ≤ nI 5 := by decide
    refine wpn_ok (M := mE_offers) (C := cenE) (X := (alk [])) (tb := tE_offers) (st := [4]) eoE XOk_nil kE_offers 60 _ _ _ _ _ _ ?_
    simp only [reduceCtorEq, fv0, fv1, fv2, fv3, bI_0, bI_1, bft, MSh_sI_eq, fsP_T, inL_0, inL_s, pad_0, pad_n, pad_s, wpn_s, wp1_s, lg_0, lg_s, lset_0, lset_s, kil_0, kil_s, st1_s, st2_s, isL_i, isL_l, isL_r, isL_n, spl_0, spl_s, cll_n, cll_s, catS_0, catS_s, jmp_s, alk_0, alk_s, otl_n, otl_s, List.nil_append, List.cons_append, List.contains_cons, List.contains_nil, Nat.reduceBEq, Bool.or_false, Bool.false_or, Bool.or_self, Bool.false_eq_true, Bool.true_or, Bool.or_true, if_true, if_false, ite_true, ite_false, ↓reduceIte, List.length_cons, List.length_nil, Nat.reduceAdd, Nat.reduceLT, Nat.reduceLeDiff, Nat.reduceEqDiff, Int.reduceAdd, Int.reduceLE, Int.toNat_natCast, Int.reduceToNat, Int.cast_ofNat_Int, true_and, and_true, false_and, and_false, true_implies, forall_const, eq_self, and_self, or_true, true_or, or_self, false_or, or_false, yI_sI, yR_sI, yC_sI, yN_sI, yI_sR, yR_sR, yC_sR, yN_sR, not_true_eq_false, not_false_eq_true, false_implies, implies_true, Nat.zero_add, Nat.add_zero, Nat.le_refl, Nat.reduceSub, Int.reduceSub, Int.reduceLT, Int.sub_zero, Int.sub_self, List.getElem?_toArray, List.getElem?_cons_zero, List.getElem?_cons_succ, Int.toNat_zero, Int.toNat_one, Int.lt_irrefl, yI_sB, yR_sB, yC_sB, yN_sB, MSh_sB_eq, pE_offers_0, stp_iconst, pE_offers_1, stp_istore_n, pE_offers_2, pE_offers_3, pE_offers_4, stp_iload_n, pE_offers_5, pE_offers_6, stp_if_icmp_ge, pE_offers_9, pE_offers_10, stp_aload_n, pE_offers_11, stp_getfield, qfE_9, rp_11_0, pE_offers_14, pE_offers_15, stp_iaload, pE_offers_16, stp_ifCond_le, pE_offers_19, pE_offers_20, stp_goto, pE_offers_23, pE_offers_24, stp_iadd, pE_offers_25, pE_offers_26, stp_iinc, pE_offers_29, pE_offers_32, pE_offers_33, stp_ireturn, ic_0, ic_5, ic_1, nv_E_offers, ml_E_offers, this]
    exact hQ
  | k + 1, i, hi => by
    have ih := lpE_offers hs hQ k (i + 1) (by omega)
    obtain ⟨s0, s1, s2, s3, s4, s5, s6, s7, s8⟩ := id hs
    have h1 : ¬ (5 : Int32) ≤ nI i := nI_ge (b := 5) (by omega) (by omega)
    have v1 : vp_in (nI i) 5 := vp_in_nI (by omega) (by omega)
    have c1 : (nI i).toNatClampNeg = i := nI_clamp (by omega)
    refine wpn_ok (M := mE_offers) (C := cenE) (X := (alk [])) (tb := tE_offers) (st := [4]) eoE XOk_nil kE_offers 60 _ _ _ _ _ _ ?_
    by_cases q : wI w 187 j i ≤ 0
    · simp only [cntN, ofF, q, decide_true, Bool.not_true, show bI false = 0 from rfl] at ih
      simp only [reduceCtorEq, fv0, fv1, fv2, fv3, bI_0, bI_1, bft, MSh_sI_eq, fsP_T, inL_0, inL_s, pad_0, pad_n, pad_s, wpn_s, wp1_s, lg_0, lg_s, lset_0, lset_s, kil_0, kil_s, st1_s, st2_s, isL_i, isL_l, isL_r, isL_n, spl_0, spl_s, cll_n, cll_s, catS_0, catS_s, jmp_s, alk_0, alk_s, otl_n, otl_s, List.nil_append, List.cons_append, List.contains_cons, List.contains_nil, Nat.reduceBEq, Bool.or_false, Bool.false_or, Bool.or_self, Bool.false_eq_true, Bool.true_or, Bool.or_true, if_true, if_false, ite_true, ite_false, ↓reduceIte, List.length_cons, List.length_nil, Nat.reduceAdd, Nat.reduceLT, Nat.reduceLeDiff, Nat.reduceEqDiff, Int.reduceAdd, Int.reduceLE, Int.toNat_natCast, Int.reduceToNat, Int.cast_ofNat_Int, true_and, and_true, false_and, and_false, true_implies, forall_const, eq_self, and_self, or_true, true_or, or_self, false_or, or_false, yI_sI, yR_sI, yC_sI, yN_sI, yI_sR, yR_sR, yC_sR, yN_sR, not_true_eq_false, not_false_eq_true, false_implies, implies_true, Nat.zero_add, Nat.add_zero, Nat.le_refl, Nat.reduceSub, Int.reduceSub, Int.reduceLT, Int.sub_zero, Int.sub_self, List.getElem?_toArray, List.getElem?_cons_zero, List.getElem?_cons_succ, Int.toNat_zero, Int.toNat_one, Int.lt_irrefl, yI_sB, yR_sB, yC_sB, yN_sB, MSh_sB_eq, pE_offers_0, stp_iconst, pE_offers_1, stp_istore_n, pE_offers_2, pE_offers_3, pE_offers_4, stp_iload_n, pE_offers_5, pE_offers_6, stp_if_icmp_ge, pE_offers_9, pE_offers_10, stp_aload_n, pE_offers_11, stp_getfield, qfE_9, rp_11_0, pE_offers_14, pE_offers_15, stp_iaload, pE_offers_16, stp_ifCond_le, pE_offers_19, pE_offers_20, stp_goto, pE_offers_23, pE_offers_24, stp_iadd, pE_offers_25, pE_offers_26, stp_iinc, pE_offers_29, pE_offers_32, pE_offers_33, stp_ireturn, ic_0, ic_5, ic_1, nv_E_offers, ml_E_offers, h1, s2, s3, s5, s6, v1, c1, q, nI_1]
      exact ih
    · simp only [cntN, ofF, q, decide_false, Bool.not_false, show bI true = 1 from rfl] at ih
      simp only [reduceCtorEq, fv0, fv1, fv2, fv3, bI_0, bI_1, bft, MSh_sI_eq, fsP_T, inL_0, inL_s, pad_0, pad_n, pad_s, wpn_s, wp1_s, lg_0, lg_s, lset_0, lset_s, kil_0, kil_s, st1_s, st2_s, isL_i, isL_l, isL_r, isL_n, spl_0, spl_s, cll_n, cll_s, catS_0, catS_s, jmp_s, alk_0, alk_s, otl_n, otl_s, List.nil_append, List.cons_append, List.contains_cons, List.contains_nil, Nat.reduceBEq, Bool.or_false, Bool.false_or, Bool.or_self, Bool.false_eq_true, Bool.true_or, Bool.or_true, if_true, if_false, ite_true, ite_false, ↓reduceIte, List.length_cons, List.length_nil, Nat.reduceAdd, Nat.reduceLT, Nat.reduceLeDiff, Nat.reduceEqDiff, Int.reduceAdd, Int.reduceLE, Int.toNat_natCast, Int.reduceToNat, Int.cast_ofNat_Int, true_and, and_true, false_and, and_false, true_implies, forall_const, eq_self, and_self, or_true, true_or, or_self, false_or, or_false, yI_sI, yR_sI, yC_sI, yN_sI, yI_sR, yR_sR, yC_sR, yN_sR, not_true_eq_false, not_false_eq_true, false_implies, implies_true, Nat.zero_add, Nat.add_zero, Nat.le_refl, Nat.reduceSub, Int.reduceSub, Int.reduceLT, Int.sub_zero, Int.sub_self, List.getElem?_toArray, List.getElem?_cons_zero, List.getElem?_cons_succ, Int.toNat_zero, Int.toNat_one, Int.lt_irrefl, yI_sB, yR_sB, yC_sB, yN_sB, MSh_sB_eq, pE_offers_0, stp_iconst, pE_offers_1, stp_istore_n, pE_offers_2, pE_offers_3, pE_offers_4, stp_iload_n, pE_offers_5, pE_offers_6, stp_if_icmp_ge, pE_offers_9, pE_offers_10, stp_aload_n, pE_offers_11, stp_getfield, qfE_9, rp_11_0, pE_offers_14, pE_offers_15, stp_iaload, pE_offers_16, stp_ifCond_le, pE_offers_19, pE_offers_20, stp_goto, pE_offers_23, pE_offers_24, stp_iadd, pE_offers_25, pE_offers_26, stp_iinc, pE_offers_29, pE_offers_32, pE_offers_33, stp_ireturn, ic_0, ic_5, ic_1, nv_E_offers, ml_E_offers, h1, s2, s3, s5, s6, v1, c1, q, nI_1]
      exact ih
end
abbrev lvE_offers : Nat := 1
noncomputable def fsE_offers : FS := fun as w => match as with
  | [.inr (.inr (some (11, j)))] => fsP (LtS w j) (some (.inl (cntN (ofF w j) 5)), w)
  | _ => none
set_option maxRecDepth 100000 in
set_option maxHeartbeats 4000000 in
theorem okE_offers (l : Launch) (G : Gc) : FsOk l G mE_offers lvE_offers fsE_offers := by
  intro as w r w' h
  simp only [fsE_offers] at h
  split at h
  · rename_i j
    obtain ⟨hs, h⟩ := fsP_s h
    cases h
    refine Sem_of (by decide) rfl (Nat.le_of_ble_eq_true rfl) ?_
    refine wpn_ok (M := mE_offers) (C := cenE) (X := (alk [])) (tb := tE_offers) (st := [4]) eoE XOk_nil kE_offers 60 _ _ _ _ _ _ ?_
    simp only [reduceCtorEq, fv0, fv1, fv2, fv3, bI_0, bI_1, bft, MSh_sI_eq, fsP_T, inL_0, inL_s, pad_0, pad_n, pad_s, wpn_s, wp1_s, lg_0, lg_s, lset_0, lset_s, kil_0, kil_s, st1_s, st2_s, isL_i, isL_l, isL_r, isL_n, spl_0, spl_s, cll_n, cll_s, catS_0, catS_s, jmp_s, alk_0, alk_s, otl_n, otl_s, List.nil_append, List.cons_append, List.contains_cons, List.contains_nil, Nat.reduceBEq, Bool.or_false, Bool.false_or, Bool.or_self, Bool.false_eq_true, Bool.true_or, Bool.or_true, if_true, if_false, ite_true, ite_false, ↓reduceIte, List.length_cons, List.length_nil, Nat.reduceAdd, Nat.reduceLT, Nat.reduceLeDiff, Nat.reduceEqDiff, Int.reduceAdd, Int.reduceLE, Int.toNat_natCast, Int.reduceToNat, Int.cast_ofNat_Int, true_and, and_true, false_and, and_false, true_implies, forall_const, eq_self, and_self, or_true, true_or, or_self, false_or, or_false, yI_sI, yR_sI, yC_sI, yN_sI, yI_sR, yR_sR, yC_sR, yN_sR, not_true_eq_false, not_false_eq_true, false_implies, implies_true, Nat.zero_add, Nat.add_zero, Nat.le_refl, Nat.reduceSub, Int.reduceSub, Int.reduceLT, Int.sub_zero, Int.sub_self, List.getElem?_toArray, List.getElem?_cons_zero, List.getElem?_cons_succ, Int.toNat_zero, Int.toNat_one, Int.lt_irrefl, yI_sB, yR_sB, yC_sB, yN_sB, MSh_sB_eq, pE_offers_0, stp_iconst, pE_offers_1, stp_istore_n, pE_offers_2, pE_offers_3, pE_offers_4, stp_iload_n, pE_offers_5, pE_offers_6, stp_if_icmp_ge, pE_offers_9, pE_offers_10, stp_aload_n, pE_offers_11, stp_getfield, qfE_9, rp_11_0, pE_offers_14, pE_offers_15, stp_iaload, pE_offers_16, stp_ifCond_le, pE_offers_19, pE_offers_20, stp_goto, pE_offers_23, pE_offers_24, stp_iadd, pE_offers_25, pE_offers_26, stp_iinc, pE_offers_29, pE_offers_32, pE_offers_33, stp_ireturn, ic_0, ic_5, ic_1, nv_E_offers, ml_E_offers]
    exact lpE_offers hs ⟨rfl, rfl⟩ 5 0 (by omega)
  · cases h
theorem ruE_offers {w : Wd} {j : Nat} (h : LtS w j) : fsE_offers [.inr (.inr (some (11, j)))] w = some (some (.inl (cntN (ofF w j) 5)), w) := fsP_t h
/-- the best offer of the first so many -/
def clN (w : Wd) (j : Nat) : Nat → Nat
  | 0 => 0
  | i + 1 => if wI w 187 j (clN w j i) < wI w 187 j i ∨ (wI w 187 j i = wI w 187 j (clN w j i) ∧ wI w 188 j i < wI w 188 j (clN w j i)) then i else clN w j i
theorem clN_lt {w : Wd} {j : Nat} : ∀ i, clN w j i ≤ i
  | 0 => Nat.le_refl _
  | i + 1 => by
    have := clN_lt (w := w) (j := j) i
    simp only [clN]; split <;> omega
theorem clN_s {w : Wd} {j : Nat} (i : Nat) : clN w j (i + 1) ≤ i := by
  have := clN_lt (w := w) (j := j) i
  simp only [clN]; split <;> omega
theorem clN_1 (w : Wd) (j : Nat) : clN w j 1 = 0 := by simp [clN]
section
variable {l : Launch} {G : Gc} {n : Nat} {Q : Option AV → Wd → Prop} {w : Wd}
set_option maxRecDepth 100000 in
set_option maxHeartbeats 4000000 in
theorem stE_close {j i : Nat} {l3 : Option AV} (hs : LtS w j) (hi : i < 5) (ih : ∀ l3, WP l G mE_close n 0 0 Q 4 [some (.inr (.inr (some (11, j)))), some (.inl (nI (clN w j (i + 1)))), some (.inl (nI (i + 1))), l3] [] w 0 0) : WP l G mE_close n 0 0 Q 4 [some (.inr (.inr (some (11, j)))), some (.inl (nI (clN w j i))), some (.inl (nI i)), l3] [] w 0 0 := by
  obtain ⟨s0, s1, s2, s3, s4, s5, s6, s7, s8⟩ := id hs
  have hb := clN_lt (w := w) (j := j) i
  have h1 : ¬ (5 : Int32) ≤ nI i := nI_ge (b := 5) (by omega) (by omega)
  have v1 : vp_in (nI i) 5 := vp_in_nI (by omega) (by omega)
  have c1 : (nI i).toNatClampNeg = i := nI_clamp (by omega)
  have v2 : vp_in (nI (clN w j i)) 5 := vp_in_nI (by omega) (by omega)
  have c2 : (nI (clN w j i)).toNatClampNeg = clN w j i := nI_clamp (by omega)
  refine wpn_ok (M := mE_close) (C := cenE) (X := (alk [])) (tb := tE_close) (st := [4]) eoE XOk_nil kE_close 80 _ _ _ _ _ _ ?_
  by_cases q1 : wI w 187 j i = wI w 187 j (clN w j i)
  · have q0 : ¬ wI w 187 j (clN w j i) < wI w 187 j (clN w j i) := fun z => Int32.lt_irrefl z
    by_cases q2 : wI w 188 j (clN w j i) ≤ wI w 188 j i
    · have ih := ih (some (.inl 0))
      have q3 : ¬ wI w 188 j i < wI w 188 j (clN w j i) := Int32.not_lt.mpr q2
      simp only [clN, q1, q0, q3, and_false, or_self, if_false] at ih
      simp only [reduceCtorEq, fv0, fv1, fv2, fv3, bI_0, bI_1, bft, MSh_sI_eq, fsP_T, inL_0, inL_s, pad_0, pad_n, pad_s, wpn_s, wp1_s, lg_0, lg_s, lset_0, lset_s, kil_0, kil_s, st1_s, st2_s, isL_i, isL_l, isL_r, isL_n, spl_0, spl_s, cll_n, cll_s, catS_0, catS_s, jmp_s, alk_0, alk_s, otl_n, otl_s, List.nil_append, List.cons_append, List.contains_cons, List.contains_nil, Nat.reduceBEq, Bool.or_false, Bool.false_or, Bool.or_self, Bool.false_eq_true, Bool.true_or, Bool.or_true, if_true, if_false, ite_true, ite_false, ↓reduceIte, List.length_cons, List.length_nil, Nat.reduceAdd, Nat.reduceLT, Nat.reduceLeDiff, Nat.reduceEqDiff, Int.reduceAdd, Int.reduceLE, Int.toNat_natCast, Int.reduceToNat, Int.cast_ofNat_Int, true_and, and_true, false_and, and_false, true_implies, forall_const, eq_self, and_self, or_true, true_or, or_self, false_or, or_false, yI_sI, yR_sI, yC_sI, yN_sI, yI_sR, yR_sR, yC_sR, yN_sR, not_true_eq_false, not_false_eq_true, false_implies, implies_true, Nat.zero_add, Nat.add_zero, Nat.le_refl, Nat.reduceSub, Int.reduceSub, Int.reduceLT, Int.sub_zero, Int.sub_self, List.getElem?_toArray, List.getElem?_cons_zero, List.getElem?_cons_succ, Int.toNat_zero, Int.toNat_one, Int.lt_irrefl, yI_sB, yR_sB, yC_sB, yN_sB, MSh_sB_eq, pE_close_0, stp_iconst, pE_close_1, stp_istore_n, pE_close_2, pE_close_3, pE_close_4, stp_iload_n, pE_close_5, pE_close_6, stp_if_icmp_ge, pE_close_9, stp_aload_n, pE_close_10, stp_getfield, qfE_9, rp_11_0, pE_close_13, pE_close_14, stp_iaload, pE_close_15, pE_close_16, pE_close_19, pE_close_20, pE_close_21, stp_if_icmp_ne, pE_close_24, pE_close_25, qfE_15, rp_11_1, pE_close_28, pE_close_29, pE_close_30, pE_close_31, pE_close_34, pE_close_35, pE_close_36, pE_close_39, pE_close_40, stp_goto, pE_close_43, pE_close_44, pE_close_45, pE_close_46, pE_close_49, pE_close_50, pE_close_51, pE_close_52, pE_close_55, pE_close_56, pE_close_57, stp_if_icmp_gt, pE_close_60, pE_close_61, stp_ifCond_eq, pE_close_64, pE_close_65, pE_close_66, stp_iinc, pE_close_69, pE_close_72, pE_close_73, pE_close_74, stp_putfield, qfE_34, rp_11_7, fi_11_7, nr_11_7, pE_close_77, pE_close_78, pE_close_79, pE_close_82, pE_close_83, pE_close_84, qfE_25, rp_11_4, fi_11_4, nr_11_4, pE_close_87, stp_return_, ic_0, ic_1, ic_5, nv_E_close, ml_E_close, h1, s2, s3, s4, s5, s6, s7, s8, v1, c1, v2, c2, q1, q2, q0, nI_1]
      exact ih
    · have ih := ih (some (.inl 1))
      have q3 : wI w 188 j i < wI w 188 j (clN w j i) := Int32.not_le.mp q2
      simp only [clN, q1, q0, q3, and_self, or_true, if_true] at ih
      simp only [reduceCtorEq, fv0, fv1, fv2, fv3, bI_0, bI_1, bft, MSh_sI_eq, fsP_T, inL_0, inL_s, pad_0, pad_n, pad_s, wpn_s, wp1_s, lg_0, lg_s, lset_0, lset_s, kil_0, kil_s, st1_s, st2_s, isL_i, isL_l, isL_r, isL_n, spl_0, spl_s, cll_n, cll_s, catS_0, catS_s, jmp_s, alk_0, alk_s, otl_n, otl_s, List.nil_append, List.cons_append, List.contains_cons, List.contains_nil, Nat.reduceBEq, Bool.or_false, Bool.false_or, Bool.or_self, Bool.false_eq_true, Bool.true_or, Bool.or_true, if_true, if_false, ite_true, ite_false, ↓reduceIte, List.length_cons, List.length_nil, Nat.reduceAdd, Nat.reduceLT, Nat.reduceLeDiff, Nat.reduceEqDiff, Int.reduceAdd, Int.reduceLE, Int.toNat_natCast, Int.reduceToNat, Int.cast_ofNat_Int, true_and, and_true, false_and, and_false, true_implies, forall_const, eq_self, and_self, or_true, true_or, or_self, false_or, or_false, yI_sI, yR_sI, yC_sI, yN_sI, yI_sR, yR_sR, yC_sR, yN_sR, not_true_eq_false, not_false_eq_true, false_implies, implies_true, Nat.zero_add, Nat.add_zero, Nat.le_refl, Nat.reduceSub, Int.reduceSub, Int.reduceLT, Int.sub_zero, Int.sub_self, List.getElem?_toArray, List.getElem?_cons_zero, List.getElem?_cons_succ, Int.toNat_zero, Int.toNat_one, Int.lt_irrefl, yI_sB, yR_sB, yC_sB, yN_sB, MSh_sB_eq, pE_close_0, stp_iconst, pE_close_1, stp_istore_n, pE_close_2, pE_close_3, pE_close_4, stp_iload_n, pE_close_5, pE_close_6, stp_if_icmp_ge, pE_close_9, stp_aload_n, pE_close_10, stp_getfield, qfE_9, rp_11_0, pE_close_13, pE_close_14, stp_iaload, pE_close_15, pE_close_16, pE_close_19, pE_close_20, pE_close_21, stp_if_icmp_ne, pE_close_24, pE_close_25, qfE_15, rp_11_1, pE_close_28, pE_close_29, pE_close_30, pE_close_31, pE_close_34, pE_close_35, pE_close_36, pE_close_39, pE_close_40, stp_goto, pE_close_43, pE_close_44, pE_close_45, pE_close_46, pE_close_49, pE_close_50, pE_close_51, pE_close_52, pE_close_55, pE_close_56, pE_close_57, stp_if_icmp_gt, pE_close_60, pE_close_61, stp_ifCond_eq, pE_close_64, pE_close_65, pE_close_66, stp_iinc, pE_close_69, pE_close_72, pE_close_73, pE_close_74, stp_putfield, qfE_34, rp_11_7, fi_11_7, nr_11_7, pE_close_77, pE_close_78, pE_close_79, pE_close_82, pE_close_83, pE_close_84, qfE_25, rp_11_4, fi_11_4, nr_11_4, pE_close_87, stp_return_, ic_0, ic_1, ic_5, nv_E_close, ml_E_close, h1, s2, s3, s4, s5, s6, s7, s8, v1, c1, v2, c2, q1, q2, q0, nI_1, show ¬ (1 : Int32) = 0 by decide]
      exact ih
  · have ih := ih (some (.inl 0))
    by_cases q2 : wI w 187 j (clN w j i) < wI w 187 j i
    · simp only [clN, q2, true_or, if_true] at ih
      simp only [reduceCtorEq, fv0, fv1, fv2, fv3, bI_0, bI_1, bft, MSh_sI_eq, fsP_T, inL_0, inL_s, pad_0, pad_n, pad_s, wpn_s, wp1_s, lg_0, lg_s, lset_0, lset_s, kil_0, kil_s, st1_s, st2_s, isL_i, isL_l, isL_r, isL_n, spl_0, spl_s, cll_n, cll_s, catS_0, catS_s, jmp_s, alk_0, alk_s, otl_n, otl_s, List.nil_append, List.cons_append, List.contains_cons, List.contains_nil, Nat.reduceBEq, Bool.or_false, Bool.false_or, Bool.or_self, Bool.false_eq_true, Bool.true_or, Bool.or_true, if_true, if_false, ite_true, ite_false, ↓reduceIte, List.length_cons, List.length_nil, Nat.reduceAdd, Nat.reduceLT, Nat.reduceLeDiff, Nat.reduceEqDiff, Int.reduceAdd, Int.reduceLE, Int.toNat_natCast, Int.reduceToNat, Int.cast_ofNat_Int, true_and, and_true, false_and, and_false, true_implies, forall_const, eq_self, and_self, or_true, true_or, or_self, false_or, or_false, yI_sI, yR_sI, yC_sI, yN_sI, yI_sR, yR_sR, yC_sR, yN_sR, not_true_eq_false, not_false_eq_true, false_implies, implies_true, Nat.zero_add, Nat.add_zero, Nat.le_refl, Nat.reduceSub, Int.reduceSub, Int.reduceLT, Int.sub_zero, Int.sub_self, List.getElem?_toArray, List.getElem?_cons_zero, List.getElem?_cons_succ, Int.toNat_zero, Int.toNat_one, Int.lt_irrefl, yI_sB, yR_sB, yC_sB, yN_sB, MSh_sB_eq, pE_close_0, stp_iconst, pE_close_1, stp_istore_n, pE_close_2, pE_close_3, pE_close_4, stp_iload_n, pE_close_5, pE_close_6, stp_if_icmp_ge, pE_close_9, stp_aload_n, pE_close_10, stp_getfield, qfE_9, rp_11_0, pE_close_13, pE_close_14, stp_iaload, pE_close_15, pE_close_16, pE_close_19, pE_close_20, pE_close_21, stp_if_icmp_ne, pE_close_24, pE_close_25, qfE_15, rp_11_1, pE_close_28, pE_close_29, pE_close_30, pE_close_31, pE_close_34, pE_close_35, pE_close_36, pE_close_39, pE_close_40, stp_goto, pE_close_43, pE_close_44, pE_close_45, pE_close_46, pE_close_49, pE_close_50, pE_close_51, pE_close_52, pE_close_55, pE_close_56, pE_close_57, stp_if_icmp_gt, pE_close_60, pE_close_61, stp_ifCond_eq, pE_close_64, pE_close_65, pE_close_66, stp_iinc, pE_close_69, pE_close_72, pE_close_73, pE_close_74, stp_putfield, qfE_34, rp_11_7, fi_11_7, nr_11_7, pE_close_77, pE_close_78, pE_close_79, pE_close_82, pE_close_83, pE_close_84, qfE_25, rp_11_4, fi_11_4, nr_11_4, pE_close_87, stp_return_, ic_0, ic_1, ic_5, nv_E_close, ml_E_close, h1, s2, s3, s4, s5, s6, s7, s8, v1, c1, v2, c2, q1, q2, nI_1]
      exact ih
    · simp only [clN, q1, q2, false_and, or_self, if_false] at ih
      simp only [reduceCtorEq, fv0, fv1, fv2, fv3, bI_0, bI_1, bft, MSh_sI_eq, fsP_T, inL_0, inL_s, pad_0, pad_n, pad_s, wpn_s, wp1_s, lg_0, lg_s, lset_0, lset_s, kil_0, kil_s, st1_s, st2_s, isL_i, isL_l, isL_r, isL_n, spl_0, spl_s, cll_n, cll_s, catS_0, catS_s, jmp_s, alk_0, alk_s, otl_n, otl_s, List.nil_append, List.cons_append, List.contains_cons, List.contains_nil, Nat.reduceBEq, Bool.or_false, Bool.false_or, Bool.or_self, Bool.false_eq_true, Bool.true_or, Bool.or_true, if_true, if_false, ite_true, ite_false, ↓reduceIte, List.length_cons, List.length_nil, Nat.reduceAdd, Nat.reduceLT, Nat.reduceLeDiff, Nat.reduceEqDiff, Int.reduceAdd, Int.reduceLE, Int.toNat_natCast, Int.reduceToNat, Int.cast_ofNat_Int, true_and, and_true, false_and, and_false, true_implies, forall_const, eq_self, and_self, or_true, true_or, or_self, false_or, or_false, yI_sI, yR_sI, yC_sI, yN_sI, yI_sR, yR_sR, yC_sR, yN_sR, not_true_eq_false, not_false_eq_true, false_implies, implies_true, Nat.zero_add, Nat.add_zero, Nat.le_refl, Nat.reduceSub, Int.reduceSub, Int.reduceLT, Int.sub_zero, Int.sub_self, List.getElem?_toArray, List.getElem?_cons_zero, List.getElem?_cons_succ, Int.toNat_zero, Int.toNat_one, Int.lt_irrefl, yI_sB, yR_sB, yC_sB, yN_sB, MSh_sB_eq, pE_close_0, stp_iconst, pE_close_1, stp_istore_n, pE_close_2, pE_close_3, pE_close_4, stp_iload_n, pE_close_5, pE_close_6, stp_if_icmp_ge, pE_close_9, stp_aload_n, pE_close_10, stp_getfield, qfE_9, rp_11_0, pE_close_13, pE_close_14, stp_iaload, pE_close_15, pE_close_16, pE_close_19, pE_close_20, pE_close_21, stp_if_icmp_ne, pE_close_24, pE_close_25, qfE_15, rp_11_1, pE_close_28, pE_close_29, pE_close_30, pE_close_31, pE_close_34, pE_close_35, pE_close_36, pE_close_39, pE_close_40, stp_goto, pE_close_43, pE_close_44, pE_close_45, pE_close_46, pE_close_49, pE_close_50, pE_close_51, pE_close_52, pE_close_55, pE_close_56, pE_close_57, stp_if_icmp_gt, pE_close_60, pE_close_61, stp_ifCond_eq, pE_close_64, pE_close_65, pE_close_66, stp_iinc, pE_close_69, pE_close_72, pE_close_73, pE_close_74, stp_putfield, qfE_34, rp_11_7, fi_11_7, nr_11_7, pE_close_77, pE_close_78, pE_close_79, pE_close_82, pE_close_83, pE_close_84, qfE_25, rp_11_4, fi_11_4, nr_11_4, pE_close_87, stp_return_, ic_0, ic_1, ic_5, nv_E_close, ml_E_close, h1, s2, s3, s4, s5, s6, s7, s8, v1, c1, v2, c2, q1, q2, nI_1]
      exact ih
set_option maxRecDepth 100000 in
set_option maxHeartbeats 4000000 in
theorem lpE_close {j : Nat} (hs : LtS w j) (hQ : Q none (sI (sI w 11 j 7 (nI (clN w j 5))) 11 j 4 (wI w 187 j (clN w j 5)))) : ∀ k i l3, i + k = 5 → WP l G mE_close n 0 0 Q 4 [some (.inr (.inr (some (11, j)))), some (.inl (nI (clN w j i))), some (.inl (nI i)), l3] [] w 0 0
  | 0, i, l3, hi => by
    have e : i = 5 := hi
    subst e
    obtain ⟨s0, s1, s2, s3, s4, s5, s6, s7, s8⟩ := id hs
    have hb : clN w j 5 ≤ 4 := clN_s 4
    have this : (5 : Int32) ≤ nI 5 := by decide
    have v2 : vp_in (nI (clN w j 5)) 5 := vp_in_nI (by omega) (by omega)
    have c2 : (nI (clN w j 5)).toNatClampNeg = clN w j 5 := nI_clamp (by omega)
    refine wpn_ok (M := mE_close) (C := cenE) (X := (alk [])) (tb := tE_close) (st := [4]) eoE XOk_nil kE_close 60 _ _ _ _ _ _ ?_
    simp only [reduceCtorEq, fv0, fv1, fv2, fv3, bI_0, bI_1, bft, MSh_sI_eq, fsP_T, inL_0, inL_s, pad_0, pad_n, pad_s, wpn_s, wp1_s, lg_0, lg_s, lset_0, lset_s, kil_0, kil_s, st1_s, st2_s, isL_i, isL_l, isL_r, isL_n, spl_0, spl_s, cll_n, cll_s, catS_0, catS_s, jmp_s, alk_0, alk_s, otl_n, otl_s, List.nil_append, List.cons_append, List.contains_cons, List.contains_nil, Nat.reduceBEq, Bool.or_false, Bool.false_or, Bool.or_self, Bool.false_eq_true, Bool.true_or, Bool.or_true, if_true, if_false, ite_true, ite_false, ↓reduceIte, List.length_cons, List.length_nil, Nat.reduceAdd, Nat.reduceLT, Nat.reduceLeDiff, Nat.reduceEqDiff, Int.reduceAdd, Int.reduceLE, Int.toNat_natCast, Int.reduceToNat, Int.cast_ofNat_Int, true_and, and_true, false_and, and_false, true_implies, forall_const, eq_self, and_self, or_true, true_or, or_self, false_or, or_false, yI_sI, yR_sI, yC_sI, yN_sI, yI_sR, yR_sR, yC_sR, yN_sR, not_true_eq_false, not_false_eq_true, false_implies, implies_true, Nat.zero_add, Nat.add_zero, Nat.le_refl, Nat.reduceSub, Int.reduceSub, Int.reduceLT, Int.sub_zero, Int.sub_self, List.getElem?_toArray, List.getElem?_cons_zero, List.getElem?_cons_succ, Int.toNat_zero, Int.toNat_one, Int.lt_irrefl, yI_sB, yR_sB, yC_sB, yN_sB, MSh_sB_eq, pE_close_0, stp_iconst, pE_close_1, stp_istore_n, pE_close_2, pE_close_3, pE_close_4, stp_iload_n, pE_close_5, pE_close_6, stp_if_icmp_ge, pE_close_9, stp_aload_n, pE_close_10, stp_getfield, qfE_9, rp_11_0, pE_close_13, pE_close_14, stp_iaload, pE_close_15, pE_close_16, pE_close_19, pE_close_20, pE_close_21, stp_if_icmp_ne, pE_close_24, pE_close_25, qfE_15, rp_11_1, pE_close_28, pE_close_29, pE_close_30, pE_close_31, pE_close_34, pE_close_35, pE_close_36, pE_close_39, pE_close_40, stp_goto, pE_close_43, pE_close_44, pE_close_45, pE_close_46, pE_close_49, pE_close_50, pE_close_51, pE_close_52, pE_close_55, pE_close_56, pE_close_57, stp_if_icmp_gt, pE_close_60, pE_close_61, stp_ifCond_eq, pE_close_64, pE_close_65, pE_close_66, stp_iinc, pE_close_69, pE_close_72, pE_close_73, pE_close_74, stp_putfield, qfE_34, rp_11_7, fi_11_7, nr_11_7, pE_close_77, pE_close_78, pE_close_79, pE_close_82, pE_close_83, pE_close_84, qfE_25, rp_11_4, fi_11_4, nr_11_4, pE_close_87, stp_return_, ic_0, ic_1, ic_5, nv_E_close, ml_E_close, this, s2, s3, s5, s6, v2, c2]
    exact hQ
  | k + 1, i, l3, hi => stE_close hs (by omega) (fun l3' => lpE_close hs hQ k (i + 1) l3' (by omega))
end
abbrev lvE_close : Nat := 1
noncomputable def fsE_close : FS := fun as w => match as with
  | [.inr (.inr (some (11, j)))] => fsP (LtS w j) (none, sI (sI w 11 j 7 (nI (clN w j 5))) 11 j 4 (wI w 187 j (clN w j 5)))
  | _ => none
set_option maxRecDepth 100000 in
set_option maxHeartbeats 4000000 in
theorem okE_close (l : Launch) (G : Gc) : FsOk l G mE_close lvE_close fsE_close := by
  intro as w r w' h
  simp only [fsE_close] at h
  split at h
  · rename_i j
    obtain ⟨hs, h⟩ := fsP_s h
    cases h
    refine Sem_of (by decide) rfl (Nat.le_of_ble_eq_true rfl) ?_
    refine wpn_ok (M := mE_close) (C := cenE) (X := (alk [])) (tb := tE_close) (st := [4]) eoE XOk_nil kE_close 60 _ _ _ _ _ _ ?_
    simp only [reduceCtorEq, fv0, fv1, fv2, fv3, bI_0, bI_1, bft, MSh_sI_eq, fsP_T, inL_0, inL_s, pad_0, pad_n, pad_s, wpn_s, wp1_s, lg_0, lg_s, lset_0, lset_s, kil_0, kil_s, st1_s, st2_s, isL_i, isL_l, isL_r, isL_n, spl_0, spl_s, cll_n, cll_s, catS_0, catS_s, jmp_s, alk_0, alk_s, otl_n, otl_s, List.nil_append, List.cons_append, List.contains_cons, List.contains_nil, Nat.reduceBEq, Bool.or_false, Bool.false_or, Bool.or_self, Bool.false_eq_true, Bool.true_or, Bool.or_true, if_true, if_false, ite_true, ite_false, ↓reduceIte, List.length_cons, List.length_nil, Nat.reduceAdd, Nat.reduceLT, Nat.reduceLeDiff, Nat.reduceEqDiff, Int.reduceAdd, Int.reduceLE, Int.toNat_natCast, Int.reduceToNat, Int.cast_ofNat_Int, true_and, and_true, false_and, and_false, true_implies, forall_const, eq_self, and_self, or_true, true_or, or_self, false_or, or_false, yI_sI, yR_sI, yC_sI, yN_sI, yI_sR, yR_sR, yC_sR, yN_sR, not_true_eq_false, not_false_eq_true, false_implies, implies_true, Nat.zero_add, Nat.add_zero, Nat.le_refl, Nat.reduceSub, Int.reduceSub, Int.reduceLT, Int.sub_zero, Int.sub_self, List.getElem?_toArray, List.getElem?_cons_zero, List.getElem?_cons_succ, Int.toNat_zero, Int.toNat_one, Int.lt_irrefl, yI_sB, yR_sB, yC_sB, yN_sB, MSh_sB_eq, pE_close_0, stp_iconst, pE_close_1, stp_istore_n, pE_close_2, pE_close_3, pE_close_4, stp_iload_n, pE_close_5, pE_close_6, stp_if_icmp_ge, pE_close_9, stp_aload_n, pE_close_10, stp_getfield, qfE_9, rp_11_0, pE_close_13, pE_close_14, stp_iaload, pE_close_15, pE_close_16, pE_close_19, pE_close_20, pE_close_21, stp_if_icmp_ne, pE_close_24, pE_close_25, qfE_15, rp_11_1, pE_close_28, pE_close_29, pE_close_30, pE_close_31, pE_close_34, pE_close_35, pE_close_36, pE_close_39, pE_close_40, stp_goto, pE_close_43, pE_close_44, pE_close_45, pE_close_46, pE_close_49, pE_close_50, pE_close_51, pE_close_52, pE_close_55, pE_close_56, pE_close_57, stp_if_icmp_gt, pE_close_60, pE_close_61, stp_ifCond_eq, pE_close_64, pE_close_65, pE_close_66, stp_iinc, pE_close_69, pE_close_72, pE_close_73, pE_close_74, stp_putfield, qfE_34, rp_11_7, fi_11_7, nr_11_7, pE_close_77, pE_close_78, pE_close_79, pE_close_82, pE_close_83, pE_close_84, qfE_25, rp_11_4, fi_11_4, nr_11_4, pE_close_87, stp_return_, ic_0, ic_1, ic_5, nv_E_close, ml_E_close]
    have := lpE_close (l := l) (G := G) (n := lvE_close) (Q := fun r2 w2 => r2 = none ∧ w2 = sI (sI w 11 j 7 (nI (clN w j 5))) 11 j 4 (wI w 187 j (clN w j 5))) hs ⟨rfl, rfl⟩ 4 1 none (by omega)
    rw [clN_1] at this
    exact this
  · cases h
def mfC (w : Wd) (j : Nat) (g : Int32) : Int32 := ((wI w 11 j 4).toInt64 * g.toInt64 / 100).toInt32 - wI w 11 j 6
abbrev lvE_moneyFor : Nat := 1
noncomputable def fsE_moneyFor : FS := fun as w => match as with
  | [.inr (.inr (some (11, j))), .inl g] => fsP (j < wC w 11) (some (.inl (mfC w j g)), w)
  | _ => none
theorem l100 : ¬ (100 : Int64) = 0 := by decide
set_option maxRecDepth 100000 in
set_option maxHeartbeats 4000000 in
theorem okE_moneyFor (l : Launch) (G : Gc) : FsOk l G mE_moneyFor lvE_moneyFor fsE_moneyFor := by
  intro as w r w' h
  simp only [fsE_moneyFor] at h
  split at h
  · rename_i j g
    obtain ⟨hj, h⟩ := fsP_s h
    cases h
    refine Sem_of (by decide) rfl (Nat.le_of_ble_eq_true rfl) ?_
    refine wpn_ok (M := mE_moneyFor) (C := cenE) (X := (alk [])) (tb := tE_moneyFor) (st := []) eoE XOk_nil kE_moneyFor 200 _ _ _ _ _ _ ?_
    simp only [reduceCtorEq, fv0, fv1, fv2, fv3, bI_0, bI_1, bft, MSh_sI_eq, fsP_T, inL_0, inL_s, pad_0, pad_n, pad_s, wpn_s, wp1_s, lg_0, lg_s, lset_0, lset_s, kil_0, kil_s, st1_s, st2_s, isL_i, isL_l, isL_r, isL_n, spl_0, spl_s, cll_n, cll_s, catS_0, catS_s, jmp_s, alk_0, alk_s, otl_n, otl_s, List.nil_append, List.cons_append, List.contains_cons, List.contains_nil, Nat.reduceBEq, Bool.or_false, Bool.false_or, Bool.or_self, Bool.false_eq_true, Bool.true_or, Bool.or_true, if_true, if_false, ite_true, ite_false, ↓reduceIte, List.length_cons, List.length_nil, Nat.reduceAdd, Nat.reduceLT, Nat.reduceLeDiff, Nat.reduceEqDiff, Int.reduceAdd, Int.reduceLE, Int.toNat_natCast, Int.reduceToNat, Int.cast_ofNat_Int, true_and, and_true, false_and, and_false, true_implies, forall_const, eq_self, and_self, or_true, true_or, or_self, false_or, or_false, yI_sI, yR_sI, yC_sI, yN_sI, yI_sR, yR_sR, yC_sR, yN_sR, not_true_eq_false, not_false_eq_true, false_implies, implies_true, Nat.zero_add, Nat.add_zero, Nat.le_refl, Nat.reduceSub, Int.reduceSub, Int.reduceLT, Int.sub_zero, Int.sub_self, List.getElem?_toArray, List.getElem?_cons_zero, List.getElem?_cons_succ, Int.toNat_zero, Int.toNat_one, Int.lt_irrefl, yI_sB, yR_sB, yC_sB, yN_sB, MSh_sB_eq, pE_moneyFor_0, stp_aload_n, pE_moneyFor_1, stp_getfield, qfE_25, rp_11_4, pE_moneyFor_4, stp_i2l, pE_moneyFor_5, stp_iload_n, pE_moneyFor_6, pE_moneyFor_7, stp_lmul, pE_moneyFor_8, stp_ldc2_w, qkE_65, pE_moneyFor_11, stp_ldiv, pE_moneyFor_12, stp_l2i, pE_moneyFor_13, pE_moneyFor_14, qfE_31, rp_11_6, pE_moneyFor_17, stp_isub, pE_moneyFor_18, stp_ireturn, nv_E_moneyFor, ml_E_moneyFor, lvE_moneyFor, hj, l100, mfC]
  · cases h
theorem ruE_moneyFor {w : Wd} {j : Nat} {g : Int32} (h : j < wC w 11) : fsE_moneyFor [.inr (.inr (some (11, j))), .inl g] w = some (some (.inl (mfC w j g)), w) := fsP_t h
abbrev lvE_pay : Nat := 2
def pyW (w : Wd) (j : Nat) (g f p : Int32) : Wd := sI (sI (sI (sI (sI w 11 j 5 g) 11 j 6 f) 11 j 10 p) 11 j 9 1) 11 j 8 (((wI w 11 j 4).toInt64 * g.toInt64 / 100).toInt32 - f)
noncomputable def fsE_pay : FS := fun as w => match as with
  | [.inr (.inr (some (11, j))), .inl g, .inl f, .inl p] => fsP (j < wC w 11) (none, pyW w j g f p)
  | _ => none
set_option maxRecDepth 100000 in
set_option maxHeartbeats 4000000 in
theorem okE_pay (l : Launch) (G : Gc) : FsOk l G mE_pay lvE_pay fsE_pay := by
  intro as w r w' h
  simp only [fsE_pay] at h
  split at h
  · rename_i j g f p
    obtain ⟨hj, h⟩ := fsP_s h
    cases h
    have rm := ruE_moneyFor (w := sI (sI (sI (sI w 11 j 5 g) 11 j 6 f) 11 j 10 p) 11 j 9 1) (g := g) hj
    refine Sem_of (by decide) rfl (Nat.le_of_ble_eq_true rfl) ?_
    refine wpn_ok (M := mE_pay) (C := cenE) (X := (alk [(55, lvE_moneyFor, fsE_moneyFor)])) (tb := tE_pay) (st := []) eoE (XOk_cons qmE_55 (okE_moneyFor l G) XOk_nil) kE_pay 60 _ _ _ _ _ _ ?_
    simp only [reduceCtorEq, fv0, fv1, fv2, fv3, bI_0, bI_1, bft, MSh_sI_eq, fsP_T, inL_0, inL_s, pad_0, pad_n, pad_s, wpn_s, wp1_s, lg_0, lg_s, lset_0, lset_s, kil_0, kil_s, st1_s, st2_s, isL_i, isL_l, isL_r, isL_n, spl_0, spl_s, cll_n, cll_s, catS_0, catS_s, jmp_s, alk_0, alk_s, otl_n, otl_s, List.nil_append, List.cons_append, List.contains_cons, List.contains_nil, Nat.reduceBEq, Bool.or_false, Bool.false_or, Bool.or_self, Bool.false_eq_true, Bool.true_or, Bool.or_true, if_true, if_false, ite_true, ite_false, ↓reduceIte, List.length_cons, List.length_nil, Nat.reduceAdd, Nat.reduceLT, Nat.reduceLeDiff, Nat.reduceEqDiff, Int.reduceAdd, Int.reduceLE, Int.toNat_natCast, Int.reduceToNat, Int.cast_ofNat_Int, true_and, and_true, false_and, and_false, true_implies, forall_const, eq_self, and_self, or_true, true_or, or_self, false_or, or_false, yI_sI, yR_sI, yC_sI, yN_sI, yI_sR, yR_sR, yC_sR, yN_sR, not_true_eq_false, not_false_eq_true, false_implies, implies_true, Nat.zero_add, Nat.add_zero, Nat.le_refl, Nat.reduceSub, Int.reduceSub, Int.reduceLT, Int.sub_zero, Int.sub_self, List.getElem?_toArray, List.getElem?_cons_zero, List.getElem?_cons_succ, Int.toNat_zero, Int.toNat_one, Int.lt_irrefl, yI_sB, yR_sB, yC_sB, yN_sB, MSh_sB_eq, pE_pay_0, stp_aload_n, pE_pay_1, stp_iload_n, pE_pay_2, stp_putfield, qfE_28, rp_11_5, fi_11_5, nr_11_5, pE_pay_5, pE_pay_6, pE_pay_7, qfE_31, rp_11_6, fi_11_6, nr_11_6, pE_pay_10, pE_pay_11, pE_pay_12, qfE_44, rp_11_10, fi_11_10, nr_11_10, pE_pay_15, pE_pay_16, stp_iconst, pE_pay_17, qfE_40, rp_11_9, fi_11_9, nr_11_9, pE_pay_20, pE_pay_21, pE_pay_22, pE_pay_23, stp_getfield, pE_pay_26, stp_invokevirtual, qmE_55, cy_E_moneyFor, pE_pay_29, qfE_37, rp_11_8, fi_11_8, nr_11_8, pE_pay_32, stp_return_, ic_1, nv_E_pay, ml_E_pay, hj, rm, mfC, pyW, lvE_pay, lvE_moneyFor]
  · cases h
theorem ruE_pay {w : Wd} {j : Nat} {g f p : Int32} (h : j < wC w 11) : fsE_pay [.inr (.inr (some (11, j))), .inl g, .inl f, .inl p] w = some (none, pyW w j g f p) := fsP_t h
theorem mx1 (x : Int32) : (if (1 : Int32) < x then x else 1) = atl1 x := by
  unfold atl1
  by_cases h : (1 : Int32) < x
  · rw [if_pos h, if_pos (Int32.le_of_lt h)]
  · rw [if_neg h]
    by_cases h2 : (1 : Int32) ≤ x
    · rw [if_pos h2]; exact Int32.le_antisymm h2 (Int32.not_lt.mp h)
    · rw [if_neg h2]
abbrev lvE_correct : Nat := 2
def coW (w : Wd) (j : Nat) (o : Int32) : Wd := sI (sI w 11 j 8 (mfC w j (atl1 (wI w 11 j 5 - o)))) 11 j 10 (-1)
noncomputable def fsE_correct : FS := fun as w => match as with
  | [.inr (.inr (some (11, j))), .inl o] => fsP (j < wC w 11) (none, coW w j o)
  | _ => none
set_option maxRecDepth 100000 in
set_option maxHeartbeats 4000000 in
theorem okE_correct (l : Launch) (G : Gc) : FsOk l G mE_correct lvE_correct fsE_correct := by
  intro as w r w' h
  simp only [fsE_correct] at h
  split at h
  · rename_i j o
    obtain ⟨hj, h⟩ := fsP_s h
    cases h
    refine Sem_of (by decide) rfl (Nat.le_of_ble_eq_true rfl) ?_
    refine wpn_ok (M := mE_correct) (C := cenE) (X := (alk [])) (tb := tE_correct) (st := [9]) eoE XOk_nil kE_correct 60 _ _ _ _ _ _ ?_
    simp only [reduceCtorEq, fv0, fv1, fv2, fv3, bI_0, bI_1, bft, MSh_sI_eq, fsP_T, inL_0, inL_s, pad_0, pad_n, pad_s, wpn_s, wp1_s, lg_0, lg_s, lset_0, lset_s, kil_0, kil_s, st1_s, st2_s, isL_i, isL_l, isL_r, isL_n, spl_0, spl_s, cll_n, cll_s, catS_0, catS_s, jmp_s, alk_0, alk_s, otl_n, otl_s, List.nil_append, List.cons_append, List.contains_cons, List.contains_nil, Nat.reduceBEq, Bool.or_false, Bool.false_or, Bool.or_self, Bool.false_eq_true, Bool.true_or, Bool.or_true, if_true, if_false, ite_true, ite_false, ↓reduceIte, List.length_cons, List.length_nil, Nat.reduceAdd, Nat.reduceLT, Nat.reduceLeDiff, Nat.reduceEqDiff, Int.reduceAdd, Int.reduceLE, Int.toNat_natCast, Int.reduceToNat, Int.cast_ofNat_Int, true_and, and_true, false_and, and_false, true_implies, forall_const, eq_self, and_self, or_true, true_or, or_self, false_or, or_false, yI_sI, yR_sI, yC_sI, yN_sI, yI_sR, yR_sR, yC_sR, yN_sR, not_true_eq_false, not_false_eq_true, false_implies, implies_true, Nat.zero_add, Nat.add_zero, Nat.le_refl, Nat.reduceSub, Int.reduceSub, Int.reduceLT, Int.sub_zero, Int.sub_self, List.getElem?_toArray, List.getElem?_cons_zero, List.getElem?_cons_succ, Int.toNat_zero, Int.toNat_one, Int.lt_irrefl, yI_sB, yR_sB, yC_sB, yN_sB, MSh_sB_eq, pE_correct_0, stp_aload_n, pE_correct_1, pE_correct_2, stp_iconst, pE_correct_3, pE_correct_4, stp_getfield, qfE_28, rp_11_5, pE_correct_7, stp_iload_n, pE_correct_8, stp_isub, pE_correct_9, stp_invokestatic, qmE_59, pE_correct_12, stp_invokevirtual, qmE_55, cy_E_moneyFor, pE_correct_15, stp_putfield, qfE_37, rp_11_8, fi_11_8, nr_11_8, pE_correct_18, pE_correct_19, pE_correct_20, qfE_44, rp_11_10, fi_11_10, nr_11_10, pE_correct_23, stp_return_, ic_1, ic_m1, nv_E_correct, ml_E_correct, hj]
    refine wp_max kE_correct pE_correct_9 wm_max_E (Nat.le_of_ble_eq_true rfl) (by decide) ?_
    rw [mx1]
    have rm := ruE_moneyFor (w := w) (g := atl1 (wI w 11 j 5 - o)) hj
    refine wpn_ok (M := mE_correct) (C := cenE) (X := (alk [(55, lvE_moneyFor, fsE_moneyFor)])) (tb := tE_correct) (st := []) eoE (XOk_cons qmE_55 (okE_moneyFor l G) XOk_nil) kE_correct 60 _ _ _ _ _ _ ?_
    simp only [reduceCtorEq, fv0, fv1, fv2, fv3, bI_0, bI_1, bft, MSh_sI_eq, fsP_T, inL_0, inL_s, pad_0, pad_n, pad_s, wpn_s, wp1_s, lg_0, lg_s, lset_0, lset_s, kil_0, kil_s, st1_s, st2_s, isL_i, isL_l, isL_r, isL_n, spl_0, spl_s, cll_n, cll_s, catS_0, catS_s, jmp_s, alk_0, alk_s, otl_n, otl_s, List.nil_append, List.cons_append, List.contains_cons, List.contains_nil, Nat.reduceBEq, Bool.or_false, Bool.false_or, Bool.or_self, Bool.false_eq_true, Bool.true_or, Bool.or_true, if_true, if_false, ite_true, ite_false, ↓reduceIte, List.length_cons, List.length_nil, Nat.reduceAdd, Nat.reduceLT, Nat.reduceLeDiff, Nat.reduceEqDiff, Int.reduceAdd, Int.reduceLE, Int.toNat_natCast, Int.reduceToNat, Int.cast_ofNat_Int, true_and, and_true, false_and, and_false, true_implies, forall_const, eq_self, and_self, or_true, true_or, or_self, false_or, or_false, yI_sI, yR_sI, yC_sI, yN_sI, yI_sR, yR_sR, yC_sR, yN_sR, not_true_eq_false, not_false_eq_true, false_implies, implies_true, Nat.zero_add, Nat.add_zero, Nat.le_refl, Nat.reduceSub, Int.reduceSub, Int.reduceLT, Int.sub_zero, Int.sub_self, List.getElem?_toArray, List.getElem?_cons_zero, List.getElem?_cons_succ, Int.toNat_zero, Int.toNat_one, Int.lt_irrefl, yI_sB, yR_sB, yC_sB, yN_sB, MSh_sB_eq, pE_correct_0, stp_aload_n, pE_correct_1, pE_correct_2, stp_iconst, pE_correct_3, pE_correct_4, stp_getfield, qfE_28, rp_11_5, pE_correct_7, stp_iload_n, pE_correct_8, stp_isub, pE_correct_9, stp_invokestatic, qmE_59, pE_correct_12, stp_invokevirtual, qmE_55, cy_E_moneyFor, pE_correct_15, stp_putfield, qfE_37, rp_11_8, fi_11_8, nr_11_8, pE_correct_18, pE_correct_19, pE_correct_20, qfE_44, rp_11_10, fi_11_10, nr_11_10, pE_correct_23, stp_return_, ic_1, ic_m1, nv_E_correct, ml_E_correct, hj, rm, coW, lvE_correct, lvE_moneyFor]
  · cases h
theorem ruE_correct {w : Wd} {j : Nat} {o : Int32} (h : j < wC w 11) : fsE_correct [.inr (.inr (some (11, j))), .inl o] w = some (none, coW w j o) := fsP_t h
