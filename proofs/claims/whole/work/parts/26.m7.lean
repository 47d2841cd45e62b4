/-! the reference's invariant; marks, judging, asking rules -/
/-- the reference's own numbers are in order -/
def MOk (w : Wd) : Prop := MSh w ∧ okc w 3 14 ∧ okc w 6 20 ∧ okc w 17 24 ∧ okR w ∧ okc w 63 20 ∧ okc w 58 80 ∧ ∀ j, j < cn w 17 → wI w 123 0 j = -1 ∨ ∃ p, p < cn w 3 ∧ wI w 123 0 j = nI p
theorem okc_in {w : Wd} {k b : Nat} {v : Int32} (h : okc w k b) (hb : b < 2 ^ 30) (hi : inR v 0 (wI w 13 0 k - 1) = true) : ∃ j, j < cn w k ∧ v = nI j := by
  obtain ⟨h1, h2⟩ := inR_spec hi
  obtain ⟨e, hle⟩ := h
  rw [e] at h2
  obtain ⟨j, hj, rfl⟩ := nI_of h1
  refine ⟨j, ?_, rfl⟩
  have h3 : ¬ (nI (cn w k) - nI 1) < nI j := h2
  rw [Int32.lt_iff_toInt_lt, pk_sub_toInt (by omega) (by omega), nI_toInt hj] at h3
  omega
theorem okc_inR {w : Wd} {k b j : Nat} (h : okc w k b) (hb : b < 2 ^ 30) (hj : j < cn w k) : inR (nI j) 0 (wI w 13 0 k - 1) = true := by
  obtain ⟨e, hle⟩ := h
  refine inR_t (nI_pos (by omega)) ?_
  rw [e]
  show ¬ (nI (cn w k) - nI 1) < nI j
  rw [Int32.lt_iff_toInt_lt, pk_sub_toInt (by omega) (by omega), nI_toInt (by omega)]
  omega
theorem MOk_lot {w : Wd} {v : Int32} (h : MOk w) (hi : inR v 0 (wI w 13 0 17 - 1) = true) : ∃ j, j < cn w 17 ∧ v = nI j ∧ vp_in v 24 ∧ v.toNatClampNeg = j := by
  obtain ⟨-, -, -, h17, -⟩ := h
  obtain ⟨j, hj, rfl⟩ := okc_in h17 (by omega) hi
  have := h17.2
  exact ⟨j, hj, rfl, vp_in_nI (by omega) (by omega), nI_clamp (by omega)⟩
theorem MOk_place {w : Wd} {v : Int32} (h : MOk w) (hi : inR v 0 (wI w 13 0 3 - 1) = true) : ∃ j, j < cn w 3 ∧ v = nI j ∧ vp_in v 14 ∧ v.toNatClampNeg = j := by
  obtain ⟨-, h3, -⟩ := h
  obtain ⟨j, hj, rfl⟩ := okc_in h3 (by omega) hi
  have := h3.2
  exact ⟨j, hj, rfl, vp_in_nI (by omega) (by omega), nI_clamp (by omega)⟩
def whI (w : Wd) (m : Int32) : Int32 := match fnd w m with
  | none => -1
  | some k => wI w 165 0 k
abbrev lvM_whose : Nat := 3
noncomputable def fsM_whose : FS := fun as w => match as with
  | [.inr (.inr (some (13, 0))), .inl m] => fsP (MOk w) (some (.inl (if inR m 0 9999 = false then -7 else whI w m)), if inR m 0 9999 = false then rfz w 7 else w)
  | _ => none
set_option maxRecDepth 100000 in
set_option maxHeartbeats 4000000 in
theorem okM_whose (l : Launch) (G : Gc) : FsOk l G mM_whose lvM_whose fsM_whose := by
  intro as w r w' h
  simp only [fsM_whose] at h
  split at h
  · rename_i m
    obtain ⟨hM, h⟩ := fsP_s h
    cases h
    obtain ⟨hS, -, -, -, -, h63, -⟩ := id hM
    refine Sem_of (by decide) rfl (Nat.le_of_ble_eq_true rfl) ?_
    refine wpn_ok (M := mM_whose) (C := cenM) (X := (alk [(209, lvM_isMark, fsM_isMark), (169, lvM_refused, fsM_refused), (335, lvM_find, fsM_find)])) (tb := tM_whose) (st := []) eoM (XOk_cons qmM_209 (okM_isMark l G) (XOk_cons qmM_169 (okM_refused l G) (XOk_cons qmM_335 (okM_find l G) XOk_nil))) kM_whose 60 _ _ _ _ _ _ ?_
    cases hm : inR m 0 9999
    · simp only [fv0, fv1, fv2, fv3, bI_0, bI_1, bft, MSh_sI_eq, fsP_T, inL_0, inL_s, pad_0, pad_n, pad_s, wpn_s, wp1_s, lg_0, lg_s, lset_0, lset_s, kil_0, kil_s, st1_s, st2_s, isL_i, isL_l, isL_r, isL_n, spl_0, spl_s, cll_n, cll_s, catS_0, catS_s, jmp_s, alk_0, alk_s, otl_n, otl_s, List.nil_append, List.cons_append, List.contains_cons, List.contains_nil, Nat.reduceBEq, Bool.or_false, Bool.false_or, Bool.or_self, Bool.false_eq_true, Bool.true_or, Bool.or_true, if_true, if_false, ite_true, ite_false, ↓reduceIte, List.length_cons, List.length_nil, Nat.reduceAdd, Nat.reduceLT, Nat.reduceLeDiff, Nat.reduceEqDiff, Int.reduceAdd, Int.reduceLE, Int.toNat_natCast, Int.reduceToNat, Int.cast_ofNat_Int, true_and, and_true, true_implies, forall_const, eq_self, and_self, or_true, true_or, or_self, false_or, or_false, yI_sI, yR_sI, yC_sI, yN_sI, yI_sR, yR_sR, yC_sR, yN_sR, not_true_eq_false, not_false_eq_true, false_implies, implies_true, Nat.zero_add, Nat.add_zero, Nat.le_refl, Nat.reduceSub, Int.reduceSub, Int.reduceLT, Int.sub_zero, Int.sub_self, List.getElem?_toArray, List.getElem?_cons_zero, List.getElem?_cons_succ, Int.toNat_zero, Int.toNat_one, Int.lt_irrefl, pM_whose_0, stp_iload_n, pM_whose_1, stp_invokestatic, qmM_209, cy_M_isMark, pM_whose_4, stp_ifCond_ne, pM_whose_7, stp_aload_n, pM_whose_8, stp_bipush, pM_whose_10, stp_invokevirtual, qmM_169, cy_M_refused, ms_C13 hS, pM_whose_13, stp_ireturn, pM_whose_14, pM_whose_15, pM_whose_16, qmM_335, cy_M_find, pM_whose_19, stp_istore_n, pM_whose_20, pM_whose_21, stp_iconst, pM_whose_22, stp_if_icmp_ne, pM_whose_25, pM_whose_26, stp_goto, pM_whose_29, pM_whose_30, stp_getfield, qfM_156, rp_13_65, ms_R65 hS, ms_C165 hS, ms_N165 hS, pM_whose_33, pM_whose_34, stp_iaload, pM_whose_35, bp_m7, ic_m1, nv_M_whose, ml_M_whose, fsM_isMark, hm, rfM_7 hS, lvM_whose, lvM_isMark, lvM_refused, lvM_find]
    · cases hf : fnd w m with
      | none =>
        simp only [fv0, fv1, fv2, fv3, bI_0, bI_1, bft, MSh_sI_eq, fsP_T, inL_0, inL_s, pad_0, pad_n, pad_s, wpn_s, wp1_s, lg_0, lg_s, lset_0, lset_s, kil_0, kil_s, st1_s, st2_s, isL_i, isL_l, isL_r, isL_n, spl_0, spl_s, cll_n, cll_s, catS_0, catS_s, jmp_s, alk_0, alk_s, otl_n, otl_s, List.nil_append, List.cons_append, List.contains_cons, List.contains_nil, Nat.reduceBEq, Bool.or_false, Bool.false_or, Bool.or_self, Bool.false_eq_true, Bool.true_or, Bool.or_true, if_true, if_false, ite_true, ite_false, ↓reduceIte, List.length_cons, List.length_nil, Nat.reduceAdd, Nat.reduceLT, Nat.reduceLeDiff, Nat.reduceEqDiff, Int.reduceAdd, Int.reduceLE, Int.toNat_natCast, Int.reduceToNat, Int.cast_ofNat_Int, true_and, and_true, true_implies, forall_const, eq_self, and_self, or_true, true_or, or_self, false_or, or_false, yI_sI, yR_sI, yC_sI, yN_sI, yI_sR, yR_sR, yC_sR, yN_sR, not_true_eq_false, not_false_eq_true, false_implies, implies_true, Nat.zero_add, Nat.add_zero, Nat.le_refl, Nat.reduceSub, Int.reduceSub, Int.reduceLT, Int.sub_zero, Int.sub_self, List.getElem?_toArray, List.getElem?_cons_zero, List.getElem?_cons_succ, Int.toNat_zero, Int.toNat_one, Int.lt_irrefl, pM_whose_0, stp_iload_n, pM_whose_1, stp_invokestatic, qmM_209, cy_M_isMark, pM_whose_4, stp_ifCond_ne, pM_whose_7, stp_aload_n, pM_whose_8, stp_bipush, pM_whose_10, stp_invokevirtual, qmM_169, cy_M_refused, ms_C13 hS, pM_whose_13, stp_ireturn, pM_whose_14, pM_whose_15, pM_whose_16, qmM_335, cy_M_find, pM_whose_19, stp_istore_n, pM_whose_20, pM_whose_21, stp_iconst, pM_whose_22, stp_if_icmp_ne, pM_whose_25, pM_whose_26, stp_goto, pM_whose_29, pM_whose_30, stp_getfield, qfM_156, rp_13_65, ms_R65 hS, ms_C165 hS, ms_N165 hS, pM_whose_33, pM_whose_34, stp_iaload, pM_whose_35, bp_m7, ic_m1, nv_M_whose, ml_M_whose, fsM_isMark, hm, ruM_find hS h63, hf, oI_n, lvM_whose, lvM_isMark, lvM_refused, lvM_find]
        simp [whI, hf]
      | some k =>
        obtain ⟨hk, -⟩ := fstN_s hf
        have hk2 := h63.2
        have e1 : vp_in (nI k) 20 := vp_in_nI (by omega) (by omega)
        have e2 : (nI k).toNatClampNeg = k := nI_clamp (by omega)
        have e3 : ¬ nI k = -1 := nI_nm1 (by omega)
        simp only [fv0, fv1, fv2, fv3, bI_0, bI_1, bft, MSh_sI_eq, fsP_T, inL_0, inL_s, pad_0, pad_n, pad_s, wpn_s, wp1_s, lg_0, lg_s, lset_0, lset_s, kil_0, kil_s, st1_s, st2_s, isL_i, isL_l, isL_r, isL_n, spl_0, spl_s, cll_n, cll_s, catS_0, catS_s, jmp_s, alk_0, alk_s, otl_n, otl_s, List.nil_append, List.cons_append, List.contains_cons, List.contains_nil, Nat.reduceBEq, Bool.or_false, Bool.false_or, Bool.or_self, Bool.false_eq_true, Bool.true_or, Bool.or_true, if_true, if_false, ite_true, ite_false, ↓reduceIte, List.length_cons, List.length_nil, Nat.reduceAdd, Nat.reduceLT, Nat.reduceLeDiff, Nat.reduceEqDiff, Int.reduceAdd, Int.reduceLE, Int.toNat_natCast, Int.reduceToNat, Int.cast_ofNat_Int, true_and, and_true, true_implies, forall_const, eq_self, and_self, or_true, true_or, or_self, false_or, or_false, yI_sI, yR_sI, yC_sI, yN_sI, yI_sR, yR_sR, yC_sR, yN_sR, not_true_eq_false, not_false_eq_true, false_implies, implies_true, Nat.zero_add, Nat.add_zero, Nat.le_refl, Nat.reduceSub, Int.reduceSub, Int.reduceLT, Int.sub_zero, Int.sub_self, List.getElem?_toArray, List.getElem?_cons_zero, List.getElem?_cons_succ, Int.toNat_zero, Int.toNat_one, Int.lt_irrefl, pM_whose_0, stp_iload_n, pM_whose_1, stp_invokestatic, qmM_209, cy_M_isMark, pM_whose_4, stp_ifCond_ne, pM_whose_7, stp_aload_n, pM_whose_8, stp_bipush, pM_whose_10, stp_invokevirtual, qmM_169, cy_M_refused, ms_C13 hS, pM_whose_13, stp_ireturn, pM_whose_14, pM_whose_15, pM_whose_16, qmM_335, cy_M_find, pM_whose_19, stp_istore_n, pM_whose_20, pM_whose_21, stp_iconst, pM_whose_22, stp_if_icmp_ne, pM_whose_25, pM_whose_26, stp_goto, pM_whose_29, pM_whose_30, stp_getfield, qfM_156, rp_13_65, ms_R65 hS, ms_C165 hS, ms_N165 hS, pM_whose_33, pM_whose_34, stp_iaload, pM_whose_35, bp_m7, ic_m1, nv_M_whose, ml_M_whose, fsM_isMark, hm, ruM_find hS h63, hf, oI_s, e1, e2, e3, lvM_whose, lvM_isMark, lvM_refused, lvM_find]
        simp [whI, hf]
  · cases h
def cntN (f : Nat → Bool) : Nat → Int32
  | 0 => 0
  | n + 1 => cntN f n + bI (f n)
theorem cntN_congr {f g : Nat → Bool} {n : Nat} (h : ∀ j, j < n → f j = g j) : cntN f n = cntN g n := by
  induction n with
  | zero => rfl
  | succ n ih => simp only [cntN, ih (fun j hj => h j (by omega)), h n (by omega)]
def nrF (w : Wd) (m : Int32) : Nat → Bool := fun k => nearB (wI w 164 0 k) m
section
variable {l : Launch} {G : Gc} {n : Nat} {Q : Option AV → Wd → Prop} {w : Wd}
set_option maxRecDepth 100000 in
set_option maxHeartbeats 4000000 in
theorem lpM_near {m : Int32} (hl1 : 1 < n) (hS : MSh w) (hn : okc w 63 20) (hQ : Q (some (.inl (cntN (nrF w m) (cn w 63)))) w) : ∀ k i, i + k = cn w 63 → WP l G mM_near n 0 0 Q 18 [some aM, some (.inl m), some (.inl (cntN (nrF w m) i)), some (.inl (nI i))] [] w 0 0
  | 0, i, hi => by
    have e : i = cn w 63 := hi
    subst e
    refine wpn_ok (M := mM_near) (C := cenM) (X := (alk [(338, lvM_isNear, fsM_isNear)])) (tb := tM_near) (st := [18]) eoM (XOk_cons qmM_338 (okM_isNear l G) XOk_nil) kM_near 60 _ _ _ _ _ _ ?_
    simp only [fv0, fv1, fv2, fv3, bI_0, bI_1, bft, MSh_sI_eq, fsP_T, inL_0, inL_s, pad_0, pad_n, pad_s, wpn_s, wp1_s, lg_0, lg_s, lset_0, lset_s, kil_0, kil_s, st1_s, st2_s, isL_i, isL_l, isL_r, isL_n, spl_0, spl_s, cll_n, cll_s, catS_0, catS_s, jmp_s, alk_0, alk_s, otl_n, otl_s, List.nil_append, List.cons_append, List.contains_cons, List.contains_nil, Nat.reduceBEq, Bool.or_false, Bool.false_or, Bool.or_self, Bool.false_eq_true, Bool.true_or, Bool.or_true, if_true, if_false, ite_true, ite_false, ↓reduceIte, List.length_cons, List.length_nil, Nat.reduceAdd, Nat.reduceLT, Nat.reduceLeDiff, Nat.reduceEqDiff, Int.reduceAdd, Int.reduceLE, Int.toNat_natCast, Int.reduceToNat, Int.cast_ofNat_Int, true_and, and_true, true_implies, forall_const, eq_self, and_self, or_true, true_or, or_self, false_or, or_false, yI_sI, yR_sI, yC_sI, yN_sI, yI_sR, yR_sR, yC_sR, yN_sR, not_true_eq_false, not_false_eq_true, false_implies, implies_true, Nat.zero_add, Nat.add_zero, Nat.le_refl, Nat.reduceSub, Int.reduceSub, Int.reduceLT, Int.sub_zero, Int.sub_self, List.getElem?_toArray, List.getElem?_cons_zero, List.getElem?_cons_succ, Int.toNat_zero, Int.toNat_one, Int.lt_irrefl, pM_near_0, stp_iload_n, pM_near_1, stp_invokestatic, qmM_209, cy_M_isMark, pM_near_4, stp_ifCond_ne, pM_near_7, stp_aload_n, pM_near_8, stp_bipush, pM_near_10, stp_invokevirtual, qmM_169, cy_M_refused, ms_C13 hS, pM_near_13, stp_ireturn, pM_near_14, stp_iconst, pM_near_15, stp_istore_n, pM_near_16, pM_near_17, pM_near_18, pM_near_19, pM_near_20, stp_getfield, qfM_332, rp_13_63, pM_near_23, stp_if_icmp_ge, pM_near_26, pM_near_27, pM_near_28, qfM_153, rp_13_64, ms_R64 hS, ms_C164 hS, ms_N164 hS, pM_near_31, pM_near_32, stp_iaload, pM_near_33, pM_near_34, qmM_338, cy_M_isNear, pM_near_37, stp_ifCond_eq, pM_near_40, pM_near_41, stp_goto, pM_near_44, pM_near_45, stp_iadd, pM_near_46, pM_near_47, stp_iinc, pM_near_50, pM_near_53, pM_near_54, bp_m7, ic_0, ic_1, nv_M_near, ml_M_near, ← hn.1, Int32.le_refl, fsM_isNear]
    exact hQ
  | k + 1, i, hi => by
    have ih := lpM_near hl1 hS hn hQ k (i + 1) (by omega)
    have h20 := hn.2
    have h1 : ¬ wI w 13 0 63 ≤ nI i := by rw [hn.1]; exact nI_ge (by omega) (by omega)
    have h2 : vp_in (nI i) 20 := vp_in_nI (by omega) (by omega)
    have h3 : (nI i).toNatClampNeg = i := nI_clamp (by omega)
    refine wpn_ok (M := mM_near) (C := cenM) (X := (alk [(338, lvM_isNear, fsM_isNear)])) (tb := tM_near) (st := [18]) eoM (XOk_cons qmM_338 (okM_isNear l G) XOk_nil) kM_near 60 _ _ _ _ _ _ ?_
    simp only [fv0, fv1, fv2, fv3, bI_0, bI_1, bft, MSh_sI_eq, fsP_T, inL_0, inL_s, pad_0, pad_n, pad_s, wpn_s, wp1_s, lg_0, lg_s, lset_0, lset_s, kil_0, kil_s, st1_s, st2_s, isL_i, isL_l, isL_r, isL_n, spl_0, spl_s, cll_n, cll_s, catS_0, catS_s, jmp_s, alk_0, alk_s, otl_n, otl_s, List.nil_append, List.cons_append, List.contains_cons, List.contains_nil, Nat.reduceBEq, Bool.or_false, Bool.false_or, Bool.or_self, Bool.false_eq_true, Bool.true_or, Bool.or_true, if_true, if_false, ite_true, ite_false, ↓reduceIte, List.length_cons, List.length_nil, Nat.reduceAdd, Nat.reduceLT, Nat.reduceLeDiff, Nat.reduceEqDiff, Int.reduceAdd, Int.reduceLE, Int.toNat_natCast, Int.reduceToNat, Int.cast_ofNat_Int, true_and, and_true, true_implies, forall_const, eq_self, and_self, or_true, true_or, or_self, false_or, or_false, yI_sI, yR_sI, yC_sI, yN_sI, yI_sR, yR_sR, yC_sR, yN_sR, not_true_eq_false, not_false_eq_true, false_implies, implies_true, Nat.zero_add, Nat.add_zero, Nat.le_refl, Nat.reduceSub, Int.reduceSub, Int.reduceLT, Int.sub_zero, Int.sub_self, List.getElem?_toArray, List.getElem?_cons_zero, List.getElem?_cons_succ, Int.toNat_zero, Int.toNat_one, Int.lt_irrefl, pM_near_0, stp_iload_n, pM_near_1, stp_invokestatic, qmM_209, cy_M_isMark, pM_near_4, stp_ifCond_ne, pM_near_7, stp_aload_n, pM_near_8, stp_bipush, pM_near_10, stp_invokevirtual, qmM_169, cy_M_refused, ms_C13 hS, pM_near_13, stp_ireturn, pM_near_14, stp_iconst, pM_near_15, stp_istore_n, pM_near_16, pM_near_17, pM_near_18, pM_near_19, pM_near_20, stp_getfield, qfM_332, rp_13_63, pM_near_23, stp_if_icmp_ge, pM_near_26, pM_near_27, pM_near_28, qfM_153, rp_13_64, ms_R64 hS, ms_C164 hS, ms_N164 hS, pM_near_31, pM_near_32, stp_iaload, pM_near_33, pM_near_34, qmM_338, cy_M_isNear, pM_near_37, stp_ifCond_eq, pM_near_40, pM_near_41, stp_goto, pM_near_44, pM_near_45, stp_iadd, pM_near_46, pM_near_47, stp_iinc, pM_near_50, pM_near_53, pM_near_54, bp_m7, ic_0, ic_1, nv_M_near, ml_M_near, h1, h2, h3, fsM_isNear, lvM_isNear, hl1, nI_1]
    cases ha : nearB (wI w 164 0 i) m <;> simp only [cntN, nrF, ha] at ih <;> simp [bI] at ih ⊢ <;> exact ih
end
abbrev lvM_near : Nat := 3
noncomputable def fsM_near : FS := fun as w => match as with
  | [.inr (.inr (some (13, 0))), .inl m] => fsP (MOk w) (some (.inl (if inR m 0 9999 = false then -7 else cntN (nrF w m) (cn w 63))), if inR m 0 9999 = false then rfz w 7 else w)
  | _ => none
set_option maxRecDepth 100000 in
set_option maxHeartbeats 4000000 in
theorem okM_near (l : Launch) (G : Gc) : FsOk l G mM_near lvM_near fsM_near := by
  intro as w r w' h
  simp only [fsM_near] at h
  split at h
  · rename_i m
    obtain ⟨hM, h⟩ := fsP_s h
    cases h
    obtain ⟨hS, -, -, -, -, h63, -⟩ := id hM
    refine Sem_of (by decide) rfl (Nat.le_of_ble_eq_true rfl) ?_
    refine wpn_ok (M := mM_near) (C := cenM) (X := (alk [(209, lvM_isMark, fsM_isMark), (169, lvM_refused, fsM_refused)])) (tb := tM_near) (st := [18]) eoM (XOk_cons qmM_209 (okM_isMark l G) (XOk_cons qmM_169 (okM_refused l G) XOk_nil)) kM_near 60 _ _ _ _ _ _ ?_
    cases hm : inR m 0 9999
    · simp only [fv0, fv1, fv2, fv3, bI_0, bI_1, bft, MSh_sI_eq, fsP_T, inL_0, inL_s, pad_0, pad_n, pad_s, wpn_s, wp1_s, lg_0, lg_s, lset_0, lset_s, kil_0, kil_s, st1_s, st2_s, isL_i, isL_l, isL_r, isL_n, spl_0, spl_s, cll_n, cll_s, catS_0, catS_s, jmp_s, alk_0, alk_s, otl_n, otl_s, List.nil_append, List.cons_append, List.contains_cons, List.contains_nil, Nat.reduceBEq, Bool.or_false, Bool.false_or, Bool.or_self, Bool.false_eq_true, Bool.true_or, Bool.or_true, if_true, if_false, ite_true, ite_false, ↓reduceIte, List.length_cons, List.length_nil, Nat.reduceAdd, Nat.reduceLT, Nat.reduceLeDiff, Nat.reduceEqDiff, Int.reduceAdd, Int.reduceLE, Int.toNat_natCast, Int.reduceToNat, Int.cast_ofNat_Int, true_and, and_true, true_implies, forall_const, eq_self, and_self, or_true, true_or, or_self, false_or, or_false, yI_sI, yR_sI, yC_sI, yN_sI, yI_sR, yR_sR, yC_sR, yN_sR, not_true_eq_false, not_false_eq_true, false_implies, implies_true, Nat.zero_add, Nat.add_zero, Nat.le_refl, Nat.reduceSub, Int.reduceSub, Int.reduceLT, Int.sub_zero, Int.sub_self, List.getElem?_toArray, List.getElem?_cons_zero, List.getElem?_cons_succ, Int.toNat_zero, Int.toNat_one, Int.lt_irrefl, pM_near_0, stp_iload_n, pM_near_1, stp_invokestatic, qmM_209, cy_M_isMark, pM_near_4, stp_ifCond_ne, pM_near_7, stp_aload_n, pM_near_8, stp_bipush, pM_near_10, stp_invokevirtual, qmM_169, cy_M_refused, ms_C13 hS, pM_near_13, stp_ireturn, pM_near_14, stp_iconst, pM_near_15, stp_istore_n, pM_near_16, pM_near_17, pM_near_18, pM_near_19, pM_near_20, stp_getfield, qfM_332, rp_13_63, pM_near_23, stp_if_icmp_ge, pM_near_26, pM_near_27, pM_near_28, qfM_153, rp_13_64, ms_R64 hS, ms_C164 hS, ms_N164 hS, pM_near_31, pM_near_32, stp_iaload, pM_near_33, pM_near_34, qmM_338, cy_M_isNear, pM_near_37, stp_ifCond_eq, pM_near_40, pM_near_41, stp_goto, pM_near_44, pM_near_45, stp_iadd, pM_near_46, pM_near_47, stp_iinc, pM_near_50, pM_near_53, pM_near_54, bp_m7, ic_0, ic_1, nv_M_near, ml_M_near, fsM_isMark, hm, rfM_7 hS, lvM_near, lvM_isMark, lvM_refused]
    · simp only [fv0, fv1, fv2, fv3, bI_0, bI_1, bft, MSh_sI_eq, fsP_T, inL_0, inL_s, pad_0, pad_n, pad_s, wpn_s, wp1_s, lg_0, lg_s, lset_0, lset_s, kil_0, kil_s, st1_s, st2_s, isL_i, isL_l, isL_r, isL_n, spl_0, spl_s, cll_n, cll_s, catS_0, catS_s, jmp_s, alk_0, alk_s, otl_n, otl_s, List.nil_append, List.cons_append, List.contains_cons, List.contains_nil, Nat.reduceBEq, Bool.or_false, Bool.false_or, Bool.or_self, Bool.false_eq_true, Bool.true_or, Bool.or_true, if_true, if_false, ite_true, ite_false, ↓reduceIte, List.length_cons, List.length_nil, Nat.reduceAdd, Nat.reduceLT, Nat.reduceLeDiff, Nat.reduceEqDiff, Int.reduceAdd, Int.reduceLE, Int.toNat_natCast, Int.reduceToNat, Int.cast_ofNat_Int, true_and, and_true, true_implies, forall_const, eq_self, and_self, or_true, true_or, or_self, false_or, or_false, yI_sI, yR_sI, yC_sI, yN_sI, yI_sR, yR_sR, yC_sR, yN_sR, not_true_eq_false, not_false_eq_true, false_implies, implies_true, Nat.zero_add, Nat.add_zero, Nat.le_refl, Nat.reduceSub, Int.reduceSub, Int.reduceLT, Int.sub_zero, Int.sub_self, List.getElem?_toArray, List.getElem?_cons_zero, List.getElem?_cons_succ, Int.toNat_zero, Int.toNat_one, Int.lt_irrefl, pM_near_0, stp_iload_n, pM_near_1, stp_invokestatic, qmM_209, cy_M_isMark, pM_near_4, stp_ifCond_ne, pM_near_7, stp_aload_n, pM_near_8, stp_bipush, pM_near_10, stp_invokevirtual, qmM_169, cy_M_refused, ms_C13 hS, pM_near_13, stp_ireturn, pM_near_14, stp_iconst, pM_near_15, stp_istore_n, pM_near_16, pM_near_17, pM_near_18, pM_near_19, pM_near_20, stp_getfield, qfM_332, rp_13_63, pM_near_23, stp_if_icmp_ge, pM_near_26, pM_near_27, pM_near_28, qfM_153, rp_13_64, ms_R64 hS, ms_C164 hS, ms_N164 hS, pM_near_31, pM_near_32, stp_iaload, pM_near_33, pM_near_34, qmM_338, cy_M_isNear, pM_near_37, stp_ifCond_eq, pM_near_40, pM_near_41, stp_goto, pM_near_44, pM_near_45, stp_iadd, pM_near_46, pM_near_47, stp_iinc, pM_near_50, pM_near_53, pM_near_54, bp_m7, ic_0, ic_1, nv_M_near, ml_M_near, fsM_isMark, hm, lvM_near, lvM_isMark, lvM_refused]
      refine lpM_near (by decide) hS h63 ?_ (cn w 63) 0 (by omega)
      simp
  · cases h
/-- a mark is written -/
def wrW (w : Wd) (m o : Int32) : Wd := sI (sI (sI w 164 0 (cn w 63) m) 165 0 (cn w 63) o) 13 0 63 (wI w 13 0 63 + 1)
def wrD (w : Wd) (m o : Int32) : Int32 := if inR o 0 5 = false then -3 else if inR m 0 9999 = false then -7 else if ¬ fnd w m = none then -7 else if wI w 13 0 63 = 20 then -8 else 0
abbrev lvM_write : Nat := 3
noncomputable def fsM_write : FS := fun as w => match as with
  | [.inr (.inr (some (13, 0))), .inl m, .inl o] => fsP (MOk w) (some (.inl (if wrD w m o = 0 then wI w 13 0 63 + 1 else wrD w m o)), if wrD w m o = 0 then wrW w m o else rfz w (-(wrD w m o)).toNatClampNeg)
  | _ => none
theorem cl3 : (-(-3 : Int32)).toNatClampNeg = 3 := by decide
theorem cl7 : (-(-7 : Int32)).toNatClampNeg = 7 := by decide
theorem cl8 : (-(-8 : Int32)).toNatClampNeg = 8 := by decide
theorem cl5 : (-(-5 : Int32)).toNatClampNeg = 5 := by decide
theorem cl2 : (-(-2 : Int32)).toNatClampNeg = 2 := by decide
theorem cl4 : (-(-4 : Int32)).toNatClampNeg = 4 := by decide
theorem cl6 : (-(-6 : Int32)).toNatClampNeg = 6 := by decide
theorem z3 : ¬ (-3 : Int32) = 0 := by decide
theorem z7 : ¬ (-7 : Int32) = 0 := by decide
theorem z8 : ¬ (-8 : Int32) = 0 := by decide
theorem z5 : ¬ (-5 : Int32) = 0 := by decide
theorem z2 : ¬ (-2 : Int32) = 0 := by decide
theorem z4 : ¬ (-4 : Int32) = 0 := by decide
theorem z6 : ¬ (-6 : Int32) = 0 := by decide
set_option maxRecDepth 100000 in
set_option maxHeartbeats 4000000 in
theorem okM_write (l : Launch) (G : Gc) : FsOk l G mM_write lvM_write fsM_write := by
  intro as w r w' h
  simp only [fsM_write] at h
  split at h
  · rename_i m o
    obtain ⟨hM, h⟩ := fsP_s h
    cases h
    obtain ⟨hS, -, -, -, -, h63, -⟩ := id hM
    refine Sem_of (by decide) rfl (Nat.le_of_ble_eq_true rfl) ?_
    refine wpn_ok (M := mM_write) (C := cenM) (X := (alk [(165, lvM_in, fsM_in), (209, lvM_isMark, fsM_isMark), (169, lvM_refused, fsM_refused), (335, lvM_find, fsM_find)])) (tb := tM_write) (st := []) eoM (XOk_cons qmM_165 (okM_in l G) (XOk_cons qmM_209 (okM_isMark l G) (XOk_cons qmM_169 (okM_refused l G) (XOk_cons qmM_335 (okM_find l G) XOk_nil)))) kM_write 90 _ _ _ _ _ _ ?_
    cases ho : inR o 0 5
    · simp only [fv0, fv1, fv2, fv3, bI_0, bI_1, bft, MSh_sI_eq, fsP_T, inL_0, inL_s, pad_0, pad_n, pad_s, wpn_s, wp1_s, lg_0, lg_s, lset_0, lset_s, kil_0, kil_s, st1_s, st2_s, isL_i, isL_l, isL_r, isL_n, spl_0, spl_s, cll_n, cll_s, catS_0, catS_s, jmp_s, alk_0, alk_s, otl_n, otl_s, List.nil_append, List.cons_append, List.contains_cons, List.contains_nil, Nat.reduceBEq, Bool.or_false, Bool.false_or, Bool.or_self, Bool.false_eq_true, Bool.true_or, Bool.or_true, if_true, if_false, ite_true, ite_false, ↓reduceIte, List.length_cons, List.length_nil, Nat.reduceAdd, Nat.reduceLT, Nat.reduceLeDiff, Nat.reduceEqDiff, Int.reduceAdd, Int.reduceLE, Int.toNat_natCast, Int.reduceToNat, Int.cast_ofNat_Int, true_and, and_true, true_implies, forall_const, eq_self, and_self, or_true, true_or, or_self, false_or, or_false, yI_sI, yR_sI, yC_sI, yN_sI, yI_sR, yR_sR, yC_sR, yN_sR, not_true_eq_false, not_false_eq_true, false_implies, implies_true, Nat.zero_add, Nat.add_zero, Nat.le_refl, Nat.reduceSub, Int.reduceSub, Int.reduceLT, Int.sub_zero, Int.sub_self, List.getElem?_toArray, List.getElem?_cons_zero, List.getElem?_cons_succ, Int.toNat_zero, Int.toNat_one, Int.lt_irrefl, pM_write_0, stp_iload_n, pM_write_1, stp_iconst, pM_write_2, pM_write_3, stp_invokestatic, qmM_165, cy_M_in, pM_write_6, stp_ifCond_ne, pM_write_9, stp_aload_n, pM_write_10, stp_bipush, pM_write_12, stp_invokevirtual, qmM_169, cy_M_refused, ms_C13 hS, pM_write_15, stp_ireturn, pM_write_16, pM_write_17, qmM_209, cy_M_isMark, pM_write_20, stp_ifCond_eq, pM_write_23, pM_write_24, pM_write_25, qmM_335, cy_M_find, pM_write_28, pM_write_29, stp_if_icmp_eq, pM_write_32, pM_write_33, pM_write_35, pM_write_38, pM_write_39, pM_write_40, stp_getfield, qfM_332, rp_13_63, pM_write_43, pM_write_45, stp_if_icmp_ne, pM_write_48, pM_write_49, pM_write_51, pM_write_54, pM_write_55, pM_write_56, qfM_153, rp_13_64, ms_R64 hS, ms_C164 hS, ms_N164 hS, pM_write_59, pM_write_60, pM_write_63, pM_write_64, stp_iastore, pM_write_65, pM_write_66, qfM_156, rp_13_65, ms_R65 hS, ms_C165 hS, ms_N165 hS, pM_write_69, pM_write_70, pM_write_73, pM_write_74, pM_write_75, pM_write_76, stp_dup, pM_write_77, pM_write_80, pM_write_81, stp_iadd, pM_write_82, stp_putfield, fi_13_63, nr_13_63, pM_write_85, pM_write_86, pM_write_89, ic_0, ic_5, bp_m3, ic_m1, bp_m7, bp_20, bp_m8, ic_1, nv_M_write, ml_M_write, fsM_in, ho, rfM_3 hS, lvM_write, lvM_isMark, lvM_refused, lvM_find, lvM_in, wrD, cl3, z3]
    · cases hm : inR m 0 9999
      · simp only [fv0, fv1, fv2, fv3, bI_0, bI_1, bft, MSh_sI_eq, fsP_T, inL_0, inL_s, pad_0, pad_n, pad_s, wpn_s, wp1_s, lg_0, lg_s, lset_0, lset_s, kil_0, kil_s, st1_s, st2_s, isL_i, isL_l, isL_r, isL_n, spl_0, spl_s, cll_n, cll_s, catS_0, catS_s, jmp_s, alk_0, alk_s, otl_n, otl_s, List.nil_append, List.cons_append, List.contains_cons, List.contains_nil, Nat.reduceBEq, Bool.or_false, Bool.false_or, Bool.or_self, Bool.false_eq_true, Bool.true_or, Bool.or_true, if_true, if_false, ite_true, ite_false, ↓reduceIte, List.length_cons, List.length_nil, Nat.reduceAdd, Nat.reduceLT, Nat.reduceLeDiff, Nat.reduceEqDiff, Int.reduceAdd, Int.reduceLE, Int.toNat_natCast, Int.reduceToNat, Int.cast_ofNat_Int, true_and, and_true, true_implies, forall_const, eq_self, and_self, or_true, true_or, or_self, false_or, or_false, yI_sI, yR_sI, yC_sI, yN_sI, yI_sR, yR_sR, yC_sR, yN_sR, not_true_eq_false, not_false_eq_true, false_implies, implies_true, Nat.zero_add, Nat.add_zero, Nat.le_refl, Nat.reduceSub, Int.reduceSub, Int.reduceLT, Int.sub_zero, Int.sub_self, List.getElem?_toArray, List.getElem?_cons_zero, List.getElem?_cons_succ, Int.toNat_zero, Int.toNat_one, Int.lt_irrefl, pM_write_0, stp_iload_n, pM_write_1, stp_iconst, pM_write_2, pM_write_3, stp_invokestatic, qmM_165, cy_M_in, pM_write_6, stp_ifCond_ne, pM_write_9, stp_aload_n, pM_write_10, stp_bipush, pM_write_12, stp_invokevirtual, qmM_169, cy_M_refused, ms_C13 hS, pM_write_15, stp_ireturn, pM_write_16, pM_write_17, qmM_209, cy_M_isMark, pM_write_20, stp_ifCond_eq, pM_write_23, pM_write_24, pM_write_25, qmM_335, cy_M_find, pM_write_28, pM_write_29, stp_if_icmp_eq, pM_write_32, pM_write_33, pM_write_35, pM_write_38, pM_write_39, pM_write_40, stp_getfield, qfM_332, rp_13_63, pM_write_43, pM_write_45, stp_if_icmp_ne, pM_write_48, pM_write_49, pM_write_51, pM_write_54, pM_write_55, pM_write_56, qfM_153, rp_13_64, ms_R64 hS, ms_C164 hS, ms_N164 hS, pM_write_59, pM_write_60, pM_write_63, pM_write_64, stp_iastore, pM_write_65, pM_write_66, qfM_156, rp_13_65, ms_R65 hS, ms_C165 hS, ms_N165 hS, pM_write_69, pM_write_70, pM_write_73, pM_write_74, pM_write_75, pM_write_76, stp_dup, pM_write_77, pM_write_80, pM_write_81, stp_iadd, pM_write_82, stp_putfield, fi_13_63, nr_13_63, pM_write_85, pM_write_86, pM_write_89, ic_0, ic_5, bp_m3, ic_m1, bp_m7, bp_20, bp_m8, ic_1, nv_M_write, ml_M_write, fsM_in, fsM_isMark, ho, hm, rfM_7 hS, lvM_write, lvM_isMark, lvM_refused, lvM_find, lvM_in, wrD, cl7, z7]
        simp
      · cases hf : fnd w m with
        | some k =>
          obtain ⟨hk, -⟩ := fstN_s hf
          have hk2 := h63.2
          have e3 : ¬ nI k = -1 := nI_nm1 (by omega)
          simp only [fv0, fv1, fv2, fv3, bI_0, bI_1, bft, MSh_sI_eq, fsP_T, inL_0, inL_s, pad_0, pad_n, pad_s, wpn_s, wp1_s, lg_0, lg_s, lset_0, lset_s, kil_0, kil_s, st1_s, st2_s, isL_i, isL_l, isL_r, isL_n, spl_0, spl_s, cll_n, cll_s, catS_0, catS_s, jmp_s, alk_0, alk_s, otl_n, otl_s, List.nil_append, List.cons_append, List.contains_cons, List.contains_nil, Nat.reduceBEq, Bool.or_false, Bool.false_or, Bool.or_self, Bool.false_eq_true, Bool.true_or, Bool.or_true, if_true, if_false, ite_true, ite_false, ↓reduceIte, List.length_cons, List.length_nil, Nat.reduceAdd, Nat.reduceLT, Nat.reduceLeDiff, Nat.reduceEqDiff, Int.reduceAdd, Int.reduceLE, Int.toNat_natCast, Int.reduceToNat, Int.cast_ofNat_Int, true_and, and_true, true_implies, forall_const, eq_self, and_self, or_true, true_or, or_self, false_or, or_false, yI_sI, yR_sI, yC_sI, yN_sI, yI_sR, yR_sR, yC_sR, yN_sR, not_true_eq_false, not_false_eq_true, false_implies, implies_true, Nat.zero_add, Nat.add_zero, Nat.le_refl, Nat.reduceSub, Int.reduceSub, Int.reduceLT, Int.sub_zero, Int.sub_self, List.getElem?_toArray, List.getElem?_cons_zero, List.getElem?_cons_succ, Int.toNat_zero, Int.toNat_one, Int.lt_irrefl, pM_write_0, stp_iload_n, pM_write_1, stp_iconst, pM_write_2, pM_write_3, stp_invokestatic, qmM_165, cy_M_in, pM_write_6, stp_ifCond_ne, pM_write_9, stp_aload_n, pM_write_10, stp_bipush, pM_write_12, stp_invokevirtual, qmM_169, cy_M_refused, ms_C13 hS, pM_write_15, stp_ireturn, pM_write_16, pM_write_17, qmM_209, cy_M_isMark, pM_write_20, stp_ifCond_eq, pM_write_23, pM_write_24, pM_write_25, qmM_335, cy_M_find, pM_write_28, pM_write_29, stp_if_icmp_eq, pM_write_32, pM_write_33, pM_write_35, pM_write_38, pM_write_39, pM_write_40, stp_getfield, qfM_332, rp_13_63, pM_write_43, pM_write_45, stp_if_icmp_ne, pM_write_48, pM_write_49, pM_write_51, pM_write_54, pM_write_55, pM_write_56, qfM_153, rp_13_64, ms_R64 hS, ms_C164 hS, ms_N164 hS, pM_write_59, pM_write_60, pM_write_63, pM_write_64, stp_iastore, pM_write_65, pM_write_66, qfM_156, rp_13_65, ms_R65 hS, ms_C165 hS, ms_N165 hS, pM_write_69, pM_write_70, pM_write_73, pM_write_74, pM_write_75, pM_write_76, stp_dup, pM_write_77, pM_write_80, pM_write_81, stp_iadd, pM_write_82, stp_putfield, fi_13_63, nr_13_63, pM_write_85, pM_write_86, pM_write_89, ic_0, ic_5, bp_m3, ic_m1, bp_m7, bp_20, bp_m8, ic_1, nv_M_write, ml_M_write, fsM_in, fsM_isMark, ho, hm, ruM_find hS h63, hf, oI_s, e3, rfM_7 hS, lvM_write, lvM_isMark, lvM_refused, lvM_find, lvM_in, wrD, cl7, z7]
          simp [z7, cl7]
        | none =>
          by_cases h20 : wI w 13 0 63 = 20
          · simp only [fv0, fv1, fv2, fv3, bI_0, bI_1, bft, MSh_sI_eq, fsP_T, inL_0, inL_s, pad_0, pad_n, pad_s, wpn_s, wp1_s, lg_0, lg_s, lset_0, lset_s, kil_0, kil_s, st1_s, st2_s, isL_i, isL_l, isL_r, isL_n, spl_0, spl_s, cll_n, cll_s, catS_0, catS_s, jmp_s, alk_0, alk_s, otl_n, otl_s, List.nil_append, List.cons_append, List.contains_cons, List.contains_nil, Nat.reduceBEq, Bool.or_false, Bool.false_or, Bool.or_self, Bool.false_eq_true, Bool.true_or, Bool.or_true, if_true, if_false, ite_true, ite_false, ↓reduceIte, List.length_cons, List.length_nil, Nat.reduceAdd, Nat.reduceLT, Nat.reduceLeDiff, Nat.reduceEqDiff, Int.reduceAdd, Int.reduceLE, Int.toNat_natCast, Int.reduceToNat, Int.cast_ofNat_Int, true_and, and_true, true_implies, forall_const, eq_self, and_self, or_true, true_or, or_self, false_or, or_false, yI_sI, yR_sI, yC_sI, yN_sI, yI_sR, yR_sR, yC_sR, yN_sR, not_true_eq_false, not_false_eq_true, false_implies, implies_true, Nat.zero_add, Nat.add_zero, Nat.le_refl, Nat.reduceSub, Int.reduceSub, Int.reduceLT, Int.sub_zero, Int.sub_self, List.getElem?_toArray, List.getElem?_cons_zero, List.getElem?_cons_succ, Int.toNat_zero, Int.toNat_one, Int.lt_irrefl, pM_write_0, stp_iload_n, pM_write_1, stp_iconst, pM_write_2, pM_write_3, stp_invokestatic, qmM_165, cy_M_in, pM_write_6, stp_ifCond_ne, pM_write_9, stp_aload_n, pM_write_10, stp_bipush, pM_write_12, stp_invokevirtual, qmM_169, cy_M_refused, ms_C13 hS, pM_write_15, stp_ireturn, pM_write_16, pM_write_17, qmM_209, cy_M_isMark, pM_write_20, stp_ifCond_eq, pM_write_23, pM_write_24, pM_write_25, qmM_335, cy_M_find, pM_write_28, pM_write_29, stp_if_icmp_eq, pM_write_32, pM_write_33, pM_write_35, pM_write_38, pM_write_39, pM_write_40, stp_getfield, qfM_332, rp_13_63, pM_write_43, pM_write_45, stp_if_icmp_ne, pM_write_48, pM_write_49, pM_write_51, pM_write_54, pM_write_55, pM_write_56, qfM_153, rp_13_64, ms_R64 hS, ms_C164 hS, ms_N164 hS, pM_write_59, pM_write_60, pM_write_63, pM_write_64, stp_iastore, pM_write_65, pM_write_66, qfM_156, rp_13_65, ms_R65 hS, ms_C165 hS, ms_N165 hS, pM_write_69, pM_write_70, pM_write_73, pM_write_74, pM_write_75, pM_write_76, stp_dup, pM_write_77, pM_write_80, pM_write_81, stp_iadd, pM_write_82, stp_putfield, fi_13_63, nr_13_63, pM_write_85, pM_write_86, pM_write_89, ic_0, ic_5, bp_m3, ic_m1, bp_m7, bp_20, bp_m8, ic_1, nv_M_write, ml_M_write, fsM_in, fsM_isMark, ho, hm, ruM_find hS h63, hf, oI_n, rfM_8 hS, h20, lvM_write, lvM_isMark, lvM_refused, lvM_find, lvM_in, wrD, cl8, z8]
            simp [z8, cl8]
          · have hlt : cn w 63 < 20 := by
              have h2 := h63.2
              rcases Nat.lt_or_ge (cn w 63) 20 with q | q
              · exact q
              · exfalso
                apply h20
                rw [h63.1, show cn w 63 = 20 by omega]
                rfl
            have e1 : vp_in (wI w 13 0 63) 20 := by rw [h63.1]; exact vp_in_nI hlt (by omega)
            simp only [fv0, fv1, fv2, fv3, bI_0, bI_1, bft, MSh_sI_eq, fsP_T, inL_0, inL_s, pad_0, pad_n, pad_s, wpn_s, wp1_s, lg_0, lg_s, lset_0, lset_s, kil_0, kil_s, st1_s, st2_s, isL_i, isL_l, isL_r, isL_n, spl_0, spl_s, cll_n, cll_s, catS_0, catS_s, jmp_s, alk_0, alk_s, otl_n, otl_s, List.nil_append, List.cons_append, List.contains_cons, List.contains_nil, Nat.reduceBEq, Bool.or_false, Bool.false_or, Bool.or_self, Bool.false_eq_true, Bool.true_or, Bool.or_true, if_true, if_false, ite_true, ite_false, ↓reduceIte, List.length_cons, List.length_nil, Nat.reduceAdd, Nat.reduceLT, Nat.reduceLeDiff, Nat.reduceEqDiff, Int.reduceAdd, Int.reduceLE, Int.toNat_natCast, Int.reduceToNat, Int.cast_ofNat_Int, true_and, and_true, true_implies, forall_const, eq_self, and_self, or_true, true_or, or_self, false_or, or_false, yI_sI, yR_sI, yC_sI, yN_sI, yI_sR, yR_sR, yC_sR, yN_sR, not_true_eq_false, not_false_eq_true, false_implies, implies_true, Nat.zero_add, Nat.add_zero, Nat.le_refl, Nat.reduceSub, Int.reduceSub, Int.reduceLT, Int.sub_zero, Int.sub_self, List.getElem?_toArray, List.getElem?_cons_zero, List.getElem?_cons_succ, Int.toNat_zero, Int.toNat_one, Int.lt_irrefl, pM_write_0, stp_iload_n, pM_write_1, stp_iconst, pM_write_2, pM_write_3, stp_invokestatic, qmM_165, cy_M_in, pM_write_6, stp_ifCond_ne, pM_write_9, stp_aload_n, pM_write_10, stp_bipush, pM_write_12, stp_invokevirtual, qmM_169, cy_M_refused, ms_C13 hS, pM_write_15, stp_ireturn, pM_write_16, pM_write_17, qmM_209, cy_M_isMark, pM_write_20, stp_ifCond_eq, pM_write_23, pM_write_24, pM_write_25, qmM_335, cy_M_find, pM_write_28, pM_write_29, stp_if_icmp_eq, pM_write_32, pM_write_33, pM_write_35, pM_write_38, pM_write_39, pM_write_40, stp_getfield, qfM_332, rp_13_63, pM_write_43, pM_write_45, stp_if_icmp_ne, pM_write_48, pM_write_49, pM_write_51, pM_write_54, pM_write_55, pM_write_56, qfM_153, rp_13_64, ms_R64 hS, ms_C164 hS, ms_N164 hS, pM_write_59, pM_write_60, pM_write_63, pM_write_64, stp_iastore, pM_write_65, pM_write_66, qfM_156, rp_13_65, ms_R65 hS, ms_C165 hS, ms_N165 hS, pM_write_69, pM_write_70, pM_write_73, pM_write_74, pM_write_75, pM_write_76, stp_dup, pM_write_77, pM_write_80, pM_write_81, stp_iadd, pM_write_82, stp_putfield, fi_13_63, nr_13_63, pM_write_85, pM_write_86, pM_write_89, ic_0, ic_5, bp_m3, ic_m1, bp_m7, bp_20, bp_m8, ic_1, nv_M_write, ml_M_write, fsM_in, fsM_isMark, ho, hm, ruM_find hS h63, hf, oI_n, h20, e1, lvM_write, lvM_isMark, lvM_refused, lvM_find, lvM_in, wrD]
            simp [wrW, cn, wI_sI, e1]
  · cases h
