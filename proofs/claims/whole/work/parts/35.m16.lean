/-! run and forget of the reference -/
/-- stretches kept of the first n -/
def fgC (w : Wd) : Nat → Nat
  | 0 => 0
  | n + 1 => if wI w 13 0 2 < wI w 116 0 n then fgC w n + 1 else fgC w n
def fgU (w : Wd) : Nat → Wd
  | 0 => w
  | n + 1 => if wI w 13 0 2 < wI w 116 0 n then sI (sI (sI (fgU w n) 114 0 (fgC w n) (wI w 114 0 n)) 115 0 (fgC w n) (wI w 115 0 n)) 116 0 (fgC w n) (wI w 116 0 n) else fgU w n
theorem fgC_le (w : Wd) (n : Nat) : fgC w n ≤ n := by
  induction n with
  | zero => exact Nat.le_refl _
  | succ n ih => simp only [fgC]; split <;> omega
theorem fgU_2 (w : Wd) (n : Nat) : (fgU w n).2 = w.2 := by
  induction n with
  | zero => rfl
  | succ n ih => simp only [fgU]; split <;> simpa [sI] using ih
theorem MSh_fgU {w : Wd} {n : Nat} (h : MSh w) : MSh (fgU w n) := by
  have e := fgU_2 w n
  unfold MSh wC wR wN at h ⊢
  rw [e]
  exact h
theorem fgU_t (w : Wd) (n t k i : Nat) (h : ¬ (t = 114 ∨ t = 115 ∨ t = 116) ∨ ¬ k = 0 ∨ n ≤ i) : wI (fgU w n) t k i = wI w t k i := by
  induction n with
  | zero => rfl
  | succ n ih =>
    have ih := ih (by omega)
    have := fgC_le w n
    simp only [fgU]
    split
    · have h1 : ¬ (t = 116 ∧ k = 0 ∧ i = fgC w n) := by omega
      have h2 : ¬ (t = 115 ∧ k = 0 ∧ i = fgC w n) := by omega
      have h3 : ¬ (t = 114 ∧ k = 0 ∧ i = fgC w n) := by omega
      simp only [yI_sI, h1, h2, h3, if_false]
      exact ih
    · exact ih
/-- what is past is forgotten -/
def fgW (w : Wd) : Wd := sI (fgU w (cn w 13)) 13 0 13 (nI (fgC w (cn w 13)))
section
variable {l : Launch} {G : Gc} {n : Nat} {Q : Option AV → Wd → Prop} {w : Wd}
set_option maxRecDepth 100000 in
set_option maxHeartbeats 4000000 in
theorem lpM_forget (hS : MSh w) (h13 : okc w 13 500) (hQ : Q none (fgW w)) : ∀ k i, i + k = cn w 13 → WP l G mM_forget n 0 0 Q 4 [some aM, some (.inl (nI (fgC w i))), some (.inl (nI i))] [] (fgU w i) 0 0
  | 0, i, hi => by
    have e : i = cn w 13 := hi
    subst e
    have hS' := MSh_fgU (n := cn w 13) hS
    have e1 := fgU_t w (cn w 13) 13 0 13 (by omega)
    have : wI w 13 0 13 ≤ nI (cn w 13) := by rw [h13.1]; exact Int32.le_refl _
    refine wpn_ok (M := mM_forget) (C := cenM) (X := (alk [])) (tb := tM_forget) (st := [4]) eoM XOk_nil kM_forget 60 _ _ _ _ _ _ ?_
    simp only [reduceCtorEq, fv0, fv1, fv2, fv3, bI_0, bI_1, bft, MSh_sI_eq, fsP_T, inL_0, inL_s, pad_0, pad_n, pad_s, wpn_s, wp1_s, lg_0, lg_s, lset_0, lset_s, kil_0, kil_s, st1_s, st2_s, isL_i, isL_l, isL_r, isL_n, spl_0, spl_s, cll_n, cll_s, catS_0, catS_s, jmp_s, alk_0, alk_s, otl_n, otl_s, List.nil_append, List.cons_append, List.contains_cons, List.contains_nil, Nat.reduceBEq, Bool.or_false, Bool.false_or, Bool.or_self, Bool.false_eq_true, Bool.true_or, Bool.or_true, if_true, if_false, ite_true, ite_false, ↓reduceIte, List.length_cons, List.length_nil, Nat.reduceAdd, Nat.reduceLT, Nat.reduceLeDiff, Nat.reduceEqDiff, Int.reduceAdd, Int.reduceLE, Int.toNat_natCast, Int.reduceToNat, Int.cast_ofNat_Int, true_and, and_true, false_and, and_false, true_implies, forall_const, eq_self, and_self, or_true, true_or, or_self, false_or, or_false, yI_sI, yR_sI, yC_sI, yN_sI, yI_sR, yR_sR, yC_sR, yN_sR, not_true_eq_false, not_false_eq_true, false_implies, implies_true, Nat.zero_add, Nat.add_zero, Nat.le_refl, Nat.reduceSub, Int.reduceSub, Int.reduceLT, Int.sub_zero, Int.sub_self, List.getElem?_toArray, List.getElem?_cons_zero, List.getElem?_cons_succ, Int.toNat_zero, Int.toNat_one, Int.lt_irrefl, yI_sB, yR_sB, yC_sB, yN_sB, MSh_sB_eq, pM_forget_0, stp_iconst, pM_forget_1, stp_istore_n, pM_forget_2, pM_forget_3, pM_forget_4, stp_iload_n, pM_forget_5, stp_aload_n, pM_forget_6, stp_getfield, qfM_194, rp_13_13, ms_C13 hS', pM_forget_9, stp_if_icmp_ge, pM_forget_12, pM_forget_13, qfM_40, rp_13_16, ms_R16 hS', ms_C116 hS', ms_N116 hS', pM_forget_16, pM_forget_17, stp_iaload, pM_forget_18, pM_forget_19, qfM_200, rp_13_2, pM_forget_22, stp_if_icmp_gt, pM_forget_25, stp_goto, pM_forget_28, pM_forget_29, qfM_34, rp_13_14, ms_R14 hS', ms_C114 hS', ms_N114 hS', pM_forget_32, pM_forget_33, pM_forget_34, pM_forget_37, pM_forget_38, pM_forget_39, stp_iastore, pM_forget_40, pM_forget_41, qfM_37, rp_13_15, ms_R15 hS', ms_C115 hS', ms_N115 hS', pM_forget_44, pM_forget_45, pM_forget_46, pM_forget_49, pM_forget_50, pM_forget_51, pM_forget_52, pM_forget_53, pM_forget_56, pM_forget_57, pM_forget_58, pM_forget_61, pM_forget_62, pM_forget_63, pM_forget_64, stp_iinc, pM_forget_67, pM_forget_70, pM_forget_73, pM_forget_74, pM_forget_75, stp_putfield, fi_13_13, nr_13_13, pM_forget_78, stp_return_, ic_0, ic_1, nv_M_forget, ml_M_forget, e1, this]
    exact hQ
  | k + 1, i, hi => by
    have ih := lpM_forget hS h13 hQ k (i + 1) (by omega)
    have hS' := MSh_fgU (n := i) hS
    have hb := h13.2
    have hc := fgC_le w i
    have h1 : ¬ wI w 13 0 13 ≤ nI i := by rw [h13.1]; exact nI_ge (by omega) (by omega)
    have h2 : vp_in (nI i) 500 := vp_in_nI (by omega) (by omega)
    have h3 : (nI i).toNatClampNeg = i := nI_clamp (by omega)
    have h4 : vp_in (nI (fgC w i)) 500 := vp_in_nI (by omega) (by omega)
    have h5 : (nI (fgC w i)).toNatClampNeg = fgC w i := nI_clamp (by omega)
    have e1 := fgU_t w i 13 0 13 (by omega)
    have e2 := fgU_t w i 13 0 2 (by omega)
    have e3 := fgU_t w i 114 0 i (by omega)
    have e4 := fgU_t w i 115 0 i (by omega)
    have e5 := fgU_t w i 116 0 i (by omega)
    refine wpn_ok (M := mM_forget) (C := cenM) (X := (alk [])) (tb := tM_forget) (st := [4]) eoM XOk_nil kM_forget 60 _ _ _ _ _ _ ?_
    by_cases ha : wI w 13 0 2 < wI w 116 0 i
    · simp only [fgC, fgU, ha, if_true] at ih
      simp only [reduceCtorEq, fv0, fv1, fv2, fv3, bI_0, bI_1, bft, MSh_sI_eq, fsP_T, inL_0, inL_s, pad_0, pad_n, pad_s, wpn_s, wp1_s, lg_0, lg_s, lset_0, lset_s, kil_0, kil_s, st1_s, st2_s, isL_i, isL_l, isL_r, isL_n, spl_0, spl_s, cll_n, cll_s, catS_0, catS_s, jmp_s, alk_0, alk_s, otl_n, otl_s, List.nil_append, List.cons_append, List.contains_cons, List.contains_nil, Nat.reduceBEq, Bool.or_false, Bool.false_or, Bool.or_self, Bool.false_eq_true, Bool.true_or, Bool.or_true, if_true, if_false, ite_true, ite_false, ↓reduceIte, List.length_cons, List.length_nil, Nat.reduceAdd, Nat.reduceLT, Nat.reduceLeDiff, Nat.reduceEqDiff, Int.reduceAdd, Int.reduceLE, Int.toNat_natCast, Int.reduceToNat, Int.cast_ofNat_Int, true_and, and_true, false_and, and_false, true_implies, forall_const, eq_self, and_self, or_true, true_or, or_self, false_or, or_false, yI_sI, yR_sI, yC_sI, yN_sI, yI_sR, yR_sR, yC_sR, yN_sR, not_true_eq_false, not_false_eq_true, false_implies, implies_true, Nat.zero_add, Nat.add_zero, Nat.le_refl, Nat.reduceSub, Int.reduceSub, Int.reduceLT, Int.sub_zero, Int.sub_self, List.getElem?_toArray, List.getElem?_cons_zero, List.getElem?_cons_succ, Int.toNat_zero, Int.toNat_one, Int.lt_irrefl, yI_sB, yR_sB, yC_sB, yN_sB, MSh_sB_eq, pM_forget_0, stp_iconst, pM_forget_1, stp_istore_n, pM_forget_2, pM_forget_3, pM_forget_4, stp_iload_n, pM_forget_5, stp_aload_n, pM_forget_6, stp_getfield, qfM_194, rp_13_13, ms_C13 hS', pM_forget_9, stp_if_icmp_ge, pM_forget_12, pM_forget_13, qfM_40, rp_13_16, ms_R16 hS', ms_C116 hS', ms_N116 hS', pM_forget_16, pM_forget_17, stp_iaload, pM_forget_18, pM_forget_19, qfM_200, rp_13_2, pM_forget_22, stp_if_icmp_gt, pM_forget_25, stp_goto, pM_forget_28, pM_forget_29, qfM_34, rp_13_14, ms_R14 hS', ms_C114 hS', ms_N114 hS', pM_forget_32, pM_forget_33, pM_forget_34, pM_forget_37, pM_forget_38, pM_forget_39, stp_iastore, pM_forget_40, pM_forget_41, qfM_37, rp_13_15, ms_R15 hS', ms_C115 hS', ms_N115 hS', pM_forget_44, pM_forget_45, pM_forget_46, pM_forget_49, pM_forget_50, pM_forget_51, pM_forget_52, pM_forget_53, pM_forget_56, pM_forget_57, pM_forget_58, pM_forget_61, pM_forget_62, pM_forget_63, pM_forget_64, stp_iinc, pM_forget_67, pM_forget_70, pM_forget_73, pM_forget_74, pM_forget_75, stp_putfield, fi_13_13, nr_13_13, pM_forget_78, stp_return_, ic_0, ic_1, nv_M_forget, ml_M_forget, e1, e2, e3, e4, e5, h1, h2, h3, h4, h5, ha, nI_1]
      exact ih
    · simp only [fgC, fgU, ha, if_false] at ih
      simp only [reduceCtorEq, fv0, fv1, fv2, fv3, bI_0, bI_1, bft, MSh_sI_eq, fsP_T, inL_0, inL_s, pad_0, pad_n, pad_s, wpn_s, wp1_s, lg_0, lg_s, lset_0, lset_s, kil_0, kil_s, st1_s, st2_s, isL_i, isL_l, isL_r, isL_n, spl_0, spl_s, cll_n, cll_s, catS_0, catS_s, jmp_s, alk_0, alk_s, otl_n, otl_s, List.nil_append, List.cons_append, List.contains_cons, List.contains_nil, Nat.reduceBEq, Bool.or_false, Bool.false_or, Bool.or_self, Bool.false_eq_true, Bool.true_or, Bool.or_true, if_true, if_false, ite_true, ite_false, ↓reduceIte, List.length_cons, List.length_nil, Nat.reduceAdd, Nat.reduceLT, Nat.reduceLeDiff, Nat.reduceEqDiff, Int.reduceAdd, Int.reduceLE, Int.toNat_natCast, Int.reduceToNat, Int.cast_ofNat_Int, true_and, and_true, false_and, and_false, true_implies, forall_const, eq_self, and_self, or_true, true_or, or_self, false_or, or_false, yI_sI, yR_sI, yC_sI, yN_sI, yI_sR, yR_sR, yC_sR, yN_sR, not_true_eq_false, not_false_eq_true, false_implies, implies_true, Nat.zero_add, Nat.add_zero, Nat.le_refl, Nat.reduceSub, Int.reduceSub, Int.reduceLT, Int.sub_zero, Int.sub_self, List.getElem?_toArray, List.getElem?_cons_zero, List.getElem?_cons_succ, Int.toNat_zero, Int.toNat_one, Int.lt_irrefl, yI_sB, yR_sB, yC_sB, yN_sB, MSh_sB_eq, pM_forget_0, stp_iconst, pM_forget_1, stp_istore_n, pM_forget_2, pM_forget_3, pM_forget_4, stp_iload_n, pM_forget_5, stp_aload_n, pM_forget_6, stp_getfield, qfM_194, rp_13_13, ms_C13 hS', pM_forget_9, stp_if_icmp_ge, pM_forget_12, pM_forget_13, qfM_40, rp_13_16, ms_R16 hS', ms_C116 hS', ms_N116 hS', pM_forget_16, pM_forget_17, stp_iaload, pM_forget_18, pM_forget_19, qfM_200, rp_13_2, pM_forget_22, stp_if_icmp_gt, pM_forget_25, stp_goto, pM_forget_28, pM_forget_29, qfM_34, rp_13_14, ms_R14 hS', ms_C114 hS', ms_N114 hS', pM_forget_32, pM_forget_33, pM_forget_34, pM_forget_37, pM_forget_38, pM_forget_39, stp_iastore, pM_forget_40, pM_forget_41, qfM_37, rp_13_15, ms_R15 hS', ms_C115 hS', ms_N115 hS', pM_forget_44, pM_forget_45, pM_forget_46, pM_forget_49, pM_forget_50, pM_forget_51, pM_forget_52, pM_forget_53, pM_forget_56, pM_forget_57, pM_forget_58, pM_forget_61, pM_forget_62, pM_forget_63, pM_forget_64, stp_iinc, pM_forget_67, pM_forget_70, pM_forget_73, pM_forget_74, pM_forget_75, stp_putfield, fi_13_13, nr_13_13, pM_forget_78, stp_return_, ic_0, ic_1, nv_M_forget, ml_M_forget, e1, e2, e3, e4, e5, h1, h2, h3, h4, h5, ha, nI_1]
      exact ih
end
abbrev lvM_forget : Nat := 1
noncomputable def fsM_forget : FS := fun as w => match as with
  | [.inr (.inr (some (13, 0)))] => fsP (MSh w ∧ okc w 13 500) (none, fgW w)
  | _ => none
set_option maxRecDepth 100000 in
set_option maxHeartbeats 4000000 in
theorem okM_forget (l : Launch) (G : Gc) : FsOk l G mM_forget lvM_forget fsM_forget := by
  intro as w r w' h
  simp only [fsM_forget] at h
  split at h
  · obtain ⟨⟨hS, h13⟩, h⟩ := fsP_s h
    cases h
    refine Sem_of (by decide) rfl (Nat.le_of_ble_eq_true rfl) ?_
    refine wpn_ok (M := mM_forget) (C := cenM) (X := (alk [])) (tb := tM_forget) (st := [4]) eoM XOk_nil kM_forget 60 _ _ _ _ _ _ ?_
    simp only [reduceCtorEq, fv0, fv1, fv2, fv3, bI_0, bI_1, bft, MSh_sI_eq, fsP_T, inL_0, inL_s, pad_0, pad_n, pad_s, wpn_s, wp1_s, lg_0, lg_s, lset_0, lset_s, kil_0, kil_s, st1_s, st2_s, isL_i, isL_l, isL_r, isL_n, spl_0, spl_s, cll_n, cll_s, catS_0, catS_s, jmp_s, alk_0, alk_s, otl_n, otl_s, List.nil_append, List.cons_append, List.contains_cons, List.contains_nil, Nat.reduceBEq, Bool.or_false, Bool.false_or, Bool.or_self, Bool.false_eq_true, Bool.true_or, Bool.or_true, if_true, if_false, ite_true, ite_false, ↓reduceIte, List.length_cons, List.length_nil, Nat.reduceAdd, Nat.reduceLT, Nat.reduceLeDiff, Nat.reduceEqDiff, Int.reduceAdd, Int.reduceLE, Int.toNat_natCast, Int.reduceToNat, Int.cast_ofNat_Int, true_and, and_true, false_and, and_false, true_implies, forall_const, eq_self, and_self, or_true, true_or, or_self, false_or, or_false, yI_sI, yR_sI, yC_sI, yN_sI, yI_sR, yR_sR, yC_sR, yN_sR, not_true_eq_false, not_false_eq_true, false_implies, implies_true, Nat.zero_add, Nat.add_zero, Nat.le_refl, Nat.reduceSub, Int.reduceSub, Int.reduceLT, Int.sub_zero, Int.sub_self, List.getElem?_toArray, List.getElem?_cons_zero, List.getElem?_cons_succ, Int.toNat_zero, Int.toNat_one, Int.lt_irrefl, yI_sB, yR_sB, yC_sB, yN_sB, MSh_sB_eq, pM_forget_0, stp_iconst, pM_forget_1, stp_istore_n, pM_forget_2, pM_forget_3, pM_forget_4, stp_iload_n, pM_forget_5, stp_aload_n, pM_forget_6, stp_getfield, qfM_194, rp_13_13, ms_C13 hS, pM_forget_9, stp_if_icmp_ge, pM_forget_12, pM_forget_13, qfM_40, rp_13_16, ms_R16 hS, ms_C116 hS, ms_N116 hS, pM_forget_16, pM_forget_17, stp_iaload, pM_forget_18, pM_forget_19, qfM_200, rp_13_2, pM_forget_22, stp_if_icmp_gt, pM_forget_25, stp_goto, pM_forget_28, pM_forget_29, qfM_34, rp_13_14, ms_R14 hS, ms_C114 hS, ms_N114 hS, pM_forget_32, pM_forget_33, pM_forget_34, pM_forget_37, pM_forget_38, pM_forget_39, stp_iastore, pM_forget_40, pM_forget_41, qfM_37, rp_13_15, ms_R15 hS, ms_C115 hS, ms_N115 hS, pM_forget_44, pM_forget_45, pM_forget_46, pM_forget_49, pM_forget_50, pM_forget_51, pM_forget_52, pM_forget_53, pM_forget_56, pM_forget_57, pM_forget_58, pM_forget_61, pM_forget_62, pM_forget_63, pM_forget_64, stp_iinc, pM_forget_67, pM_forget_70, pM_forget_73, pM_forget_74, pM_forget_75, stp_putfield, fi_13_13, nr_13_13, pM_forget_78, stp_return_, ic_0, ic_1, nv_M_forget, ml_M_forget]
    exact lpM_forget hS h13 ⟨rfl, rfl⟩ (cn w 13) 0 (by omega)
  · cases h
theorem ruM_forget {w : Wd} (hS : MSh w) (h13 : okc w 13 500) : fsM_forget [.inr (.inr (some (13, 0)))] w = some (none, fgW w) := fsP_t ⟨hS, h13⟩
/-- a lot that has come by now -/
def rnB (w : Wd) (j : Nat) : Bool := !decide (wI w 125 0 j = -1) && decide (wI w 125 0 j ≤ wI w 13 0 2)
def rnU (w : Wd) : Nat → Wd
  | 0 => w
  | n + 1 => if rnB w n = true then sI (sI (sI (rnU w n) 123 0 n (wI w 124 0 n)) 124 0 n (-1)) 125 0 n (-1) else rnU w n
theorem rnU_2 (w : Wd) (n : Nat) : (rnU w n).2 = w.2 := by
  induction n with
  | zero => rfl
  | succ n ih => simp only [rnU]; split <;> simpa [sI] using ih
theorem MSh_rnU {w : Wd} {n : Nat} (h : MSh w) : MSh (rnU w n) := by
  have e := rnU_2 w n
  unfold MSh wC wR wN at h ⊢
  rw [e]
  exact h
theorem rnU_t (w : Wd) (n t k i : Nat) (h : ¬ (t = 123 ∨ t = 124 ∨ t = 125) ∨ ¬ k = 0 ∨ n ≤ i) : wI (rnU w n) t k i = wI w t k i := by
  induction n with
  | zero => rfl
  | succ n ih =>
    have ih := ih (by omega)
    simp only [rnU]
    split
    · have h1 : ¬ (t = 125 ∧ k = 0 ∧ i = n) := by omega
      have h2 : ¬ (t = 124 ∧ k = 0 ∧ i = n) := by omega
      have h3 : ¬ (t = 123 ∧ k = 0 ∧ i = n) := by omega
      simp only [yI_sI, h1, h2, h3, if_false]
      exact ih
    · exact ih
def rnW (w : Wd) : Wd := fgW (rnU w (cn w 17))
section
variable {l : Launch} {G : Gc} {n : Nat} {Q : Option AV → Wd → Prop} {w : Wd}
set_option maxRecDepth 100000 in
set_option maxHeartbeats 4000000 in
theorem lpM_run {x : Int32} (hl1 : 1 < n) (hS : MSh w) (h17 : okc w 17 24) (h13 : okc w 13 500) (hQ : Q (some (.inl (cntN (rnB w) (cn w 17)))) (rnW w)) : ∀ k i, i + k = cn w 17 → WP l G mM_run n 0 0 Q 43 [some aM, some (.inl x), some (.inl (cntN (rnB w) i)), some (.inl (nI i))] [] (rnU w i) 0 0
  | 0, i, hi => by
    have e : i = cn w 17 := hi
    subst e
    have hS' := MSh_rnU (n := cn w 17) hS
    have e1 := rnU_t w (cn w 17) 13 0 17 (by omega)
    have e2 := rnU_t w (cn w 17) 13 0 13 (by omega)
    have ru := ruM_forget hS' (by unfold okc cn at h13 ⊢; unfold cn at e2; rw [e2]; exact h13)
    have : wI w 13 0 17 ≤ nI (cn w 17) := by rw [h17.1]; exact Int32.le_refl _
    refine wpn_ok (M := mM_run) (C := cenM) (X := (alk [(341, lvM_forget, fsM_forget)])) (tb := tM_run) (st := [43]) eoM (XOk_cons qmM_341 (okM_forget l G) XOk_nil) kM_run 60 _ _ _ _ _ _ ?_
    simp only [reduceCtorEq, fv0, fv1, fv2, fv3, bI_0, bI_1, bft, MSh_sI_eq, fsP_T, inL_0, inL_s, pad_0, pad_n, pad_s, wpn_s, wp1_s, lg_0, lg_s, lset_0, lset_s, kil_0, kil_s, st1_s, st2_s, isL_i, isL_l, isL_r, isL_n, spl_0, spl_s, cll_n, cll_s, catS_0, catS_s, jmp_s, alk_0, alk_s, otl_n, otl_s, List.nil_append, List.cons_append, List.contains_cons, List.contains_nil, Nat.reduceBEq, Bool.or_false, Bool.false_or, Bool.or_self, Bool.false_eq_true, Bool.true_or, Bool.or_true, if_true, if_false, ite_true, ite_false, ↓reduceIte, List.length_cons, List.length_nil, Nat.reduceAdd, Nat.reduceLT, Nat.reduceLeDiff, Nat.reduceEqDiff, Int.reduceAdd, Int.reduceLE, Int.toNat_natCast, Int.reduceToNat, Int.cast_ofNat_Int, true_and, and_true, false_and, and_false, true_implies, forall_const, eq_self, and_self, or_true, true_or, or_self, false_or, or_false, yI_sI, yR_sI, yC_sI, yN_sI, yI_sR, yR_sR, yC_sR, yN_sR, not_true_eq_false, not_false_eq_true, false_implies, implies_true, Nat.zero_add, Nat.add_zero, Nat.le_refl, Nat.reduceSub, Int.reduceSub, Int.reduceLT, Int.sub_zero, Int.sub_self, List.getElem?_toArray, List.getElem?_cons_zero, List.getElem?_cons_succ, Int.toNat_zero, Int.toNat_one, Int.lt_irrefl, yI_sB, yR_sB, yC_sB, yN_sB, MSh_sB_eq, pM_run_0, stp_iload_n, pM_run_1, stp_ifCond_ge, pM_run_4, stp_aload_n, pM_run_5, stp_bipush, pM_run_7, stp_invokevirtual, qmM_169, cy_M_refused, ms_C13 hS', pM_run_10, stp_ireturn, pM_run_11, pM_run_12, stp_iconst, pM_run_13, stp_sipush, pM_run_16, stp_invokestatic, qmM_165, cy_M_in, pM_run_19, stp_ifCond_ne, pM_run_22, pM_run_23, pM_run_25, pM_run_28, pM_run_29, pM_run_30, stp_dup, pM_run_31, stp_getfield, qfM_200, rp_13_2, pM_run_34, pM_run_35, stp_iadd, pM_run_36, stp_putfield, fi_13_2, nr_13_2, pM_run_39, pM_run_40, stp_istore_n, pM_run_41, pM_run_42, pM_run_43, pM_run_44, pM_run_45, qfM_206, rp_13_17, pM_run_48, stp_if_icmp_ge, pM_run_51, pM_run_52, qfM_64, rp_13_25, ms_R25 hS', ms_C125 hS', ms_N125 hS', pM_run_55, pM_run_56, stp_iaload, pM_run_57, pM_run_58, stp_if_icmp_eq, pM_run_61, pM_run_62, pM_run_65, pM_run_66, pM_run_67, pM_run_68, pM_run_71, stp_if_icmp_le, pM_run_74, stp_goto, pM_run_77, pM_run_78, qfM_58, rp_13_23, ms_R23 hS', ms_C123 hS', ms_N123 hS', pM_run_81, pM_run_82, pM_run_83, qfM_61, rp_13_24, ms_R24 hS', ms_C124 hS', ms_N124 hS', pM_run_86, pM_run_87, pM_run_88, stp_iastore, pM_run_89, pM_run_90, pM_run_93, pM_run_94, pM_run_95, pM_run_96, pM_run_97, pM_run_100, pM_run_101, pM_run_102, pM_run_103, stp_iinc, pM_run_106, pM_run_109, pM_run_112, pM_run_113, qmM_341, cy_M_forget, pM_run_116, pM_run_117, bp_m4, ic_1, sp_1000, bp_m7, ic_0, ic_m1, nv_M_run, ml_M_run, e1, this, ru, lvM_forget, hl1]
    exact hQ
  | k + 1, i, hi => by
    have ih := lpM_run (x := x) hl1 hS h17 h13 hQ k (i + 1) (by omega)
    have hS' := MSh_rnU (n := i) hS
    have h24 := h17.2
    have h1 : ¬ wI w 13 0 17 ≤ nI i := by rw [h17.1]; exact nI_ge (by omega) (by omega)
    have h2 : vp_in (nI i) 24 := vp_in_nI (by omega) (by omega)
    have h3 : (nI i).toNatClampNeg = i := nI_clamp (by omega)
    have e1 := rnU_t w i 13 0 17 (by omega)
    have e2 := rnU_t w i 13 0 2 (by omega)
    have e3 := rnU_t w i 123 0 i (by omega)
    have e4 := rnU_t w i 124 0 i (by omega)
    have e5 := rnU_t w i 125 0 i (by omega)
    refine wpn_ok (M := mM_run) (C := cenM) (X := (alk [])) (tb := tM_run) (st := [43]) eoM XOk_nil kM_run 60 _ _ _ _ _ _ ?_
    by_cases ha : wI w 125 0 i = -1
    · have hb : rnB w i = false := by simp [rnB, ha]
      simp only [cntN, rnU, hb] at ih
      simp only [reduceCtorEq, fv0, fv1, fv2, fv3, bI_0, bI_1, bft, MSh_sI_eq, fsP_T, inL_0, inL_s, pad_0, pad_n, pad_s, wpn_s, wp1_s, lg_0, lg_s, lset_0, lset_s, kil_0, kil_s, st1_s, st2_s, isL_i, isL_l, isL_r, isL_n, spl_0, spl_s, cll_n, cll_s, catS_0, catS_s, jmp_s, alk_0, alk_s, otl_n, otl_s, List.nil_append, List.cons_append, List.contains_cons, List.contains_nil, Nat.reduceBEq, Bool.or_false, Bool.false_or, Bool.or_self, Bool.false_eq_true, Bool.true_or, Bool.or_true, if_true, if_false, ite_true, ite_false, ↓reduceIte, List.length_cons, List.length_nil, Nat.reduceAdd, Nat.reduceLT, Nat.reduceLeDiff, Nat.reduceEqDiff, Int.reduceAdd, Int.reduceLE, Int.toNat_natCast, Int.reduceToNat, Int.cast_ofNat_Int, true_and, and_true, false_and, and_false, true_implies, forall_const, eq_self, and_self, or_true, true_or, or_self, false_or, or_false, yI_sI, yR_sI, yC_sI, yN_sI, yI_sR, yR_sR, yC_sR, yN_sR, not_true_eq_false, not_false_eq_true, false_implies, implies_true, Nat.zero_add, Nat.add_zero, Nat.le_refl, Nat.reduceSub, Int.reduceSub, Int.reduceLT, Int.sub_zero, Int.sub_self, List.getElem?_toArray, List.getElem?_cons_zero, List.getElem?_cons_succ, Int.toNat_zero, Int.toNat_one, Int.lt_irrefl, yI_sB, yR_sB, yC_sB, yN_sB, MSh_sB_eq, pM_run_0, stp_iload_n, pM_run_1, stp_ifCond_ge, pM_run_4, stp_aload_n, pM_run_5, stp_bipush, pM_run_7, stp_invokevirtual, qmM_169, cy_M_refused, ms_C13 hS', pM_run_10, stp_ireturn, pM_run_11, pM_run_12, stp_iconst, pM_run_13, stp_sipush, pM_run_16, stp_invokestatic, qmM_165, cy_M_in, pM_run_19, stp_ifCond_ne, pM_run_22, pM_run_23, pM_run_25, pM_run_28, pM_run_29, pM_run_30, stp_dup, pM_run_31, stp_getfield, qfM_200, rp_13_2, pM_run_34, pM_run_35, stp_iadd, pM_run_36, stp_putfield, fi_13_2, nr_13_2, pM_run_39, pM_run_40, stp_istore_n, pM_run_41, pM_run_42, pM_run_43, pM_run_44, pM_run_45, qfM_206, rp_13_17, pM_run_48, stp_if_icmp_ge, pM_run_51, pM_run_52, qfM_64, rp_13_25, ms_R25 hS', ms_C125 hS', ms_N125 hS', pM_run_55, pM_run_56, stp_iaload, pM_run_57, pM_run_58, stp_if_icmp_eq, pM_run_61, pM_run_62, pM_run_65, pM_run_66, pM_run_67, pM_run_68, pM_run_71, stp_if_icmp_le, pM_run_74, stp_goto, pM_run_77, pM_run_78, qfM_58, rp_13_23, ms_R23 hS', ms_C123 hS', ms_N123 hS', pM_run_81, pM_run_82, pM_run_83, qfM_61, rp_13_24, ms_R24 hS', ms_C124 hS', ms_N124 hS', pM_run_86, pM_run_87, pM_run_88, stp_iastore, pM_run_89, pM_run_90, pM_run_93, pM_run_94, pM_run_95, pM_run_96, pM_run_97, pM_run_100, pM_run_101, pM_run_102, pM_run_103, stp_iinc, pM_run_106, pM_run_109, pM_run_112, pM_run_113, qmM_341, cy_M_forget, pM_run_116, pM_run_117, bp_m4, ic_1, sp_1000, bp_m7, ic_0, ic_m1, nv_M_run, ml_M_run, e1, e2, e3, e4, e5, h1, h2, h3, ha, nI_1]
      simpa [bI] using ih
    · by_cases hc : wI w 125 0 i ≤ wI w 13 0 2
      · have hb : rnB w i = true := by simp [rnB, ha, hc]
        simp only [cntN, rnU, hb] at ih
        simp only [reduceCtorEq, fv0, fv1, fv2, fv3, bI_0, bI_1, bft, MSh_sI_eq, fsP_T, inL_0, inL_s, pad_0, pad_n, pad_s, wpn_s, wp1_s, lg_0, lg_s, lset_0, lset_s, kil_0, kil_s, st1_s, st2_s, isL_i, isL_l, isL_r, isL_n, spl_0, spl_s, cll_n, cll_s, catS_0, catS_s, jmp_s, alk_0, alk_s, otl_n, otl_s, List.nil_append, List.cons_append, List.contains_cons, List.contains_nil, Nat.reduceBEq, Bool.or_false, Bool.false_or, Bool.or_self, Bool.false_eq_true, Bool.true_or, Bool.or_true, if_true, if_false, ite_true, ite_false, ↓reduceIte, List.length_cons, List.length_nil, Nat.reduceAdd, Nat.reduceLT, Nat.reduceLeDiff, Nat.reduceEqDiff, Int.reduceAdd, Int.reduceLE, Int.toNat_natCast, Int.reduceToNat, Int.cast_ofNat_Int, true_and, and_true, false_and, and_false, true_implies, forall_const, eq_self, and_self, or_true, true_or, or_self, false_or, or_false, yI_sI, yR_sI, yC_sI, yN_sI, yI_sR, yR_sR, yC_sR, yN_sR, not_true_eq_false, not_false_eq_true, false_implies, implies_true, Nat.zero_add, Nat.add_zero, Nat.le_refl, Nat.reduceSub, Int.reduceSub, Int.reduceLT, Int.sub_zero, Int.sub_self, List.getElem?_toArray, List.getElem?_cons_zero, List.getElem?_cons_succ, Int.toNat_zero, Int.toNat_one, Int.lt_irrefl, yI_sB, yR_sB, yC_sB, yN_sB, MSh_sB_eq, pM_run_0, stp_iload_n, pM_run_1, stp_ifCond_ge, pM_run_4, stp_aload_n, pM_run_5, stp_bipush, pM_run_7, stp_invokevirtual, qmM_169, cy_M_refused, ms_C13 hS', pM_run_10, stp_ireturn, pM_run_11, pM_run_12, stp_iconst, pM_run_13, stp_sipush, pM_run_16, stp_invokestatic, qmM_165, cy_M_in, pM_run_19, stp_ifCond_ne, pM_run_22, pM_run_23, pM_run_25, pM_run_28, pM_run_29, pM_run_30, stp_dup, pM_run_31, stp_getfield, qfM_200, rp_13_2, pM_run_34, pM_run_35, stp_iadd, pM_run_36, stp_putfield, fi_13_2, nr_13_2, pM_run_39, pM_run_40, stp_istore_n, pM_run_41, pM_run_42, pM_run_43, pM_run_44, pM_run_45, qfM_206, rp_13_17, pM_run_48, stp_if_icmp_ge, pM_run_51, pM_run_52, qfM_64, rp_13_25, ms_R25 hS', ms_C125 hS', ms_N125 hS', pM_run_55, pM_run_56, stp_iaload, pM_run_57, pM_run_58, stp_if_icmp_eq, pM_run_61, pM_run_62, pM_run_65, pM_run_66, pM_run_67, pM_run_68, pM_run_71, stp_if_icmp_le, pM_run_74, stp_goto, pM_run_77, pM_run_78, qfM_58, rp_13_23, ms_R23 hS', ms_C123 hS', ms_N123 hS', pM_run_81, pM_run_82, pM_run_83, qfM_61, rp_13_24, ms_R24 hS', ms_C124 hS', ms_N124 hS', pM_run_86, pM_run_87, pM_run_88, stp_iastore, pM_run_89, pM_run_90, pM_run_93, pM_run_94, pM_run_95, pM_run_96, pM_run_97, pM_run_100, pM_run_101, pM_run_102, pM_run_103, stp_iinc, pM_run_106, pM_run_109, pM_run_112, pM_run_113, qmM_341, cy_M_forget, pM_run_116, pM_run_117, bp_m4, ic_1, sp_1000, bp_m7, ic_0, ic_m1, nv_M_run, ml_M_run, e1, e2, e3, e4, e5, h1, h2, h3, ha, hc, nI_1]
        simpa [bI] using ih
      · have hb : rnB w i = false := by simp [rnB, hc]
        simp only [cntN, rnU, hb] at ih
        simp only [reduceCtorEq, fv0, fv1, fv2, fv3, bI_0, bI_1, bft, MSh_sI_eq, fsP_T, inL_0, inL_s, pad_0, pad_n, pad_s, wpn_s, wp1_s, lg_0, lg_s, lset_0, lset_s, kil_0, kil_s, st1_s, st2_s, isL_i, isL_l, isL_r, isL_n, spl_0, spl_s, cll_n, cll_s, catS_0, catS_s, jmp_s, alk_0, alk_s, otl_n, otl_s, List.nil_append, List.cons_append, List.contains_cons, List.contains_nil, Nat.reduceBEq, Bool.or_false, Bool.false_or, Bool.or_self, Bool.false_eq_true, Bool.true_or, Bool.or_true, if_true, if_false, ite_true, ite_false, ↓reduceIte, List.length_cons, List.length_nil, Nat.reduceAdd, Nat.reduceLT, Nat.reduceLeDiff, Nat.reduceEqDiff, Int.reduceAdd, Int.reduceLE, Int.toNat_natCast, Int.reduceToNat, Int.cast_ofNat_Int, true_and, and_true, false_and, and_false, true_implies, forall_const, eq_self, and_self, or_true, true_or, or_self, false_or, or_false, yI_sI, yR_sI, yC_sI, yN_sI, yI_sR, yR_sR, yC_sR, yN_sR, not_true_eq_false, not_false_eq_true, false_implies, implies_true, Nat.zero_add, Nat.add_zero, Nat.le_refl, Nat.reduceSub, Int.reduceSub, Int.reduceLT, Int.sub_zero, Int.sub_self, List.getElem?_toArray, List.getElem?_cons_zero, List.getElem?_cons_succ, Int.toNat_zero, Int.toNat_one, Int.lt_irrefl, yI_sB, yR_sB, yC_sB, yN_sB, MSh_sB_eq, pM_run_0, stp_iload_n, pM_run_1, stp_ifCond_ge, pM_run_4, stp_aload_n, pM_run_5, stp_bipush, pM_run_7, stp_invokevirtual, qmM_169, cy_M_refused, ms_C13 hS', pM_run_10, stp_ireturn, pM_run_11, pM_run_12, stp_iconst, pM_run_13, stp_sipush, pM_run_16, stp_invokestatic, qmM_165, cy_M_in, pM_run_19, stp_ifCond_ne, pM_run_22, pM_run_23, pM_run_25, pM_run_28, pM_run_29, pM_run_30, stp_dup, pM_run_31, stp_getfield, qfM_200, rp_13_2, pM_run_34, pM_run_35, stp_iadd, pM_run_36, stp_putfield, fi_13_2, nr_13_2, pM_run_39, pM_run_40, stp_istore_n, pM_run_41, pM_run_42, pM_run_43, pM_run_44, pM_run_45, qfM_206, rp_13_17, pM_run_48, stp_if_icmp_ge, pM_run_51, pM_run_52, qfM_64, rp_13_25, ms_R25 hS', ms_C125 hS', ms_N125 hS', pM_run_55, pM_run_56, stp_iaload, pM_run_57, pM_run_58, stp_if_icmp_eq, pM_run_61, pM_run_62, pM_run_65, pM_run_66, pM_run_67, pM_run_68, pM_run_71, stp_if_icmp_le, pM_run_74, stp_goto, pM_run_77, pM_run_78, qfM_58, rp_13_23, ms_R23 hS', ms_C123 hS', ms_N123 hS', pM_run_81, pM_run_82, pM_run_83, qfM_61, rp_13_24, ms_R24 hS', ms_C124 hS', ms_N124 hS', pM_run_86, pM_run_87, pM_run_88, stp_iastore, pM_run_89, pM_run_90, pM_run_93, pM_run_94, pM_run_95, pM_run_96, pM_run_97, pM_run_100, pM_run_101, pM_run_102, pM_run_103, stp_iinc, pM_run_106, pM_run_109, pM_run_112, pM_run_113, qmM_341, cy_M_forget, pM_run_116, pM_run_117, bp_m4, ic_1, sp_1000, bp_m7, ic_0, ic_m1, nv_M_run, ml_M_run, e1, e2, e3, e4, e5, h1, h2, h3, ha, hc, nI_1]
        simpa [bI] using ih
end
def rnD (x : Int32) : Int32 := if ¬ 0 ≤ x then -4 else if inR x 1 1000 = false then -7 else 0
abbrev lvM_run : Nat := 2
noncomputable def fsM_run : FS := fun as w => match as with
  | [.inr (.inr (some (13, 0))), .inl x] => fsP (MOk w ∧ okc w 13 500) (some (.inl (rfV (rnD x) (cntN (rnB (sI w 13 0 2 (wI w 13 0 2 + x))) (cn w 17)))), rfO w (rnD x) (rnW (sI w 13 0 2 (wI w 13 0 2 + x))))
  | _ => none
set_option maxRecDepth 100000 in
set_option maxHeartbeats 4000000 in
theorem okM_run (l : Launch) (G : Gc) : FsOk l G mM_run lvM_run fsM_run := by
  intro as w r w' h
  simp only [fsM_run] at h
  split at h
  · rename_i x
    obtain ⟨⟨hM, h13⟩, h⟩ := fsP_s h
    cases h
    obtain ⟨hS, h3, h6, h17, hR, h63, h58, -⟩ := id hM
    refine Sem_of (by decide) rfl (Nat.le_of_ble_eq_true rfl) ?_
    refine wpn_ok (M := mM_run) (C := cenM) (X := (alk [(165, lvM_in, fsM_in), (169, lvM_refused, fsM_refused)])) (tb := tM_run) (st := [43]) eoM (XOk_cons qmM_165 (okM_in l G) (XOk_cons qmM_169 (okM_refused l G) XOk_nil)) kM_run 60 _ _ _ _ _ _ ?_
    by_cases h0 : 0 ≤ x
    case neg => simp only [reduceCtorEq, fv0, fv1, fv2, fv3, bI_0, bI_1, bft, MSh_sI_eq, fsP_T, inL_0, inL_s, pad_0, pad_n, pad_s, wpn_s, wp1_s, lg_0, lg_s, lset_0, lset_s, kil_0, kil_s, st1_s, st2_s, isL_i, isL_l, isL_r, isL_n, spl_0, spl_s, cll_n, cll_s, catS_0, catS_s, jmp_s, alk_0, alk_s, otl_n, otl_s, List.nil_append, List.cons_append, List.contains_cons, List.contains_nil, Nat.reduceBEq, Bool.or_false, Bool.false_or, Bool.or_self, Bool.false_eq_true, Bool.true_or, Bool.or_true, if_true, if_false, ite_true, ite_false, ↓reduceIte, List.length_cons, List.length_nil, Nat.reduceAdd, Nat.reduceLT, Nat.reduceLeDiff, Nat.reduceEqDiff, Int.reduceAdd, Int.reduceLE, Int.toNat_natCast, Int.reduceToNat, Int.cast_ofNat_Int, true_and, and_true, false_and, and_false, true_implies, forall_const, eq_self, and_self, or_true, true_or, or_self, false_or, or_false, yI_sI, yR_sI, yC_sI, yN_sI, yI_sR, yR_sR, yC_sR, yN_sR, not_true_eq_false, not_false_eq_true, false_implies, implies_true, Nat.zero_add, Nat.add_zero, Nat.le_refl, Nat.reduceSub, Int.reduceSub, Int.reduceLT, Int.sub_zero, Int.sub_self, List.getElem?_toArray, List.getElem?_cons_zero, List.getElem?_cons_succ, Int.toNat_zero, Int.toNat_one, Int.lt_irrefl, yI_sB, yR_sB, yC_sB, yN_sB, MSh_sB_eq, pM_run_0, stp_iload_n, pM_run_1, stp_ifCond_ge, pM_run_4, stp_aload_n, pM_run_5, stp_bipush, pM_run_7, stp_invokevirtual, qmM_169, cy_M_refused, ms_C13 hS, pM_run_10, stp_ireturn, pM_run_11, pM_run_12, stp_iconst, pM_run_13, stp_sipush, pM_run_16, stp_invokestatic, qmM_165, cy_M_in, pM_run_19, stp_ifCond_ne, pM_run_22, pM_run_23, pM_run_25, pM_run_28, pM_run_29, pM_run_30, stp_dup, pM_run_31, stp_getfield, qfM_200, rp_13_2, pM_run_34, pM_run_35, stp_iadd, pM_run_36, stp_putfield, fi_13_2, nr_13_2, pM_run_39, pM_run_40, stp_istore_n, pM_run_41, pM_run_42, pM_run_43, pM_run_44, pM_run_45, qfM_206, rp_13_17, pM_run_48, stp_if_icmp_ge, pM_run_51, pM_run_52, qfM_64, rp_13_25, ms_R25 hS, ms_C125 hS, ms_N125 hS, pM_run_55, pM_run_56, stp_iaload, pM_run_57, pM_run_58, stp_if_icmp_eq, pM_run_61, pM_run_62, pM_run_65, pM_run_66, pM_run_67, pM_run_68, pM_run_71, stp_if_icmp_le, pM_run_74, stp_goto, pM_run_77, pM_run_78, qfM_58, rp_13_23, ms_R23 hS, ms_C123 hS, ms_N123 hS, pM_run_81, pM_run_82, pM_run_83, qfM_61, rp_13_24, ms_R24 hS, ms_C124 hS, ms_N124 hS, pM_run_86, pM_run_87, pM_run_88, stp_iastore, pM_run_89, pM_run_90, pM_run_93, pM_run_94, pM_run_95, pM_run_96, pM_run_97, pM_run_100, pM_run_101, pM_run_102, pM_run_103, stp_iinc, pM_run_106, pM_run_109, pM_run_112, pM_run_113, qmM_341, cy_M_forget, pM_run_116, pM_run_117, bp_m4, ic_1, sp_1000, bp_m7, ic_0, ic_m1, nv_M_run, ml_M_run, h0, rfM_4 hS, cl4, z4, rnD, rfV, rfO, lvM_run, lvM_in, lvM_refused]
    · cases hi : inR x 1 1000
      · simp only [reduceCtorEq, fv0, fv1, fv2, fv3, bI_0, bI_1, bft, MSh_sI_eq, fsP_T, inL_0, inL_s, pad_0, pad_n, pad_s, wpn_s, wp1_s, lg_0, lg_s, lset_0, lset_s, kil_0, kil_s, st1_s, st2_s, isL_i, isL_l, isL_r, isL_n, spl_0, spl_s, cll_n, cll_s, catS_0, catS_s, jmp_s, alk_0, alk_s, otl_n, otl_s, List.nil_append, List.cons_append, List.contains_cons, List.contains_nil, Nat.reduceBEq, Bool.or_false, Bool.false_or, Bool.or_self, Bool.false_eq_true, Bool.true_or, Bool.or_true, if_true, if_false, ite_true, ite_false, ↓reduceIte, List.length_cons, List.length_nil, Nat.reduceAdd, Nat.reduceLT, Nat.reduceLeDiff, Nat.reduceEqDiff, Int.reduceAdd, Int.reduceLE, Int.toNat_natCast, Int.reduceToNat, Int.cast_ofNat_Int, true_and, and_true, false_and, and_false, true_implies, forall_const, eq_self, and_self, or_true, true_or, or_self, false_or, or_false, yI_sI, yR_sI, yC_sI, yN_sI, yI_sR, yR_sR, yC_sR, yN_sR, not_true_eq_false, not_false_eq_true, false_implies, implies_true, Nat.zero_add, Nat.add_zero, Nat.le_refl, Nat.reduceSub, Int.reduceSub, Int.reduceLT, Int.sub_zero, Int.sub_self, List.getElem?_toArray, List.getElem?_cons_zero, List.getElem?_cons_succ, Int.toNat_zero, Int.toNat_one, Int.lt_irrefl, yI_sB, yR_sB, yC_sB, yN_sB, MSh_sB_eq, pM_run_0, stp_iload_n, pM_run_1, stp_ifCond_ge, pM_run_4, stp_aload_n, pM_run_5, stp_bipush, pM_run_7, stp_invokevirtual, qmM_169, cy_M_refused, ms_C13 hS, pM_run_10, stp_ireturn, pM_run_11, pM_run_12, stp_iconst, pM_run_13, stp_sipush, pM_run_16, stp_invokestatic, qmM_165, cy_M_in, pM_run_19, stp_ifCond_ne, pM_run_22, pM_run_23, pM_run_25, pM_run_28, pM_run_29, pM_run_30, stp_dup, pM_run_31, stp_getfield, qfM_200, rp_13_2, pM_run_34, pM_run_35, stp_iadd, pM_run_36, stp_putfield, fi_13_2, nr_13_2, pM_run_39, pM_run_40, stp_istore_n, pM_run_41, pM_run_42, pM_run_43, pM_run_44, pM_run_45, qfM_206, rp_13_17, pM_run_48, stp_if_icmp_ge, pM_run_51, pM_run_52, qfM_64, rp_13_25, ms_R25 hS, ms_C125 hS, ms_N125 hS, pM_run_55, pM_run_56, stp_iaload, pM_run_57, pM_run_58, stp_if_icmp_eq, pM_run_61, pM_run_62, pM_run_65, pM_run_66, pM_run_67, pM_run_68, pM_run_71, stp_if_icmp_le, pM_run_74, stp_goto, pM_run_77, pM_run_78, qfM_58, rp_13_23, ms_R23 hS, ms_C123 hS, ms_N123 hS, pM_run_81, pM_run_82, pM_run_83, qfM_61, rp_13_24, ms_R24 hS, ms_C124 hS, ms_N124 hS, pM_run_86, pM_run_87, pM_run_88, stp_iastore, pM_run_89, pM_run_90, pM_run_93, pM_run_94, pM_run_95, pM_run_96, pM_run_97, pM_run_100, pM_run_101, pM_run_102, pM_run_103, stp_iinc, pM_run_106, pM_run_109, pM_run_112, pM_run_113, qmM_341, cy_M_forget, pM_run_116, pM_run_117, bp_m4, ic_1, sp_1000, bp_m7, ic_0, ic_m1, nv_M_run, ml_M_run, fsM_in, h0, hi, rfM_7 hS, cl7, z7, rnD, rfV, rfO, lvM_run, lvM_in, lvM_refused]
      · simp only [reduceCtorEq, fv0, fv1, fv2, fv3, bI_0, bI_1, bft, MSh_sI_eq, fsP_T, inL_0, inL_s, pad_0, pad_n, pad_s, wpn_s, wp1_s, lg_0, lg_s, lset_0, lset_s, kil_0, kil_s, st1_s, st2_s, isL_i, isL_l, isL_r, isL_n, spl_0, spl_s, cll_n, cll_s, catS_0, catS_s, jmp_s, alk_0, alk_s, otl_n, otl_s, List.nil_append, List.cons_append, List.contains_cons, List.contains_nil, Nat.reduceBEq, Bool.or_false, Bool.false_or, Bool.or_self, Bool.false_eq_true, Bool.true_or, Bool.or_true, if_true, if_false, ite_true, ite_false, ↓reduceIte, List.length_cons, List.length_nil, Nat.reduceAdd, Nat.reduceLT, Nat.reduceLeDiff, Nat.reduceEqDiff, Int.reduceAdd, Int.reduceLE, Int.toNat_natCast, Int.reduceToNat, Int.cast_ofNat_Int, true_and, and_true, false_and, and_false, true_implies, forall_const, eq_self, and_self, or_true, true_or, or_self, false_or, or_false, yI_sI, yR_sI, yC_sI, yN_sI, yI_sR, yR_sR, yC_sR, yN_sR, not_true_eq_false, not_false_eq_true, false_implies, implies_true, Nat.zero_add, Nat.add_zero, Nat.le_refl, Nat.reduceSub, Int.reduceSub, Int.reduceLT, Int.sub_zero, Int.sub_self, List.getElem?_toArray, List.getElem?_cons_zero, List.getElem?_cons_succ, Int.toNat_zero, Int.toNat_one, Int.lt_irrefl, yI_sB, yR_sB, yC_sB, yN_sB, MSh_sB_eq, pM_run_0, stp_iload_n, pM_run_1, stp_ifCond_ge, pM_run_4, stp_aload_n, pM_run_5, stp_bipush, pM_run_7, stp_invokevirtual, qmM_169, cy_M_refused, ms_C13 hS, pM_run_10, stp_ireturn, pM_run_11, pM_run_12, stp_iconst, pM_run_13, stp_sipush, pM_run_16, stp_invokestatic, qmM_165, cy_M_in, pM_run_19, stp_ifCond_ne, pM_run_22, pM_run_23, pM_run_25, pM_run_28, pM_run_29, pM_run_30, stp_dup, pM_run_31, stp_getfield, qfM_200, rp_13_2, pM_run_34, pM_run_35, stp_iadd, pM_run_36, stp_putfield, fi_13_2, nr_13_2, pM_run_39, pM_run_40, stp_istore_n, pM_run_41, pM_run_42, pM_run_43, pM_run_44, pM_run_45, qfM_206, rp_13_17, pM_run_48, stp_if_icmp_ge, pM_run_51, pM_run_52, qfM_64, rp_13_25, ms_R25 hS, ms_C125 hS, ms_N125 hS, pM_run_55, pM_run_56, stp_iaload, pM_run_57, pM_run_58, stp_if_icmp_eq, pM_run_61, pM_run_62, pM_run_65, pM_run_66, pM_run_67, pM_run_68, pM_run_71, stp_if_icmp_le, pM_run_74, stp_goto, pM_run_77, pM_run_78, qfM_58, rp_13_23, ms_R23 hS, ms_C123 hS, ms_N123 hS, pM_run_81, pM_run_82, pM_run_83, qfM_61, rp_13_24, ms_R24 hS, ms_C124 hS, ms_N124 hS, pM_run_86, pM_run_87, pM_run_88, stp_iastore, pM_run_89, pM_run_90, pM_run_93, pM_run_94, pM_run_95, pM_run_96, pM_run_97, pM_run_100, pM_run_101, pM_run_102, pM_run_103, stp_iinc, pM_run_106, pM_run_109, pM_run_112, pM_run_113, qmM_341, cy_M_forget, pM_run_116, pM_run_117, bp_m4, ic_1, sp_1000, bp_m7, ic_0, ic_m1, nv_M_run, ml_M_run, fsM_in, h0, hi, rnD, rfV, rfO, lvM_run, lvM_in, lvM_refused]
        exact lpM_run (w := sI w 13 0 2 (wI w 13 0 2 + x)) (Q := fun r2 w2 => r2 = some (.inl (cntN (rnB (sI w 13 0 2 (wI w 13 0 2 + x))) (cn w 17))) ∧ w2 = rnW (sI w 13 0 2 (wI w 13 0 2 + x))) (by decide) hS h17 h13 ⟨rfl, rfl⟩ (cn w 17) 0 (Nat.zero_add _)
  · cases h
