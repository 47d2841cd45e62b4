/-! forgetting what is past, in the class -/
def afC (w : Wd) (k y : Nat) : Nat → Nat
  | 0 => 0
  | n + 1 => if y < tkv w k n + mnA w k then afC w k y n + 1 else afC w k y n
def afU (w : Wd) (k y : Nat) : Nat → Wd
  | 0 => w
  | n + 1 => if y < tkv w k n + mnA w k then sI (afU w k y n) 186 k (afC w k y n) (nI (tkv w k n)) else afU w k y n
theorem afC_le (w : Wd) (k y n : Nat) : afC w k y n ≤ n := by
  induction n with
  | zero => exact Nat.le_refl _
  | succ n ih => simp only [afC]; split <;> omega
theorem afU_2 (w : Wd) (k y n : Nat) : (afU w k y n).2 = w.2 := by
  induction n with
  | zero => rfl
  | succ n ih =>
    simp only [afU]
    split
    · rw [sI_2]; exact ih
    · exact ih
theorem afU_t (w : Wd) (k y n t q i : Nat) (h : ¬ t = 186 ∨ ¬ q = k ∨ n ≤ i) : wI (afU w k y n) t q i = wI w t q i := by
  induction n with
  | zero => rfl
  | succ n ih =>
    have ih := ih (by omega)
    have := afC_le w k y n
    simp only [afU]
    split
    · have h1 : ¬ (t = 186 ∧ q = k ∧ i = afC w k y n) := by omega
      simp only [yI_sI, h1, if_false]
      exact ih
    · exact ih
def afW (w : Wd) (k y : Nat) : Wd := sI (afU w k y (szA w k)) 9 k 4 (nI (afC w k y (szA w k)))
theorem afU_l (w : Wd) (k y : Nat) : ∀ n, (∀ i, i < n → tkv w k i < 2 ^ 29) → (List.range (afC w k y n)).map (tkv (afU w k y n) k) = ((List.range n).map (tkv w k)).filter (fun f => decide (y < f + mnA w k))
  | 0, _ => rfl
  | n + 1, hb => by
    have ih := afU_l w k y n (fun i hi => hb i (by omega))
    rw [List.range_succ, List.map_append, List.filter_append, ← ih]
    by_cases c : y < tkv w k n + mnA w k
    · have e1 : afC w k y (n + 1) = afC w k y n + 1 := by rw [afC, if_pos c]
      have e2 : afU w k y (n + 1) = sI (afU w k y n) 186 k (afC w k y n) (nI (tkv w k n)) := by rw [afU, if_pos c]
      have t1 : tkv (afU w k y (n + 1)) k (afC w k y n) = tkv w k n := by
        rw [e2]; unfold tkv; rw [yI_sI, if_pos ⟨rfl, rfl, rfl⟩]; exact nI_clamp (by have := hb n (by omega); unfold tkv at this; omega)
      have t2 : ∀ i, i < afC w k y n → tkv (afU w k y (n + 1)) k i = tkv (afU w k y n) k i := fun i hi => by
        rw [e2]; unfold tkv; rw [yI_sI, if_neg (by omega)]
      rw [e1, List.range_succ, List.map_append, List.map_congr_left (fun i hi => t2 i (List.mem_range.mp hi))]
      simp [c, t1]
    · have e1 : afC w k y (n + 1) = afC w k y n := by rw [afC, if_neg c]
      have e2 : afU w k y (n + 1) = afU w k y n := by rw [afU, if_neg c]
      rw [e1, e2]
      simp [c]
section
variable {l : Launch} {G : Gc} {n : Nat} {Q : Option AV → Wd → Prop} {w : Wd}
set_option maxRecDepth 100000 in
set_option maxHeartbeats 4000000 in
theorem stA_forget {k y i : Nat} (hA : AlQ w k) (hy : y < 2 ^ 30) (hi : i < szA w k) (ih : WP l G mA_forgetBefore n 0 0 Q 4 [some (.inr (.inr (some (9, k)))), some (.inl (nI y)), some (.inl (nI (afC w k y (i + 1)))), some (.inl (nI (i + 1)))] [] (afU w k y (i + 1)) 0 0) : WP l G mA_forgetBefore n 0 0 Q 4 [some (.inr (.inr (some (9, k)))), some (.inl (nI y)), some (.inl (nI (afC w k y i))), some (.inl (nI i))] [] (afU w k y i) 0 0 := by
  obtain ⟨s, a1, a2, a3, a4, a5⟩ := id hA
  obtain ⟨s0, s1, s2, s3⟩ := AlS_cg (afU_2 w k y i) s
  obtain ⟨b1, b2⟩ := a5 i hi
  have hc := afC_le w k y i
  have r1 : wI (afU w k y i) 9 k 4 = nI (szA w k) := (afU_t w k y i 9 k 4 (by omega)).trans a1
  have r2 : wI (afU w k y i) 9 k 2 = nI (mnA w k) := (afU_t w k y i 9 k 2 (by omega)).trans a3
  have r3 : wI (afU w k y i) 186 k i = nI (tkv w k i) := (afU_t w k y i 186 k i (by omega)).trans b1
  have h1 : ¬ nI (szA w k) ≤ nI i := nI_ge hi (by omega)
  have h2 : ¬ Int32.ofNat 24 ≤ nI i := nI_ge (b := 24) (by omega) (by omega)
  have v1 : vp_in (nI i) 24 := vp_in_nI (by omega) (by omega)
  have c1 : (nI i).toNatClampNeg = i := nI_clamp (by omega)
  have v2 : vp_in (nI (afC w k y i)) 24 := vp_in_nI (by omega) (by omega)
  have c2 : (nI (afC w k y i)).toNatClampNeg = afC w k y i := nI_clamp (by omega)
  refine wpn_ok (M := mA_forgetBefore) (C := cenA) (X := (alk [])) (tb := tA_forgetBefore) (st := [4]) eoA XOk_nil kA_forgetBefore 60 _ _ _ _ _ _ ?_
  by_cases c : y < tkv w k i + mnA w k
  · have e : ¬ nI (tkv w k i + mnA w k) ≤ nI y := nI_ge c (by omega)
    rw [afC, afU, if_pos c, if_pos c] at ih
    simp only [reduceCtorEq, fv0, fv1, fv2, fv3, bI_0, bI_1, bft, MSh_sI_eq, fsP_T, inL_0, inL_s, pad_0, pad_n, pad_s, wpn_s, wp1_s, lg_0, lg_s, lset_0, lset_s, kil_0, kil_s, st1_s, st2_s, isL_i, isL_l, isL_r, isL_n, spl_0, spl_s, cll_n, cll_s, catS_0, catS_s, jmp_s, alk_0, alk_s, otl_n, otl_s, List.nil_append, List.cons_append, List.contains_cons, List.contains_nil, Nat.reduceBEq, Bool.or_false, Bool.false_or, Bool.or_self, Bool.false_eq_true, Bool.true_or, Bool.or_true, if_true, if_false, ite_true, ite_false, ↓reduceIte, List.length_cons, List.length_nil, Nat.reduceAdd, Nat.reduceLT, Nat.reduceLeDiff, Nat.reduceEqDiff, Int.reduceAdd, Int.reduceLE, Int.toNat_natCast, Int.reduceToNat, Int.cast_ofNat_Int, true_and, and_true, false_and, and_false, true_implies, forall_const, eq_self, and_self, or_true, true_or, or_self, false_or, or_false, yI_sI, yR_sI, yC_sI, yN_sI, yI_sR, yR_sR, yC_sR, yN_sR, not_true_eq_false, not_false_eq_true, false_implies, implies_true, Nat.zero_add, Nat.add_zero, Nat.le_refl, Nat.reduceSub, Int.reduceSub, Int.reduceLT, Int.sub_zero, Int.sub_self, List.getElem?_toArray, List.getElem?_cons_zero, List.getElem?_cons_succ, Int.toNat_zero, Int.toNat_one, Int.lt_irrefl, yI_sB, yR_sB, yC_sB, yN_sB, MSh_sB_eq, pA_forgetBefore_0, stp_iconst, pA_forgetBefore_1, stp_istore_n, pA_forgetBefore_2, pA_forgetBefore_3, pA_forgetBefore_4, stp_iload_n, pA_forgetBefore_5, stp_aload_n, pA_forgetBefore_6, stp_getfield, qfA_15, rp_9_4, pA_forgetBefore_9, stp_if_icmp_ge, pA_forgetBefore_12, pA_forgetBefore_13, pA_forgetBefore_14, qfA_9, rp_9_3, pA_forgetBefore_17, stp_arraylength, pA_forgetBefore_18, pA_forgetBefore_21, pA_forgetBefore_22, pA_forgetBefore_25, pA_forgetBefore_26, stp_iaload, pA_forgetBefore_27, pA_forgetBefore_28, qfA_25, rp_9_2, pA_forgetBefore_31, stp_iadd, pA_forgetBefore_32, pA_forgetBefore_33, stp_if_icmp_le, pA_forgetBefore_36, pA_forgetBefore_37, pA_forgetBefore_40, pA_forgetBefore_41, pA_forgetBefore_42, pA_forgetBefore_45, pA_forgetBefore_46, pA_forgetBefore_47, stp_iastore, pA_forgetBefore_48, stp_iinc, pA_forgetBefore_51, pA_forgetBefore_54, stp_goto, pA_forgetBefore_57, pA_forgetBefore_58, pA_forgetBefore_59, stp_putfield, fi_9_4, nr_9_4, pA_forgetBefore_62, stp_return_, ic_0, ic_1, nv_A_forgetBefore, ml_A_forgetBefore, s0, s1, s2, s3, r1, r2, r3, h1, h2, v1, c1, v2, c2, nI_add, e, nI_1]
    exact ih
  · have e : nI (tkv w k i + mnA w k) ≤ nI y := nI_le (by omega) (by omega)
    rw [afC, afU, if_neg c, if_neg c] at ih
    simp only [reduceCtorEq, fv0, fv1, fv2, fv3, bI_0, bI_1, bft, MSh_sI_eq, fsP_T, inL_0, inL_s, pad_0, pad_n, pad_s, wpn_s, wp1_s, lg_0, lg_s, lset_0, lset_s, kil_0, kil_s, st1_s, st2_s, isL_i, isL_l, isL_r, isL_n, spl_0, spl_s, cll_n, cll_s, catS_0, catS_s, jmp_s, alk_0, alk_s, otl_n, otl_s, List.nil_append, List.cons_append, List.contains_cons, List.contains_nil, Nat.reduceBEq, Bool.or_false, Bool.false_or, Bool.or_self, Bool.false_eq_true, Bool.true_or, Bool.or_true, if_true, if_false, ite_true, ite_false, ↓reduceIte, List.length_cons, List.length_nil, Nat.reduceAdd, Nat.reduceLT, Nat.reduceLeDiff, Nat.reduceEqDiff, Int.reduceAdd, Int.reduceLE, Int.toNat_natCast, Int.reduceToNat, Int.cast_ofNat_Int, true_and, and_true, false_and, and_false, true_implies, forall_const, eq_self, and_self, or_true, true_or, or_self, false_or, or_false, yI_sI, yR_sI, yC_sI, yN_sI, yI_sR, yR_sR, yC_sR, yN_sR, not_true_eq_false, not_false_eq_true, false_implies, implies_true, Nat.zero_add, Nat.add_zero, Nat.le_refl, Nat.reduceSub, Int.reduceSub, Int.reduceLT, Int.sub_zero, Int.sub_self, List.getElem?_toArray, List.getElem?_cons_zero, List.getElem?_cons_succ, Int.toNat_zero, Int.toNat_one, Int.lt_irrefl, yI_sB, yR_sB, yC_sB, yN_sB, MSh_sB_eq, pA_forgetBefore_0, stp_iconst, pA_forgetBefore_1, stp_istore_n, pA_forgetBefore_2, pA_forgetBefore_3, pA_forgetBefore_4, stp_iload_n, pA_forgetBefore_5, stp_aload_n, pA_forgetBefore_6, stp_getfield, qfA_15, rp_9_4, pA_forgetBefore_9, stp_if_icmp_ge, pA_forgetBefore_12, pA_forgetBefore_13, pA_forgetBefore_14, qfA_9, rp_9_3, pA_forgetBefore_17, stp_arraylength, pA_forgetBefore_18, pA_forgetBefore_21, pA_forgetBefore_22, pA_forgetBefore_25, pA_forgetBefore_26, stp_iaload, pA_forgetBefore_27, pA_forgetBefore_28, qfA_25, rp_9_2, pA_forgetBefore_31, stp_iadd, pA_forgetBefore_32, pA_forgetBefore_33, stp_if_icmp_le, pA_forgetBefore_36, pA_forgetBefore_37, pA_forgetBefore_40, pA_forgetBefore_41, pA_forgetBefore_42, pA_forgetBefore_45, pA_forgetBefore_46, pA_forgetBefore_47, stp_iastore, pA_forgetBefore_48, stp_iinc, pA_forgetBefore_51, pA_forgetBefore_54, stp_goto, pA_forgetBefore_57, pA_forgetBefore_58, pA_forgetBefore_59, stp_putfield, fi_9_4, nr_9_4, pA_forgetBefore_62, stp_return_, ic_0, ic_1, nv_A_forgetBefore, ml_A_forgetBefore, s0, s1, s2, s3, r1, r2, r3, h1, h2, v1, c1, v2, c2, nI_add, e, nI_1]
    exact ih
set_option maxRecDepth 100000 in
set_option maxHeartbeats 4000000 in
theorem lpA_forget {k y : Nat} (hA : AlQ w k) (hy : y < 2 ^ 30) (hQ : Q none (afW w k y)) : ∀ c i, i + c = szA w k → WP l G mA_forgetBefore n 0 0 Q 4 [some (.inr (.inr (some (9, k)))), some (.inl (nI y)), some (.inl (nI (afC w k y i))), some (.inl (nI i))] [] (afU w k y i) 0 0
  | 0, i, hi => by
    have e : i = szA w k := hi
    subst e
    obtain ⟨s, a1, a2, a3, a4, a5⟩ := id hA
    obtain ⟨s0, s1, s2, s3⟩ := AlS_cg (afU_2 w k y (szA w k)) s
    have r1 : wI (afU w k y (szA w k)) 9 k 4 = nI (szA w k) := (afU_t w k y (szA w k) 9 k 4 (by omega)).trans a1
    refine wpn_ok (M := mA_forgetBefore) (C := cenA) (X := (alk [])) (tb := tA_forgetBefore) (st := [4]) eoA XOk_nil kA_forgetBefore 60 _ _ _ _ _ _ ?_
    simp only [reduceCtorEq, fv0, fv1, fv2, fv3, bI_0, bI_1, bft, MSh_sI_eq, fsP_T, inL_0, inL_s, pad_0, pad_n, pad_s, wpn_s, wp1_s, lg_0, lg_s, lset_0, lset_s, kil_0, kil_s, st1_s, st2_s, isL_i, isL_l, isL_r, isL_n, spl_0, spl_s, cll_n, cll_s, catS_0, catS_s, jmp_s, alk_0, alk_s, otl_n, otl_s, List.nil_append, List.cons_append, List.contains_cons, List.contains_nil, Nat.reduceBEq, Bool.or_false, Bool.false_or, Bool.or_self, Bool.false_eq_true, Bool.true_or, Bool.or_true, if_true, if_false, ite_true, ite_false, ↓reduceIte, List.length_cons, List.length_nil, Nat.reduceAdd, Nat.reduceLT, Nat.reduceLeDiff, Nat.reduceEqDiff, Int.reduceAdd, Int.reduceLE, Int.toNat_natCast, Int.reduceToNat, Int.cast_ofNat_Int, true_and, and_true, false_and, and_false, true_implies, forall_const, eq_self, and_self, or_true, true_or, or_self, false_or, or_false, yI_sI, yR_sI, yC_sI, yN_sI, yI_sR, yR_sR, yC_sR, yN_sR, not_true_eq_false, not_false_eq_true, false_implies, implies_true, Nat.zero_add, Nat.add_zero, Nat.le_refl, Nat.reduceSub, Int.reduceSub, Int.reduceLT, Int.sub_zero, Int.sub_self, List.getElem?_toArray, List.getElem?_cons_zero, List.getElem?_cons_succ, Int.toNat_zero, Int.toNat_one, Int.lt_irrefl, yI_sB, yR_sB, yC_sB, yN_sB, MSh_sB_eq, pA_forgetBefore_0, stp_iconst, pA_forgetBefore_1, stp_istore_n, pA_forgetBefore_2, pA_forgetBefore_3, pA_forgetBefore_4, stp_iload_n, pA_forgetBefore_5, stp_aload_n, pA_forgetBefore_6, stp_getfield, qfA_15, rp_9_4, pA_forgetBefore_9, stp_if_icmp_ge, pA_forgetBefore_12, pA_forgetBefore_13, pA_forgetBefore_14, qfA_9, rp_9_3, pA_forgetBefore_17, stp_arraylength, pA_forgetBefore_18, pA_forgetBefore_21, pA_forgetBefore_22, pA_forgetBefore_25, pA_forgetBefore_26, stp_iaload, pA_forgetBefore_27, pA_forgetBefore_28, qfA_25, rp_9_2, pA_forgetBefore_31, stp_iadd, pA_forgetBefore_32, pA_forgetBefore_33, stp_if_icmp_le, pA_forgetBefore_36, pA_forgetBefore_37, pA_forgetBefore_40, pA_forgetBefore_41, pA_forgetBefore_42, pA_forgetBefore_45, pA_forgetBefore_46, pA_forgetBefore_47, stp_iastore, pA_forgetBefore_48, stp_iinc, pA_forgetBefore_51, pA_forgetBefore_54, stp_goto, pA_forgetBefore_57, pA_forgetBefore_58, pA_forgetBefore_59, stp_putfield, fi_9_4, nr_9_4, pA_forgetBefore_62, stp_return_, ic_0, ic_1, nv_A_forgetBefore, ml_A_forgetBefore, s0, s1, s2, s3, r1, Int32.le_refl]
    exact hQ
  | c + 1, i, hi => stA_forget hA hy (by omega) (lpA_forget hA hy hQ c (i + 1) (by omega))
end
abbrev lvA_forgetBefore : Nat := 1
noncomputable def fsA_forgetBefore : FS := fun as w => match as with
  | [.inr (.inr (some (9, k))), .inl y] => fsP (AlQ w k ∧ ∃ x, x < 2 ^ 30 ∧ y = nI x) (none, afW w k y.toNatClampNeg)
  | _ => none
set_option maxRecDepth 100000 in
set_option maxHeartbeats 4000000 in
theorem okA_forgetBefore (l : Launch) (G : Gc) : FsOk l G mA_forgetBefore lvA_forgetBefore fsA_forgetBefore := by
  intro as w r w' h
  simp only [fsA_forgetBefore] at h
  split at h
  · rename_i k y
    obtain ⟨⟨hA, x, hx, hy⟩, h⟩ := fsP_s h
    cases h
    subst hy
    rw [nI_clamp (by omega)]
    refine Sem_of (by decide) rfl (Nat.le_of_ble_eq_true rfl) ?_
    refine wpn_ok (M := mA_forgetBefore) (C := cenA) (X := (alk [])) (tb := tA_forgetBefore) (st := [4]) eoA XOk_nil kA_forgetBefore 60 _ _ _ _ _ _ ?_
    simp only [reduceCtorEq, fv0, fv1, fv2, fv3, bI_0, bI_1, bft, MSh_sI_eq, fsP_T, inL_0, inL_s, pad_0, pad_n, pad_s, wpn_s, wp1_s, lg_0, lg_s, lset_0, lset_s, kil_0, kil_s, st1_s, st2_s, isL_i, isL_l, isL_r, isL_n, spl_0, spl_s, cll_n, cll_s, catS_0, catS_s, jmp_s, alk_0, alk_s, otl_n, otl_s, List.nil_append, List.cons_append, List.contains_cons, List.contains_nil, Nat.reduceBEq, Bool.or_false, Bool.false_or, Bool.or_self, Bool.false_eq_true, Bool.true_or, Bool.or_true, if_true, if_false, ite_true, ite_false, ↓reduceIte, List.length_cons, List.length_nil, Nat.reduceAdd, Nat.reduceLT, Nat.reduceLeDiff, Nat.reduceEqDiff, Int.reduceAdd, Int.reduceLE, Int.toNat_natCast, Int.reduceToNat, Int.cast_ofNat_Int, true_and, and_true, false_and, and_false, true_implies, forall_const, eq_self, and_self, or_true, true_or, or_self, false_or, or_false, yI_sI, yR_sI, yC_sI, yN_sI, yI_sR, yR_sR, yC_sR, yN_sR, not_true_eq_false, not_false_eq_true, false_implies, implies_true, Nat.zero_add, Nat.add_zero, Nat.le_refl, Nat.reduceSub, Int.reduceSub, Int.reduceLT, Int.sub_zero, Int.sub_self, List.getElem?_toArray, List.getElem?_cons_zero, List.getElem?_cons_succ, Int.toNat_zero, Int.toNat_one, Int.lt_irrefl, yI_sB, yR_sB, yC_sB, yN_sB, MSh_sB_eq, pA_forgetBefore_0, stp_iconst, pA_forgetBefore_1, stp_istore_n, pA_forgetBefore_2, pA_forgetBefore_3, pA_forgetBefore_4, stp_iload_n, pA_forgetBefore_5, stp_aload_n, pA_forgetBefore_6, stp_getfield, qfA_15, rp_9_4, pA_forgetBefore_9, stp_if_icmp_ge, pA_forgetBefore_12, pA_forgetBefore_13, pA_forgetBefore_14, qfA_9, rp_9_3, pA_forgetBefore_17, stp_arraylength, pA_forgetBefore_18, pA_forgetBefore_21, pA_forgetBefore_22, pA_forgetBefore_25, pA_forgetBefore_26, stp_iaload, pA_forgetBefore_27, pA_forgetBefore_28, qfA_25, rp_9_2, pA_forgetBefore_31, stp_iadd, pA_forgetBefore_32, pA_forgetBefore_33, stp_if_icmp_le, pA_forgetBefore_36, pA_forgetBefore_37, pA_forgetBefore_40, pA_forgetBefore_41, pA_forgetBefore_42, pA_forgetBefore_45, pA_forgetBefore_46, pA_forgetBefore_47, stp_iastore, pA_forgetBefore_48, stp_iinc, pA_forgetBefore_51, pA_forgetBefore_54, stp_goto, pA_forgetBefore_57, pA_forgetBefore_58, pA_forgetBefore_59, stp_putfield, fi_9_4, nr_9_4, pA_forgetBefore_62, stp_return_, ic_0, ic_1, nv_A_forgetBefore, ml_A_forgetBefore]
    exact lpA_forget hA hx ⟨rfl, rfl⟩ (szA w k) 0 (by omega)
  · cases h
theorem ruA_forgetBefore {w : Wd} {k x : Nat} (hA : AlQ w k) (hx : x < 2 ^ 30) : fsA_forgetBefore [.inr (.inr (some (9, k))), .inl (nI x)] w = some (none, afW w k x) := by
  have : fsA_forgetBefore [.inr (.inr (some (9, k))), .inl (nI x)] w = fsP (AlQ w k ∧ ∃ z, z < 2 ^ 30 ∧ nI x = nI z) (none, afW w k (nI x).toNatClampNeg) := rfl
  rw [this, nI_clamp (by omega)]
  exact fsP_t ⟨hA, x, hx, rfl⟩
