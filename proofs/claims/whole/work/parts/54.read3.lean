/-! a test of a rule, in the reference -/
abbrev Tst : Type := Bool × (Int32 × (Int32 × Int32))
/-- where the sign of a test leaves the reader -/
def sgS (h : Nat → Int32) (s : RS) : RS := if h s.1 = 60 ∨ h s.1 = 62 then (s.1 + 1, false) else oneS h 61 s
def tsS (h : Nat → Int32) (p : Nat) : RS × Option Tst :=
  if (wdS h (fdL (h (if h p = 33 then p + 1 else p))).1 (if h p = 33 then p + 1 else p, false)).2 = true then (wdS h (fdL (h (if h p = 33 then p + 1 else p))).1 (if h p = 33 then p + 1 else p, false), none)
  else ((nbS h (sgS h (wdS h (fdL (h (if h p = 33 then p + 1 else p))).1 (if h p = 33 then p + 1 else p, false)))).1, some (decide (h p = 33), (fdL (h (if h p = 33 then p + 1 else p))).2, h (wdS h (fdL (h (if h p = 33 then p + 1 else p))).1 (if h p = 33 then p + 1 else p, false)).1, (nbS h (sgS h (wdS h (fdL (h (if h p = 33 then p + 1 else p))).1 (if h p = 33 then p + 1 else p, false)))).2))
theorem okc_ne {w : Wd} {k b t j i : Nat} {v : Int32} (h : okc w k b) (ht : ¬ (t = 13 ∧ i = k)) : okc (sI w t j i v) k b := by
  have : wI (sI w t j i v) 13 0 k = wI w 13 0 k := by rw [yI_sI, if_neg (by omega)]
  unfold okc cn at h ⊢
  rw [this]
  exact h
theorem cn_ne {w : Wd} {k t j i : Nat} {v : Int32} (ht : ¬ (t = 13 ∧ i = k)) : cn (sI w t j i v) k = cn w k := by unfold cn; rw [yI_sI, if_neg (by omega)]
theorem RdA_sI {w : Wd} {s : RS} {t k i : Nat} {v : Int32} (h : RdA w s) (ht : ¬ (t = 13 ∧ (i = 58 ∨ i = 61 ∨ i = 62))) : RdA (sI w t k i v) s := by
  obtain ⟨h1, h2, h3, h4, h5⟩ := h
  refine ⟨h1, okc_ne h2 (by omega), by rw [yI_sI, if_neg (by omega)]; exact h3, by rw [cn_ne (by omega)]; exact h4, by rw [yI_sI, if_neg (by omega)]; exact h5⟩
theorem hr_sI {w : Wd} {t k i : Nat} {v : Int32} (ht : ¬ (t = 13 ∧ i = 58)) (h2 : ¬ t = 159) : hrN (sI w t k i v) = hrN w := by
  funext p
  unfold hrN
  have e : wI (sI w t k i v) 159 0 p = wI w 159 0 p := by rw [yI_sI, if_neg (by omega)]
  rw [cn_ne (by omega), e]
theorem wdS_le {w : Wd} : ∀ (ws : List Int32) (s : RS), (∀ c ∈ ws, ¬ c = -1) → s.1 ≤ cn w 58 → (wdS (hrN w) ws s).1 ≤ cn w 58
  | [], s, _, h => h
  | c :: ws, s, hc, h => wdS_le ws _ (fun q hq => hc q (List.mem_cons_of_mem _ hq)) (oneS_le (hc c List.mem_cons_self) h)
theorem fdL_ok (x : Int32) : ∀ c ∈ (fdL x).1, ¬ c = -1 := by
  unfold fdL
  split
  · decide
  · split
    · decide
    · split
      · decide
      · split
        · decide
        · decide
theorem kyL_ok (x : Int32) : ∀ c ∈ (kyL x).1, ¬ c = -1 := by
  unfold kyL
  split
  · decide
  · split
    · decide
    · split
      · decide
      · decide
theorem sgS_le {w : Wd} {s : RS} (h : s.1 ≤ cn w 58) : (sgS (hrN w) s).1 ≤ cn w 58 := by
  unfold sgS
  split
  · rename_i q
    rcases q with q | q
    · exact hrN_lt (by decide) q
    · exact hrN_lt (by decide) q
  · exact oneS_le (by decide) h
theorem rd_inc {w : Wd} {p : Nat} (h : RdA w (p, false)) : sI w 13 0 61 (nI (p + 1)) = rdW w (p + 1, false) := by
  have hz := rdW_self h
  rw [← rdW_rdW w (p, false), hz]
  refine Wd_eq (fun a b c => ?_) rfl
  rw [rdW_I, yI_sI]
  by_cases c1 : a = 13 ∧ b = 0 ∧ c = 62
  · simp [c1, h.2.2.2.2]
  · simp [c1]
section
variable {l : Launch} {G : Gc} {n : Nat} {Q : Option AV → Wd → Prop} {w : Wd}
set_option maxRecDepth 100000 in
set_option maxHeartbeats 4000000 in
theorem sgM_test1 {r c p : Nat} (hl : 1 < n) (hA : RdA w (p, false)) (h60 : wI w 13 0 60 = nI r) (hr : r ≤ 10) (hc : c ≤ 2) (h153 : wI w 153 0 r = nI c) (hX : WP l G mM_testHere n 0 0 Q 56 [some aM, some (.inl (nI (3 * r + c)))] [] (rdW (sI w 254 0 (3 * r + c) (bI (decide (hrN w p = 33)))) (if hrN w p = 33 then p + 1 else p, false)) 0 0) : WP l G mM_testHere n 0 0 Q 0 [some aM, none] [] w 0 0 := by
  have hS := hA.1
  have ru := ruM_here hA
  simp only [] at ru
  have hl1 : lvM_here < n := hl
  have v1 : vp_in (nI r) 11 := vp_in_nI (by omega) (by omega)
  have c1 : (nI r).toNatClampNeg = r := nI_clamp (by omega)
  have v2 : vp_in (nI (3 * r + c)) 33 := vp_in_nI (by omega) (by omega)
  have c2 : (nI (3 * r + c)).toNatClampNeg = 3 * r + c := nI_clamp (by omega)
  have A1 : RdA (sI w 254 0 (3 * r + c) 1) (p, false) := RdA_sI hA (by omega)
  have A2 : RdA (sI w 254 0 (3 * r + c) 0) (p, false) := RdA_sI hA (by omega)
  have e1 := rd_inc A1
  have e2 := rdW_self A2
  have h3 : wI w 13 0 61 = nI p := hA.2.2.1
  refine wpn_ok (M := mM_testHere) (C := cenM) (X := (alk [(260, lvM_here, fsM_here)])) (tb := tM_testHere) (st := [56]) eoM (XOk_cons qmM_260 (okM_here l G) XOk_nil) kM_testHere 60 _ _ _ _ _ _ ?_
  by_cases q : hrN w p = 33
  · simp only [q, decide_true, if_true, show bI true = 1 from rfl] at hX
    rw [← e1] at hX
    simp only [reduceCtorEq, fv0, fv1, fv2, fv3, bI_0, bI_1, bft, MSh_sI_eq, fsP_T, inL_0, inL_s, pad_0, pad_n, pad_s, wpn_s, wp1_s, lg_0, lg_s, lset_0, lset_s, kil_0, kil_s, st1_s, st2_s, isL_i, isL_l, isL_r, isL_n, spl_0, spl_s, cll_n, cll_s, catS_0, catS_s, jmp_s, alk_0, alk_s, otl_n, otl_s, List.nil_append, List.cons_append, List.contains_cons, List.contains_nil, Nat.reduceBEq, Bool.or_false, Bool.false_or, Bool.or_self, Bool.false_eq_true, Bool.true_or, Bool.or_true, if_true, if_false, ite_true, ite_false, ↓reduceIte, List.length_cons, List.length_nil, Nat.reduceAdd, Nat.reduceLT, Nat.reduceLeDiff, Nat.reduceEqDiff, Int.reduceAdd, Int.reduceLE, Int.toNat_natCast, Int.reduceToNat, Int.cast_ofNat_Int, true_and, and_true, false_and, and_false, true_implies, forall_const, eq_self, and_self, or_true, true_or, or_self, false_or, or_false, yI_sI, yR_sI, yC_sI, yN_sI, yI_sR, yR_sR, yC_sR, yN_sR, not_true_eq_false, not_false_eq_true, false_implies, implies_true, Nat.zero_add, Nat.add_zero, Nat.le_refl, Nat.reduceSub, Int.reduceSub, Int.reduceLT, Int.sub_zero, Int.sub_self, List.getElem?_toArray, List.getElem?_cons_zero, List.getElem?_cons_succ, Int.toNat_zero, Int.toNat_one, Int.lt_irrefl, yI_sB, yR_sB, yC_sB, yN_sB, MSh_sB_eq, pM_testHere_0, stp_iconst, pM_testHere_1, stp_aload_n, pM_testHere_2, stp_getfield, qfM_279, rp_13_60, ms_C13 hS, pM_testHere_5, stp_imul, pM_testHere_6, pM_testHere_7, qfM_135, rp_13_53, ms_R53 hS, ms_C153 hS, ms_N153 hS, pM_testHere_10, pM_testHere_11, pM_testHere_14, stp_iaload, pM_testHere_15, stp_iadd, pM_testHere_16, stp_istore_n, pM_testHere_17, pM_testHere_18, qfM_138, rp_13_54, ms_R54 hS, ms_C254 hS, ms_N254 hS, pM_testHere_21, stp_iload_n, pM_testHere_22, pM_testHere_23, stp_invokevirtual, qmM_260, cy_M_here, pM_testHere_26, stp_bipush, pM_testHere_28, stp_if_icmp_ne, pM_testHere_31, pM_testHere_32, stp_goto, pM_testHere_35, pM_testHere_36, stp_bastore, pM_testHere_37, pM_testHere_38, pM_testHere_41, pM_testHere_42, stp_baload, pM_testHere_43, stp_ifCond_eq, pM_testHere_46, pM_testHere_47, stp_dup, pM_testHere_48, qfM_253, rp_13_61, pM_testHere_51, pM_testHere_52, pM_testHere_53, stp_putfield, fi_13_61, nr_13_61, pM_testHere_56, pM_testHere_57, qfM_141, rp_13_55, ms_R55 hS, ms_C155 hS, ms_N155 hS, pM_testHere_60, pM_testHere_61, pM_testHere_62, qmM_282, cy_M_fieldHere, pM_testHere_65, stp_iastore, pM_testHere_66, pM_testHere_67, qfM_256, rp_13_62, pM_testHere_70, pM_testHere_73, stp_return_, pM_testHere_74, pM_testHere_75, qfM_144, rp_13_56, ms_R56 hS, ms_C156 hS, ms_N156 hS, pM_testHere_78, pM_testHere_79, pM_testHere_80, pM_testHere_83, pM_testHere_84, pM_testHere_85, pM_testHere_88, pM_testHere_90, stp_if_icmp_eq, pM_testHere_93, pM_testHere_94, pM_testHere_97, pM_testHere_99, pM_testHere_102, pM_testHere_103, pM_testHere_104, pM_testHere_107, pM_testHere_108, pM_testHere_109, pM_testHere_112, pM_testHere_115, pM_testHere_116, pM_testHere_118, qmM_265, cy_M_one, pM_testHere_121, pM_testHere_122, qfM_147, rp_13_57, ms_R57 hS, ms_C157 hS, ms_N157 hS, pM_testHere_125, pM_testHere_126, pM_testHere_127, qmM_285, cy_M_numberHere, pM_testHere_130, pM_testHere_131, pM_testHere_132, pM_testHere_135, pM_testHere_136, pM_testHere_139, stp_dup2, pM_testHere_140, pM_testHere_141, pM_testHere_142, pM_testHere_143, pM_testHere_144, ic_3, bp_33, ic_1, ic_0, bp_60, bp_62, bp_61, nv_M_testHere, ml_M_testHere, h60, m3I, v1, c1, h153, nI_add, v2, c2, ru, q, hl1, h3, nI_1, show ¬ (1 : Int32) = 0 by decide]
    exact hX
  · simp only [q, decide_false, if_false, show bI false = 0 from rfl] at hX
    rw [e2] at hX
    simp only [reduceCtorEq, fv0, fv1, fv2, fv3, bI_0, bI_1, bft, MSh_sI_eq, fsP_T, inL_0, inL_s, pad_0, pad_n, pad_s, wpn_s, wp1_s, lg_0, lg_s, lset_0, lset_s, kil_0, kil_s, st1_s, st2_s, isL_i, isL_l, isL_r, isL_n, spl_0, spl_s, cll_n, cll_s, catS_0, catS_s, jmp_s, alk_0, alk_s, otl_n, otl_s, List.nil_append, List.cons_append, List.contains_cons, List.contains_nil, Nat.reduceBEq, Bool.or_false, Bool.false_or, Bool.or_self, Bool.false_eq_true, Bool.true_or, Bool.or_true, if_true, if_false, ite_true, ite_false, ↓reduceIte, List.length_cons, List.length_nil, Nat.reduceAdd, Nat.reduceLT, Nat.reduceLeDiff, Nat.reduceEqDiff, Int.reduceAdd, Int.reduceLE, Int.toNat_natCast, Int.reduceToNat, Int.cast_ofNat_Int, true_and, and_true, false_and, and_false, true_implies, forall_const, eq_self, and_self, or_true, true_or, or_self, false_or, or_false, yI_sI, yR_sI, yC_sI, yN_sI, yI_sR, yR_sR, yC_sR, yN_sR, not_true_eq_false, not_false_eq_true, false_implies, implies_true, Nat.zero_add, Nat.add_zero, Nat.le_refl, Nat.reduceSub, Int.reduceSub, Int.reduceLT, Int.sub_zero, Int.sub_self, List.getElem?_toArray, List.getElem?_cons_zero, List.getElem?_cons_succ, Int.toNat_zero, Int.toNat_one, Int.lt_irrefl, yI_sB, yR_sB, yC_sB, yN_sB, MSh_sB_eq, pM_testHere_0, stp_iconst, pM_testHere_1, stp_aload_n, pM_testHere_2, stp_getfield, qfM_279, rp_13_60, ms_C13 hS, pM_testHere_5, stp_imul, pM_testHere_6, pM_testHere_7, qfM_135, rp_13_53, ms_R53 hS, ms_C153 hS, ms_N153 hS, pM_testHere_10, pM_testHere_11, pM_testHere_14, stp_iaload, pM_testHere_15, stp_iadd, pM_testHere_16, stp_istore_n, pM_testHere_17, pM_testHere_18, qfM_138, rp_13_54, ms_R54 hS, ms_C254 hS, ms_N254 hS, pM_testHere_21, stp_iload_n, pM_testHere_22, pM_testHere_23, stp_invokevirtual, qmM_260, cy_M_here, pM_testHere_26, stp_bipush, pM_testHere_28, stp_if_icmp_ne, pM_testHere_31, pM_testHere_32, stp_goto, pM_testHere_35, pM_testHere_36, stp_bastore, pM_testHere_37, pM_testHere_38, pM_testHere_41, pM_testHere_42, stp_baload, pM_testHere_43, stp_ifCond_eq, pM_testHere_46, pM_testHere_47, stp_dup, pM_testHere_48, qfM_253, rp_13_61, pM_testHere_51, pM_testHere_52, pM_testHere_53, stp_putfield, fi_13_61, nr_13_61, pM_testHere_56, pM_testHere_57, qfM_141, rp_13_55, ms_R55 hS, ms_C155 hS, ms_N155 hS, pM_testHere_60, pM_testHere_61, pM_testHere_62, qmM_282, cy_M_fieldHere, pM_testHere_65, stp_iastore, pM_testHere_66, pM_testHere_67, qfM_256, rp_13_62, pM_testHere_70, pM_testHere_73, stp_return_, pM_testHere_74, pM_testHere_75, qfM_144, rp_13_56, ms_R56 hS, ms_C156 hS, ms_N156 hS, pM_testHere_78, pM_testHere_79, pM_testHere_80, pM_testHere_83, pM_testHere_84, pM_testHere_85, pM_testHere_88, pM_testHere_90, stp_if_icmp_eq, pM_testHere_93, pM_testHere_94, pM_testHere_97, pM_testHere_99, pM_testHere_102, pM_testHere_103, pM_testHere_104, pM_testHere_107, pM_testHere_108, pM_testHere_109, pM_testHere_112, pM_testHere_115, pM_testHere_116, pM_testHere_118, qmM_265, cy_M_one, pM_testHere_121, pM_testHere_122, qfM_147, rp_13_57, ms_R57 hS, ms_C157 hS, ms_N157 hS, pM_testHere_125, pM_testHere_126, pM_testHere_127, qmM_285, cy_M_numberHere, pM_testHere_130, pM_testHere_131, pM_testHere_132, pM_testHere_135, pM_testHere_136, pM_testHere_139, stp_dup2, pM_testHere_140, pM_testHere_141, pM_testHere_142, pM_testHere_143, pM_testHere_144, ic_3, bp_33, ic_1, ic_0, bp_60, bp_62, bp_61, nv_M_testHere, ml_M_testHere, h60, m3I, v1, c1, h153, nI_add, v2, c2, ru, q, hl1, h3, nI_1]
    exact hX
set_option maxRecDepth 100000 in
set_option maxHeartbeats 4000000 in
theorem sgM_test2 {k p : Nat} (hl : 4 < n) (hA : RdA w (p, false)) (hk : k < 33) (hQ : (wdS (hrN w) (fdL (hrN w p)).1 (p, false)).2 = true → Q none (sI (rdW w (wdS (hrN w) (fdL (hrN w p)).1 (p, false))) 155 0 k (fdL (hrN w p)).2)) (hX : (wdS (hrN w) (fdL (hrN w p)).1 (p, false)).2 = false → WP l G mM_testHere n 0 0 Q 74 [some aM, some (.inl (nI k))] [] (sI (rdW w (wdS (hrN w) (fdL (hrN w p)).1 (p, false))) 155 0 k (fdL (hrN w p)).2) 0 0) : WP l G mM_testHere n 0 0 Q 56 [some aM, some (.inl (nI k))] [] w 0 0 := by
  have hS := hA.1
  have ru := ruM_fieldHere hA
  simp only [] at ru
  have hl1 : lvM_fieldHere < n := hl
  have v1 : vp_in (nI k) 33 := vp_in_nI (by omega) (by omega)
  have c1 : (nI k).toNatClampNeg = k := nI_clamp (by omega)
  generalize wdS (hrN w) (fdL (hrN w p)).1 (p, false) = s at ru hQ hX
  generalize (fdL (hrN w p)).2 = fl at ru hQ hX
  have hS2 : MSh (rdW w s) := hS
  have e62 : wI (rdW w s) 13 0 62 = bI s.2 := by rw [rdW_I]; simp
  refine wpn_ok (M := mM_testHere) (C := cenM) (X := (alk [(282, lvM_fieldHere, fsM_fieldHere)])) (tb := tM_testHere) (st := [74]) eoM (XOk_cons qmM_282 (okM_fieldHere l G) XOk_nil) kM_testHere 60 _ _ _ _ _ _ ?_
  cases hs : s.2 with
  | true =>
    simp only [reduceCtorEq, fv0, fv1, fv2, fv3, bI_0, bI_1, bft, MSh_sI_eq, fsP_T, inL_0, inL_s, pad_0, pad_n, pad_s, wpn_s, wp1_s, lg_0, lg_s, lset_0, lset_s, kil_0, kil_s, st1_s, st2_s, isL_i, isL_l, isL_r, isL_n, spl_0, spl_s, cll_n, cll_s, catS_0, catS_s, jmp_s, alk_0, alk_s, otl_n, otl_s, List.nil_append, List.cons_append, List.contains_cons, List.contains_nil, Nat.reduceBEq, Bool.or_false, Bool.false_or, Bool.or_self, Bool.false_eq_true, Bool.true_or, Bool.or_true, if_true, if_false, ite_true, ite_false, ↓reduceIte, List.length_cons, List.length_nil, Nat.reduceAdd, Nat.reduceLT, Nat.reduceLeDiff, Nat.reduceEqDiff, Int.reduceAdd, Int.reduceLE, Int.toNat_natCast, Int.reduceToNat, Int.cast_ofNat_Int, true_and, and_true, false_and, and_false, true_implies, forall_const, eq_self, and_self, or_true, true_or, or_self, false_or, or_false, yI_sI, yR_sI, yC_sI, yN_sI, yI_sR, yR_sR, yC_sR, yN_sR, not_true_eq_false, not_false_eq_true, false_implies, implies_true, Nat.zero_add, Nat.add_zero, Nat.le_refl, Nat.reduceSub, Int.reduceSub, Int.reduceLT, Int.sub_zero, Int.sub_self, List.getElem?_toArray, List.getElem?_cons_zero, List.getElem?_cons_succ, Int.toNat_zero, Int.toNat_one, Int.lt_irrefl, yI_sB, yR_sB, yC_sB, yN_sB, MSh_sB_eq, pM_testHere_0, stp_iconst, pM_testHere_1, stp_aload_n, pM_testHere_2, stp_getfield, qfM_279, rp_13_60, ms_C13 hS, pM_testHere_5, stp_imul, pM_testHere_6, pM_testHere_7, qfM_135, rp_13_53, ms_R53 hS, ms_C153 hS, ms_N153 hS, pM_testHere_10, pM_testHere_11, pM_testHere_14, stp_iaload, pM_testHere_15, stp_iadd, pM_testHere_16, stp_istore_n, pM_testHere_17, pM_testHere_18, qfM_138, rp_13_54, ms_R54 hS, ms_C254 hS, ms_N254 hS, pM_testHere_21, stp_iload_n, pM_testHere_22, pM_testHere_23, stp_invokevirtual, qmM_260, cy_M_here, pM_testHere_26, stp_bipush, pM_testHere_28, stp_if_icmp_ne, pM_testHere_31, pM_testHere_32, stp_goto, pM_testHere_35, pM_testHere_36, stp_bastore, pM_testHere_37, pM_testHere_38, pM_testHere_41, pM_testHere_42, stp_baload, pM_testHere_43, stp_ifCond_eq, pM_testHere_46, pM_testHere_47, stp_dup, pM_testHere_48, qfM_253, rp_13_61, pM_testHere_51, pM_testHere_52, pM_testHere_53, stp_putfield, fi_13_61, nr_13_61, pM_testHere_56, pM_testHere_57, qfM_141, rp_13_55, ms_R55 hS, ms_C155 hS, ms_N155 hS, pM_testHere_60, pM_testHere_61, pM_testHere_62, qmM_282, cy_M_fieldHere, pM_testHere_65, stp_iastore, pM_testHere_66, pM_testHere_67, qfM_256, rp_13_62, pM_testHere_70, pM_testHere_73, stp_return_, pM_testHere_74, pM_testHere_75, qfM_144, rp_13_56, ms_R56 hS, ms_C156 hS, ms_N156 hS, pM_testHere_78, pM_testHere_79, pM_testHere_80, pM_testHere_83, pM_testHere_84, pM_testHere_85, pM_testHere_88, pM_testHere_90, stp_if_icmp_eq, pM_testHere_93, pM_testHere_94, pM_testHere_97, pM_testHere_99, pM_testHere_102, pM_testHere_103, pM_testHere_104, pM_testHere_107, pM_testHere_108, pM_testHere_109, pM_testHere_112, pM_testHere_115, pM_testHere_116, pM_testHere_118, qmM_265, cy_M_one, pM_testHere_121, pM_testHere_122, qfM_147, rp_13_57, ms_R57 hS, ms_C157 hS, ms_N157 hS, pM_testHere_125, pM_testHere_126, pM_testHere_127, qmM_285, cy_M_numberHere, pM_testHere_130, pM_testHere_131, pM_testHere_132, pM_testHere_135, pM_testHere_136, pM_testHere_139, stp_dup2, pM_testHere_140, pM_testHere_141, pM_testHere_142, pM_testHere_143, pM_testHere_144, ic_3, bp_33, ic_1, ic_0, bp_60, bp_62, bp_61, nv_M_testHere, ml_M_testHere, ru, hl1, v1, c1, ms_C155 hS2, ms_N155 hS2, ms_C13 hS2, e62, hs]
    exact hQ hs
  | false =>
    simp only [reduceCtorEq, fv0, fv1, fv2, fv3, bI_0, bI_1, bft, MSh_sI_eq, fsP_T, inL_0, inL_s, pad_0, pad_n, pad_s, wpn_s, wp1_s, lg_0, lg_s, lset_0, lset_s, kil_0, kil_s, st1_s, st2_s, isL_i, isL_l, isL_r, isL_n, spl_0, spl_s, cll_n, cll_s, catS_0, catS_s, jmp_s, alk_0, alk_s, otl_n, otl_s, List.nil_append, List.cons_append, List.contains_cons, List.contains_nil, Nat.reduceBEq, Bool.or_false, Bool.false_or, Bool.or_self, Bool.false_eq_true, Bool.true_or, Bool.or_true, if_true, if_false, ite_true, ite_false, ↓reduceIte, List.length_cons, List.length_nil, Nat.reduceAdd, Nat.reduceLT, Nat.reduceLeDiff, Nat.reduceEqDiff, Int.reduceAdd, Int.reduceLE, Int.toNat_natCast, Int.reduceToNat, Int.cast_ofNat_Int, true_and, and_true, false_and, and_false, true_implies, forall_const, eq_self, and_self, or_true, true_or, or_self, false_or, or_false, yI_sI, yR_sI, yC_sI, yN_sI, yI_sR, yR_sR, yC_sR, yN_sR, not_true_eq_false, not_false_eq_true, false_implies, implies_true, Nat.zero_add, Nat.add_zero, Nat.le_refl, Nat.reduceSub, Int.reduceSub, Int.reduceLT, Int.sub_zero, Int.sub_self, List.getElem?_toArray, List.getElem?_cons_zero, List.getElem?_cons_succ, Int.toNat_zero, Int.toNat_one, Int.lt_irrefl, yI_sB, yR_sB, yC_sB, yN_sB, MSh_sB_eq, pM_testHere_0, stp_iconst, pM_testHere_1, stp_aload_n, pM_testHere_2, stp_getfield, qfM_279, rp_13_60, ms_C13 hS, pM_testHere_5, stp_imul, pM_testHere_6, pM_testHere_7, qfM_135, rp_13_53, ms_R53 hS, ms_C153 hS, ms_N153 hS, pM_testHere_10, pM_testHere_11, pM_testHere_14, stp_iaload, pM_testHere_15, stp_iadd, pM_testHere_16, stp_istore_n, pM_testHere_17, pM_testHere_18, qfM_138, rp_13_54, ms_R54 hS, ms_C254 hS, ms_N254 hS, pM_testHere_21, stp_iload_n, pM_testHere_22, pM_testHere_23, stp_invokevirtual, qmM_260, cy_M_here, pM_testHere_26, stp_bipush, pM_testHere_28, stp_if_icmp_ne, pM_testHere_31, pM_testHere_32, stp_goto, pM_testHere_35, pM_testHere_36, stp_bastore, pM_testHere_37, pM_testHere_38, pM_testHere_41, pM_testHere_42, stp_baload, pM_testHere_43, stp_ifCond_eq, pM_testHere_46, pM_testHere_47, stp_dup, pM_testHere_48, qfM_253, rp_13_61, pM_testHere_51, pM_testHere_52, pM_testHere_53, stp_putfield, fi_13_61, nr_13_61, pM_testHere_56, pM_testHere_57, qfM_141, rp_13_55, ms_R55 hS, ms_C155 hS, ms_N155 hS, pM_testHere_60, pM_testHere_61, pM_testHere_62, qmM_282, cy_M_fieldHere, pM_testHere_65, stp_iastore, pM_testHere_66, pM_testHere_67, qfM_256, rp_13_62, pM_testHere_70, pM_testHere_73, stp_return_, pM_testHere_74, pM_testHere_75, qfM_144, rp_13_56, ms_R56 hS, ms_C156 hS, ms_N156 hS, pM_testHere_78, pM_testHere_79, pM_testHere_80, pM_testHere_83, pM_testHere_84, pM_testHere_85, pM_testHere_88, pM_testHere_90, stp_if_icmp_eq, pM_testHere_93, pM_testHere_94, pM_testHere_97, pM_testHere_99, pM_testHere_102, pM_testHere_103, pM_testHere_104, pM_testHere_107, pM_testHere_108, pM_testHere_109, pM_testHere_112, pM_testHere_115, pM_testHere_116, pM_testHere_118, qmM_265, cy_M_one, pM_testHere_121, pM_testHere_122, qfM_147, rp_13_57, ms_R57 hS, ms_C157 hS, ms_N157 hS, pM_testHere_125, pM_testHere_126, pM_testHere_127, qmM_285, cy_M_numberHere, pM_testHere_130, pM_testHere_131, pM_testHere_132, pM_testHere_135, pM_testHere_136, pM_testHere_139, stp_dup2, pM_testHere_140, pM_testHere_141, pM_testHere_142, pM_testHere_143, pM_testHere_144, ic_3, bp_33, ic_1, ic_0, bp_60, bp_62, bp_61, nv_M_testHere, ml_M_testHere, ru, hl1, v1, c1, ms_C155 hS2, ms_N155 hS2, ms_C13 hS2, e62, hs]
    exact hX hs
set_option maxRecDepth 100000 in
set_option maxHeartbeats 4000000 in
theorem sgM_test3 {k p : Nat} (hl : 4 < n) (hA : RdA w (p, false)) (hk : k < 33) (hX : WP l G mM_testHere n 0 0 Q 121 [some aM, some (.inl (nI k))] [] (rdW (sI w 156 0 k (hrN w p)) (sgS (hrN w) (p, false))) 0 0) : WP l G mM_testHere n 0 0 Q 74 [some aM, some (.inl (nI k))] [] w 0 0 := by
  have hS := hA.1
  have ru := ruM_here hA
  simp only [] at ru
  have hl1 : lvM_here < n := by show 1 < n; omega
  have hl2 : lvM_one < n := by show 2 < n; omega
  have v1 : vp_in (nI k) 33 := vp_in_nI (by omega) (by omega)
  have c1 : (nI k).toNatClampNeg = k := nI_clamp (by omega)
  have A1 : RdA (sI w 156 0 k (hrN w p)) (p, false) := RdA_sI hA (by omega)
  have r1 := ruM_here A1
  have r2 := ruM_one (c := 61) A1
  rw [hr_sI (by omega) (by omega)] at r1 r2
  simp only [] at r1 r2
  have e1 := rd_inc A1
  have h3 : wI w 13 0 61 = nI p := hA.2.2.1
  unfold sgS at hX
  refine wpn_ok (M := mM_testHere) (C := cenM) (X := (alk [(260, lvM_here, fsM_here), (265, lvM_one, fsM_one)])) (tb := tM_testHere) (st := [121]) eoM (XOk_cons qmM_260 (okM_here l G) (XOk_cons qmM_265 (okM_one l G) XOk_nil)) kM_testHere 60 _ _ _ _ _ _ ?_
  by_cases q1 : hrN w p = 60
  · simp only [q1, true_or, if_true] at hX e1 r1
    rw [← e1] at hX
    simp only [reduceCtorEq, fv0, fv1, fv2, fv3, bI_0, bI_1, bft, MSh_sI_eq, fsP_T, inL_0, inL_s, pad_0, pad_n, pad_s, wpn_s, wp1_s, lg_0, lg_s, lset_0, lset_s, kil_0, kil_s, st1_s, st2_s, isL_i, isL_l, isL_r, isL_n, spl_0, spl_s, cll_n, cll_s, catS_0, catS_s, jmp_s, alk_0, alk_s, otl_n, otl_s, List.nil_append, List.cons_append, List.contains_cons, List.contains_nil, Nat.reduceBEq, Bool.or_false, Bool.false_or, Bool.or_self, Bool.false_eq_true, Bool.true_or, Bool.or_true, if_true, if_false, ite_true, ite_false, ↓reduceIte, List.length_cons, List.length_nil, Nat.reduceAdd, Nat.reduceLT, Nat.reduceLeDiff, Nat.reduceEqDiff, Int.reduceAdd, Int.reduceLE, Int.toNat_natCast, Int.reduceToNat, Int.cast_ofNat_Int, true_and, and_true, false_and, and_false, true_implies, forall_const, eq_self, and_self, or_true, true_or, or_self, false_or, or_false, yI_sI, yR_sI, yC_sI, yN_sI, yI_sR, yR_sR, yC_sR, yN_sR, not_true_eq_false, not_false_eq_true, false_implies, implies_true, Nat.zero_add, Nat.add_zero, Nat.le_refl, Nat.reduceSub, Int.reduceSub, Int.reduceLT, Int.sub_zero, Int.sub_self, List.getElem?_toArray, List.getElem?_cons_zero, List.getElem?_cons_succ, Int.toNat_zero, Int.toNat_one, Int.lt_irrefl, yI_sB, yR_sB, yC_sB, yN_sB, MSh_sB_eq, pM_testHere_0, stp_iconst, pM_testHere_1, stp_aload_n, pM_testHere_2, stp_getfield, qfM_279, rp_13_60, ms_C13 hS, pM_testHere_5, stp_imul, pM_testHere_6, pM_testHere_7, qfM_135, rp_13_53, ms_R53 hS, ms_C153 hS, ms_N153 hS, pM_testHere_10, pM_testHere_11, pM_testHere_14, stp_iaload, pM_testHere_15, stp_iadd, pM_testHere_16, stp_istore_n, pM_testHere_17, pM_testHere_18, qfM_138, rp_13_54, ms_R54 hS, ms_C254 hS, ms_N254 hS, pM_testHere_21, stp_iload_n, pM_testHere_22, pM_testHere_23, stp_invokevirtual, qmM_260, cy_M_here, pM_testHere_26, stp_bipush, pM_testHere_28, stp_if_icmp_ne, pM_testHere_31, pM_testHere_32, stp_goto, pM_testHere_35, pM_testHere_36, stp_bastore, pM_testHere_37, pM_testHere_38, pM_testHere_41, pM_testHere_42, stp_baload, pM_testHere_43, stp_ifCond_eq, pM_testHere_46, pM_testHere_47, stp_dup, pM_testHere_48, qfM_253, rp_13_61, pM_testHere_51, pM_testHere_52, pM_testHere_53, stp_putfield, fi_13_61, nr_13_61, pM_testHere_56, pM_testHere_57, qfM_141, rp_13_55, ms_R55 hS, ms_C155 hS, ms_N155 hS, pM_testHere_60, pM_testHere_61, pM_testHere_62, qmM_282, cy_M_fieldHere, pM_testHere_65, stp_iastore, pM_testHere_66, pM_testHere_67, qfM_256, rp_13_62, pM_testHere_70, pM_testHere_73, stp_return_, pM_testHere_74, pM_testHere_75, qfM_144, rp_13_56, ms_R56 hS, ms_C156 hS, ms_N156 hS, pM_testHere_78, pM_testHere_79, pM_testHere_80, pM_testHere_83, pM_testHere_84, pM_testHere_85, pM_testHere_88, pM_testHere_90, stp_if_icmp_eq, pM_testHere_93, pM_testHere_94, pM_testHere_97, pM_testHere_99, pM_testHere_102, pM_testHere_103, pM_testHere_104, pM_testHere_107, pM_testHere_108, pM_testHere_109, pM_testHere_112, pM_testHere_115, pM_testHere_116, pM_testHere_118, qmM_265, cy_M_one, pM_testHere_121, pM_testHere_122, qfM_147, rp_13_57, ms_R57 hS, ms_C157 hS, ms_N157 hS, pM_testHere_125, pM_testHere_126, pM_testHere_127, qmM_285, cy_M_numberHere, pM_testHere_130, pM_testHere_131, pM_testHere_132, pM_testHere_135, pM_testHere_136, pM_testHere_139, stp_dup2, pM_testHere_140, pM_testHere_141, pM_testHere_142, pM_testHere_143, pM_testHere_144, ic_3, bp_33, ic_1, ic_0, bp_60, bp_62, bp_61, nv_M_testHere, ml_M_testHere, ru, hl1, v1, c1, r1, q1, h3, nI_1]
    exact hX
  · by_cases q2 : hrN w p = 62
    · simp only [q2, or_true, if_true] at hX e1 r1
      rw [← e1] at hX
      simp only [reduceCtorEq, fv0, fv1, fv2, fv3, bI_0, bI_1, bft, MSh_sI_eq, fsP_T, inL_0, inL_s, pad_0, pad_n, pad_s, wpn_s, wp1_s, lg_0, lg_s, lset_0, lset_s, kil_0, kil_s, st1_s, st2_s, isL_i, isL_l, isL_r, isL_n, spl_0, spl_s, cll_n, cll_s, catS_0, catS_s, jmp_s, alk_0, alk_s, otl_n, otl_s, List.nil_append, List.cons_append, List.contains_cons, List.contains_nil, Nat.reduceBEq, Bool.or_false, Bool.false_or, Bool.or_self, Bool.false_eq_true, Bool.true_or, Bool.or_true, if_true, if_false, ite_true, ite_false, ↓reduceIte, List.length_cons, List.length_nil, Nat.reduceAdd, Nat.reduceLT, Nat.reduceLeDiff, Nat.reduceEqDiff, Int.reduceAdd, Int.reduceLE, Int.toNat_natCast, Int.reduceToNat, Int.cast_ofNat_Int, true_and, and_true, false_and, and_false, true_implies, forall_const, eq_self, and_self, or_true, true_or, or_self, false_or, or_false, yI_sI, yR_sI, yC_sI, yN_sI, yI_sR, yR_sR, yC_sR, yN_sR, not_true_eq_false, not_false_eq_true, false_implies, implies_true, Nat.zero_add, Nat.add_zero, Nat.le_refl, Nat.reduceSub, Int.reduceSub, Int.reduceLT, Int.sub_zero, Int.sub_self, List.getElem?_toArray, List.getElem?_cons_zero, List.getElem?_cons_succ, Int.toNat_zero, Int.toNat_one, Int.lt_irrefl, yI_sB, yR_sB, yC_sB, yN_sB, MSh_sB_eq, pM_testHere_0, stp_iconst, pM_testHere_1, stp_aload_n, pM_testHere_2, stp_getfield, qfM_279, rp_13_60, ms_C13 hS, pM_testHere_5, stp_imul, pM_testHere_6, pM_testHere_7, qfM_135, rp_13_53, ms_R53 hS, ms_C153 hS, ms_N153 hS, pM_testHere_10, pM_testHere_11, pM_testHere_14, stp_iaload, pM_testHere_15, stp_iadd, pM_testHere_16, stp_istore_n, pM_testHere_17, pM_testHere_18, qfM_138, rp_13_54, ms_R54 hS, ms_C254 hS, ms_N254 hS, pM_testHere_21, stp_iload_n, pM_testHere_22, pM_testHere_23, stp_invokevirtual, qmM_260, cy_M_here, pM_testHere_26, stp_bipush, pM_testHere_28, stp_if_icmp_ne, pM_testHere_31, pM_testHere_32, stp_goto, pM_testHere_35, pM_testHere_36, stp_bastore, pM_testHere_37, pM_testHere_38, pM_testHere_41, pM_testHere_42, stp_baload, pM_testHere_43, stp_ifCond_eq, pM_testHere_46, pM_testHere_47, stp_dup, pM_testHere_48, qfM_253, rp_13_61, pM_testHere_51, pM_testHere_52, pM_testHere_53, stp_putfield, fi_13_61, nr_13_61, pM_testHere_56, pM_testHere_57, qfM_141, rp_13_55, ms_R55 hS, ms_C155 hS, ms_N155 hS, pM_testHere_60, pM_testHere_61, pM_testHere_62, qmM_282, cy_M_fieldHere, pM_testHere_65, stp_iastore, pM_testHere_66, pM_testHere_67, qfM_256, rp_13_62, pM_testHere_70, pM_testHere_73, stp_return_, pM_testHere_74, pM_testHere_75, qfM_144, rp_13_56, ms_R56 hS, ms_C156 hS, ms_N156 hS, pM_testHere_78, pM_testHere_79, pM_testHere_80, pM_testHere_83, pM_testHere_84, pM_testHere_85, pM_testHere_88, pM_testHere_90, stp_if_icmp_eq, pM_testHere_93, pM_testHere_94, pM_testHere_97, pM_testHere_99, pM_testHere_102, pM_testHere_103, pM_testHere_104, pM_testHere_107, pM_testHere_108, pM_testHere_109, pM_testHere_112, pM_testHere_115, pM_testHere_116, pM_testHere_118, qmM_265, cy_M_one, pM_testHere_121, pM_testHere_122, qfM_147, rp_13_57, ms_R57 hS, ms_C157 hS, ms_N157 hS, pM_testHere_125, pM_testHere_126, pM_testHere_127, qmM_285, cy_M_numberHere, pM_testHere_130, pM_testHere_131, pM_testHere_132, pM_testHere_135, pM_testHere_136, pM_testHere_139, stp_dup2, pM_testHere_140, pM_testHere_141, pM_testHere_142, pM_testHere_143, pM_testHere_144, ic_3, bp_33, ic_1, ic_0, bp_60, bp_62, bp_61, nv_M_testHere, ml_M_testHere, ru, hl1, v1, c1, r1, q2, show ¬ (62 : Int32) = 60 by decide, h3, nI_1]
      exact hX
    · simp only [q1, q2, or_self, if_false] at hX
      simp only [reduceCtorEq, fv0, fv1, fv2, fv3, bI_0, bI_1, bft, MSh_sI_eq, fsP_T, inL_0, inL_s, pad_0, pad_n, pad_s, wpn_s, wp1_s, lg_0, lg_s, lset_0, lset_s, kil_0, kil_s, st1_s, st2_s, isL_i, isL_l, isL_r, isL_n, spl_0, spl_s, cll_n, cll_s, catS_0, catS_s, jmp_s, alk_0, alk_s, otl_n, otl_s, List.nil_append, List.cons_append, List.contains_cons, List.contains_nil, Nat.reduceBEq, Bool.or_false, Bool.false_or, Bool.or_self, Bool.false_eq_true, Bool.true_or, Bool.or_true, if_true, if_false, ite_true, ite_false, ↓reduceIte, List.length_cons, List.length_nil, Nat.reduceAdd, Nat.reduceLT, Nat.reduceLeDiff, Nat.reduceEqDiff, Int.reduceAdd, Int.reduceLE, Int.toNat_natCast, Int.reduceToNat, Int.cast_ofNat_Int, true_and, and_true, false_and, and_false, true_implies, forall_const, eq_self, and_self, or_true, true_or, or_self, false_or, or_false, yI_sI, yR_sI, yC_sI, yN_sI, yI_sR, yR_sR, yC_sR, yN_sR, not_true_eq_false, not_false_eq_true, false_implies, implies_true, Nat.zero_add, Nat.add_zero, Nat.le_refl, Nat.reduceSub, Int.reduceSub, Int.reduceLT, Int.sub_zero, Int.sub_self, List.getElem?_toArray, List.getElem?_cons_zero, List.getElem?_cons_succ, Int.toNat_zero, Int.toNat_one, Int.lt_irrefl, yI_sB, yR_sB, yC_sB, yN_sB, MSh_sB_eq, pM_testHere_0, stp_iconst, pM_testHere_1, stp_aload_n, pM_testHere_2, stp_getfield, qfM_279, rp_13_60, ms_C13 hS, pM_testHere_5, stp_imul, pM_testHere_6, pM_testHere_7, qfM_135, rp_13_53, ms_R53 hS, ms_C153 hS, ms_N153 hS, pM_testHere_10, pM_testHere_11, pM_testHere_14, stp_iaload, pM_testHere_15, stp_iadd, pM_testHere_16, stp_istore_n, pM_testHere_17, pM_testHere_18, qfM_138, rp_13_54, ms_R54 hS, ms_C254 hS, ms_N254 hS, pM_testHere_21, stp_iload_n, pM_testHere_22, pM_testHere_23, stp_invokevirtual, qmM_260, cy_M_here, pM_testHere_26, stp_bipush, pM_testHere_28, stp_if_icmp_ne, pM_testHere_31, pM_testHere_32, stp_goto, pM_testHere_35, pM_testHere_36, stp_bastore, pM_testHere_37, pM_testHere_38, pM_testHere_41, pM_testHere_42, stp_baload, pM_testHere_43, stp_ifCond_eq, pM_testHere_46, pM_testHere_47, stp_dup, pM_testHere_48, qfM_253, rp_13_61, pM_testHere_51, pM_testHere_52, pM_testHere_53, stp_putfield, fi_13_61, nr_13_61, pM_testHere_56, pM_testHere_57, qfM_141, rp_13_55, ms_R55 hS, ms_C155 hS, ms_N155 hS, pM_testHere_60, pM_testHere_61, pM_testHere_62, qmM_282, cy_M_fieldHere, pM_testHere_65, stp_iastore, pM_testHere_66, pM_testHere_67, qfM_256, rp_13_62, pM_testHere_70, pM_testHere_73, stp_return_, pM_testHere_74, pM_testHere_75, qfM_144, rp_13_56, ms_R56 hS, ms_C156 hS, ms_N156 hS, pM_testHere_78, pM_testHere_79, pM_testHere_80, pM_testHere_83, pM_testHere_84, pM_testHere_85, pM_testHere_88, pM_testHere_90, stp_if_icmp_eq, pM_testHere_93, pM_testHere_94, pM_testHere_97, pM_testHere_99, pM_testHere_102, pM_testHere_103, pM_testHere_104, pM_testHere_107, pM_testHere_108, pM_testHere_109, pM_testHere_112, pM_testHere_115, pM_testHere_116, pM_testHere_118, qmM_265, cy_M_one, pM_testHere_121, pM_testHere_122, qfM_147, rp_13_57, ms_R57 hS, ms_C157 hS, ms_N157 hS, pM_testHere_125, pM_testHere_126, pM_testHere_127, qmM_285, cy_M_numberHere, pM_testHere_130, pM_testHere_131, pM_testHere_132, pM_testHere_135, pM_testHere_136, pM_testHere_139, stp_dup2, pM_testHere_140, pM_testHere_141, pM_testHere_142, pM_testHere_143, pM_testHere_144, ic_3, bp_33, ic_1, ic_0, bp_60, bp_62, bp_61, nv_M_testHere, ml_M_testHere, ru, hl1, hl2, v1, c1, r1, r2, q1, q2]
      exact hX
set_option maxRecDepth 100000 in
set_option maxHeartbeats 4000000 in
theorem sgM_test4 {k r c : Nat} {s : RS} (hl : 4 < n) (hA : RdA w s) (hk : k < 33) (h60 : wI w 13 0 60 = nI r) (hr : r ≤ 10) (h153 : wI w 153 0 r = nI c) (hQ : Q none (sI (sI (rdW w (nbS (hrN w) s).1) 157 0 k (nbS (hrN w) s).2) 153 0 r (nI (c + 1)))) : WP l G mM_testHere n 0 0 Q 121 [some aM, some (.inl (nI k))] [] w 0 0 := by
  have hS := hA.1
  have ru := ruM_numberHere hA
  have hl1 : lvM_numberHere < n := by show 2 < n; omega
  have v1 : vp_in (nI k) 33 := vp_in_nI (by omega) (by omega)
  have c1 : (nI k).toNatClampNeg = k := nI_clamp (by omega)
  have v2 : vp_in (nI r) 11 := vp_in_nI (by omega) (by omega)
  have c2 : (nI r).toNatClampNeg = r := nI_clamp (by omega)
  generalize nbS (hrN w) s = q at ru hQ
  have hS2 : MSh (rdW w q.1) := hS
  have e60 : wI (rdW w q.1) 13 0 60 = nI r := by rw [rdW_n (by omega)]; exact h60
  have e153 : wI (rdW w q.1) 153 0 r = nI c := by rw [rdW_n (by omega)]; exact h153
  refine wpn_ok (M := mM_testHere) (C := cenM) (X := (alk [(285, lvM_numberHere, fsM_numberHere)])) (tb := tM_testHere) (st := []) eoM (XOk_cons qmM_285 (okM_numberHere l G) XOk_nil) kM_testHere 60 _ _ _ _ _ _ ?_
  simp only [reduceCtorEq, fv0, fv1, fv2, fv3, bI_0, bI_1, bft, MSh_sI_eq, fsP_T, inL_0, inL_s, pad_0, pad_n, pad_s, wpn_s, wp1_s, lg_0, lg_s, lset_0, lset_s, kil_0, kil_s, st1_s, st2_s, isL_i, isL_l, isL_r, isL_n, spl_0, spl_s, cll_n, cll_s, catS_0, catS_s, jmp_s, alk_0, alk_s, otl_n, otl_s, List.nil_append, List.cons_append, List.contains_cons, List.contains_nil, Nat.reduceBEq, Bool.or_false, Bool.false_or, Bool.or_self, Bool.false_eq_true, Bool.true_or, Bool.or_true, if_true, if_false, ite_true, ite_false, ↓reduceIte, List.length_cons, List.length_nil, Nat.reduceAdd, Nat.reduceLT, Nat.reduceLeDiff, Nat.reduceEqDiff, Int.reduceAdd, Int.reduceLE, Int.toNat_natCast, Int.reduceToNat, Int.cast_ofNat_Int, true_and, and_true, false_and, and_false, true_implies, forall_const, eq_self, and_self, or_true, true_or, or_self, false_or, or_false, yI_sI, yR_sI, yC_sI, yN_sI, yI_sR, yR_sR, yC_sR, yN_sR, not_true_eq_false, not_false_eq_true, false_implies, implies_true, Nat.zero_add, Nat.add_zero, Nat.le_refl, Nat.reduceSub, Int.reduceSub, Int.reduceLT, Int.sub_zero, Int.sub_self, List.getElem?_toArray, List.getElem?_cons_zero, List.getElem?_cons_succ, Int.toNat_zero, Int.toNat_one, Int.lt_irrefl, yI_sB, yR_sB, yC_sB, yN_sB, MSh_sB_eq, pM_testHere_0, stp_iconst, pM_testHere_1, stp_aload_n, pM_testHere_2, stp_getfield, qfM_279, rp_13_60, ms_C13 hS, pM_testHere_5, stp_imul, pM_testHere_6, pM_testHere_7, qfM_135, rp_13_53, ms_R53 hS, ms_C153 hS, ms_N153 hS, pM_testHere_10, pM_testHere_11, pM_testHere_14, stp_iaload, pM_testHere_15, stp_iadd, pM_testHere_16, stp_istore_n, pM_testHere_17, pM_testHere_18, qfM_138, rp_13_54, ms_R54 hS, ms_C254 hS, ms_N254 hS, pM_testHere_21, stp_iload_n, pM_testHere_22, pM_testHere_23, stp_invokevirtual, qmM_260, cy_M_here, pM_testHere_26, stp_bipush, pM_testHere_28, stp_if_icmp_ne, pM_testHere_31, pM_testHere_32, stp_goto, pM_testHere_35, pM_testHere_36, stp_bastore, pM_testHere_37, pM_testHere_38, pM_testHere_41, pM_testHere_42, stp_baload, pM_testHere_43, stp_ifCond_eq, pM_testHere_46, pM_testHere_47, stp_dup, pM_testHere_48, qfM_253, rp_13_61, pM_testHere_51, pM_testHere_52, pM_testHere_53, stp_putfield, fi_13_61, nr_13_61, pM_testHere_56, pM_testHere_57, qfM_141, rp_13_55, ms_R55 hS, ms_C155 hS, ms_N155 hS, pM_testHere_60, pM_testHere_61, pM_testHere_62, qmM_282, cy_M_fieldHere, pM_testHere_65, stp_iastore, pM_testHere_66, pM_testHere_67, qfM_256, rp_13_62, pM_testHere_70, pM_testHere_73, stp_return_, pM_testHere_74, pM_testHere_75, qfM_144, rp_13_56, ms_R56 hS, ms_C156 hS, ms_N156 hS, pM_testHere_78, pM_testHere_79, pM_testHere_80, pM_testHere_83, pM_testHere_84, pM_testHere_85, pM_testHere_88, pM_testHere_90, stp_if_icmp_eq, pM_testHere_93, pM_testHere_94, pM_testHere_97, pM_testHere_99, pM_testHere_102, pM_testHere_103, pM_testHere_104, pM_testHere_107, pM_testHere_108, pM_testHere_109, pM_testHere_112, pM_testHere_115, pM_testHere_116, pM_testHere_118, qmM_265, cy_M_one, pM_testHere_121, pM_testHere_122, qfM_147, rp_13_57, ms_R57 hS, ms_C157 hS, ms_N157 hS, pM_testHere_125, pM_testHere_126, pM_testHere_127, qmM_285, cy_M_numberHere, pM_testHere_130, pM_testHere_131, pM_testHere_132, pM_testHere_135, pM_testHere_136, pM_testHere_139, stp_dup2, pM_testHere_140, pM_testHere_141, pM_testHere_142, pM_testHere_143, pM_testHere_144, ic_3, bp_33, ic_1, ic_0, bp_60, bp_62, bp_61, nv_M_testHere, ml_M_testHere, ru, hl1, v1, c1, v2, c2, ms_R53 hS2, ms_C153 hS2, ms_N153 hS2, ms_C157 hS2, ms_N157 hS2, ms_C13 hS2, e60, e153, nI_1]
  exact hQ
end
/-- all but what the reading of rule r writes is the same -/
def SmR (r : Nat) (w0 w : Wd) : Prop := w.2 = w0.2 ∧ ∀ t k i, ¬ ((t = 13 ∧ (i = 60 ∨ i = 61 ∨ i = 62)) ∨ ((t = 149 ∨ t = 150 ∨ t = 153) ∧ i = r) ∨ ((t = 254 ∨ t = 155 ∨ t = 156 ∨ t = 157) ∧ 3 * r ≤ i ∧ i < 3 * r + 3)) → wI w t k i = wI w0 t k i
def RdT (w : Wd) (r : Nat) (ts : List Tst) : Prop := ∀ j t, ts[j]? = some t → wI w 254 0 (3 * r + j) = bI t.1 ∧ wI w 155 0 (3 * r + j) = t.2.1 ∧ wI w 156 0 (3 * r + j) = t.2.2.1 ∧ wI w 157 0 (3 * r + j) = t.2.2.2
/-- the state of a reading -/
def RdJ (w0 w : Wd) (r : Nat) (ky nb : Int32) (s : RS) (ts : List Tst) : Prop := SmR r w0 w ∧ RdA w s ∧ wI w 13 0 60 = nI r ∧ wI w 149 0 r = ky ∧ wI w 150 0 r = nb ∧ wI w 153 0 r = nI ts.length ∧ RdT w r ts
theorem SmR_h {r : Nat} {w0 w : Wd} (h : SmR r w0 w) : hrN w = hrN w0 := by
  funext p
  unfold hrN cn
  rw [h.2 13 0 58 (by omega), h.2 159 0 p (by omega)]
theorem SmR_c {r k : Nat} {w0 w : Wd} (h : SmR r w0 w) (hk : ¬ (k = 60 ∨ k = 61 ∨ k = 62)) : cn w k = cn w0 k := by unfold cn; rw [h.2 13 0 k (by omega)]
theorem SmR_trans {r : Nat} {a b c : Wd} (h : SmR r a b) (h2 : SmR r b c) : SmR r a c := ⟨h2.1.trans h.1, fun t k i hn => (h2.2 t k i hn).trans (h.2 t k i hn)⟩
theorem SmR_rfl (r : Nat) (w : Wd) : SmR r w w := ⟨rfl, fun _ _ _ _ => rfl⟩
theorem SmR_sI {r : Nat} {w : Wd} {t k i : Nat} {v : Int32} (h : (t = 13 ∧ (i = 60 ∨ i = 61 ∨ i = 62)) ∨ ((t = 149 ∨ t = 150 ∨ t = 153) ∧ i = r) ∨ ((t = 254 ∨ t = 155 ∨ t = 156 ∨ t = 157) ∧ 3 * r ≤ i ∧ i < 3 * r + 3)) : SmR r w (sI w t k i v) := ⟨rfl, fun t' k' i' hn => by rw [yI_sI, if_neg (by omega)]⟩
theorem SmR_rd {r : Nat} {w : Wd} {s : RS} : SmR r w (rdW w s) := ⟨rfl, fun t' k' i' hn => by rw [rdW_n (by omega)]⟩
set_option maxRecDepth 100000 in
set_option maxHeartbeats 4000000 in
theorem smM_testHere (l : Launch) (G : Gc) {w0 w : Wd} {r p : Nat} {ky nb : Int32} {ts : List Tst} (hr : r ≤ 10) (hc : ts.length ≤ 2) (hJ : RdJ w0 w r ky nb (p, false) ts) : Sem l G mM_testHere 5 0 0 [.inr (.inr (some (13, 0)))] w (fun rr w' => rr = none ∧ match (tsS (hrN w0) p).2 with | none => (tsS (hrN w0) p).1.2 = true ∧ RdJ w0 w' r ky nb (tsS (hrN w0) p).1 ts | some t => RdJ w0 w' r ky nb (tsS (hrN w0) p).1 (ts ++ [t])) := by
  obtain ⟨j1, j2, j3, j4, j5, j6, j7⟩ := id hJ
  have eh := SmR_h j1
  rw [← eh]
  refine Sem_of (by decide) rfl (Nat.le_of_ble_eq_true rfl) ?_
  show WP l G mM_testHere 5 0 0 _ 0 [some aM, none] [] w 0 0
  refine sgM_test1 (by decide) j2 j3 hr hc j6 ?_
  have hp : (if hrN w p = 33 then p + 1 else p) ≤ cn w 58 := by
    split
    · rename_i q
      have := hrN_lt (by decide) q
      omega
    · exact j2.2.2.2.1
  unfold tsS
  generalize ht : decide (hrN w p = 33) = nt
  generalize (if hrN w p = 33 then p + 1 else p) = p1 at hp
  generalize hk : 3 * r + ts.length = k
  have hk33 : k < 33 := by omega
  have A1 : RdA (sI w 254 0 k (bI nt)) (p, false) := RdA_sI j2 (by omega)
  have c1 : cn (sI w 254 0 k (bI nt)) 58 = cn w 58 := cn_ne (by omega)
  have h1 : hrN (sI w 254 0 k (bI nt)) = hrN w := hr_sI (by omega) (by omega)
  have A2 : RdA (rdW (sI w 254 0 k (bI nt)) (p1, false)) (p1, false) := rdW_A A1 (by rw [c1]; exact hp)
  have h2 : hrN (rdW (sI w 254 0 k (bI nt)) (p1, false)) = hrN w := by rw [rdW_h, h1]
  refine sgM_test2 (by decide) A2 hk33 ?_ ?_
  · rw [h2, rdW_rdW]
    intro hs
    rw [if_pos hs]
    generalize hS2 : wdS (hrN w) (fdL (hrN w p1)).1 (p1, false) = s2 at hs
    have hle : s2.1 ≤ cn w 58 := by rw [← hS2]; exact wdS_le _ _ (fdL_ok _) hp
    refine ⟨rfl, hs, SmR_trans j1 (SmR_trans (SmR_sI (by omega)) (SmR_trans SmR_rd (SmR_sI (by omega)))), RdA_sI (rdW_A A1 (by rw [c1]; exact hle)) (by omega), ?_, ?_, ?_, ?_, ?_⟩
    · rw [yI_sI, if_neg (by omega), rdW_n (by omega), yI_sI, if_neg (by omega)]; exact j3
    · rw [yI_sI, if_neg (by omega), rdW_n (by omega), yI_sI, if_neg (by omega)]; exact j4
    · rw [yI_sI, if_neg (by omega), rdW_n (by omega), yI_sI, if_neg (by omega)]; exact j5
    · rw [yI_sI, if_neg (by omega), rdW_n (by omega), yI_sI, if_neg (by omega)]; exact j6
    · intro j t he
      have hlt := (List.getElem?_eq_some_iff.mp he).1
      obtain ⟨q1, q2, q3, q4⟩ := j7 j t he
      refine ⟨?_, ?_, ?_, ?_⟩
      · rw [yI_sI, if_neg (by omega), rdW_n (by omega), yI_sI, if_neg (by omega)]; exact q1
      · rw [yI_sI, if_neg (by omega), rdW_n (by omega), yI_sI, if_neg (by omega)]; exact q2
      · rw [yI_sI, if_neg (by omega), rdW_n (by omega), yI_sI, if_neg (by omega)]; exact q3
      · rw [yI_sI, if_neg (by omega), rdW_n (by omega), yI_sI, if_neg (by omega)]; exact q4
  · rw [h2, rdW_rdW]
    intro hs
    rw [if_neg (by rw [hs]; decide)]
    generalize hS2 : wdS (hrN w) (fdL (hrN w p1)).1 (p1, false) = s2 at hs
    generalize (fdL (hrN w p1)).2 = fl
    have hle : s2.1 ≤ cn w 58 := by rw [← hS2]; exact wdS_le _ _ (fdL_ok _) hp
    obtain ⟨p2, b2⟩ := s2
    have hs : b2 = false := hs
    subst hs
    have A3 : RdA (sI (rdW (sI w 254 0 k (bI nt)) (p2, false)) 155 0 k fl) (p2, false) := RdA_sI (rdW_A A1 (by rw [c1]; exact hle)) (by omega)
    have h3 : hrN (sI (rdW (sI w 254 0 k (bI nt)) (p2, false)) 155 0 k fl) = hrN w := by rw [hr_sI (by omega) (by omega), rdW_h, h1]
    have c3 : cn (sI (rdW (sI w 254 0 k (bI nt)) (p2, false)) 155 0 k fl) 58 = cn w 58 := by rw [cn_ne (by omega), rdW_c (by omega), c1]
    refine sgM_test3 (by decide) A3 hk33 ?_
    rw [h3]
    have hle3 : (sgS (hrN w) (p2, false)).1 ≤ cn w 58 := sgS_le hle
    generalize sgS (hrN w) (p2, false) = s3 at hle3
    generalize hrN w p2 = sg
    generalize hW3 : sI (rdW (sI w 254 0 k (bI nt)) (p2, false)) 155 0 k fl = w3 at A3 h3 c3
    have A4 : RdA (rdW (sI w3 156 0 k sg) s3) s3 := rdW_A (RdA_sI A3 (by omega)) (by rw [cn_ne (by omega), c3]; exact hle3)
    have h4 : hrN (rdW (sI w3 156 0 k sg) s3) = hrN w := by rw [rdW_h, hr_sI (by omega) (by omega), h3]
    have g3 : ∀ t k' i, ¬ ((t = 13 ∧ (i = 61 ∨ i = 62)) ∨ (t = 254 ∧ i = k) ∨ (t = 155 ∧ i = k)) → wI w3 t k' i = wI w t k' i := fun t k' i hn => by
      rw [← hW3, yI_sI, if_neg (by omega), rdW_n (by omega), yI_sI, if_neg (by omega)]
    have g4 : ∀ t k' i, ¬ ((t = 13 ∧ (i = 61 ∨ i = 62)) ∨ (t = 254 ∧ i = k) ∨ (t = 155 ∧ i = k) ∨ (t = 156 ∧ i = k)) → wI (rdW (sI w3 156 0 k sg) s3) t k' i = wI w t k' i := fun t k' i hn => by
      rw [rdW_n (by omega), yI_sI, if_neg (by omega), g3 t k' i (by omega)]
    refine sgM_test4 (r := r) (c := ts.length) (by decide) A4 hk33 (by rw [g4 _ _ _ (by omega)]; exact j3) hr (by rw [g4 _ _ _ (by omega)]; exact j6) ?_
    rw [h4, rdW_rdW]
    have hle4 : (nbS (hrN w) s3).1.1 ≤ cn w 58 := nbS_le hle3
    generalize nbS (hrN w) s3 = q4 at hle4
    have A5 : RdA (sI (sI (rdW (sI w3 156 0 k sg) q4.1) 157 0 k q4.2) 153 0 r (nI (ts.length + 1))) q4.1 := RdA_sI (RdA_sI (rdW_A (RdA_sI A3 (by omega)) (by rw [cn_ne (by omega), c3]; exact hle4)) (by omega)) (by omega)
    have g5 : ∀ t k' i, ¬ ((t = 13 ∧ (i = 61 ∨ i = 62)) ∨ (t = 254 ∧ i = k) ∨ (t = 155 ∧ i = k) ∨ (t = 156 ∧ i = k) ∨ (t = 157 ∧ i = k) ∨ (t = 153 ∧ i = r)) → wI (sI (sI (rdW (sI w3 156 0 k sg) q4.1) 157 0 k q4.2) 153 0 r (nI (ts.length + 1))) t k' i = wI w t k' i := fun t k' i hn => by
      rw [yI_sI, if_neg (by omega), yI_sI, if_neg (by omega), rdW_n (by omega), yI_sI, if_neg (by omega), g3 t k' i (by omega)]
    refine ⟨rfl, ⟨?_, fun t k' i hn => ?_⟩, A5, by rw [g5 _ _ _ (by omega)]; exact j3, by rw [g5 _ _ _ (by omega)]; exact j4, by rw [g5 _ _ _ (by omega)]; exact j5, by rw [yI_sI]; simp, fun j t he => ?_⟩
    · rw [← hW3]; exact j1.1
    · rw [g5 t k' i (by omega)]; exact j1.2 t k' i hn
    · by_cases hj : j < ts.length
      · rw [List.getElem?_append_left hj] at he
        obtain ⟨q1, q2, q3, q4'⟩ := j7 j t he
        exact ⟨by rw [g5 _ _ _ (by omega)]; exact q1, by rw [g5 _ _ _ (by omega)]; exact q2, by rw [g5 _ _ _ (by omega)]; exact q3, by rw [g5 _ _ _ (by omega)]; exact q4'⟩
      · rw [List.getElem?_append_right (by omega)] at he
        have hz := (List.getElem?_eq_some_iff.mp he).1
        simp only [List.length_cons, List.length_nil] at hz
        have ej : j = ts.length := by omega
        subst ej
        simp at he
        subst he
        rw [hk]
        refine ⟨?_, ?_, ?_, ?_⟩
        · rw [yI_sI, if_neg (by omega), yI_sI, if_neg (by omega), rdW_n (by omega), yI_sI, if_neg (by omega), ← hW3, yI_sI, if_neg (by omega), rdW_n (by omega), yI_sI]; simp
        · rw [yI_sI, if_neg (by omega), yI_sI, if_neg (by omega), rdW_n (by omega), yI_sI, if_neg (by omega), ← hW3, yI_sI]; simp
        · rw [yI_sI, if_neg (by omega), yI_sI, if_neg (by omega), rdW_n (by omega), yI_sI]; simp
        · rw [yI_sI, if_neg (by omega), yI_sI]; simp
