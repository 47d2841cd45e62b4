/-! the planner keeps a plan -/
def kpW (w : Wd) (v : Int32) : Wd := sI (sI (sI (sI (sI (sI (sI (sI (sI (sI w 6 0 13 v) 6 0 14 (wI w 6 0 8)) 181 0 0 (wI w 179 0 0)) 182 0 0 (wI w 180 0 0)) 181 0 1 (wI w 179 0 1)) 182 0 1 (wI w 180 0 1)) 181 0 2 (wI w 179 0 2)) 182 0 2 (wI w 180 0 2)) 181 0 3 (wI w 179 0 3)) 182 0 3 (wI w 180 0 3)
theorem kpW_I (w : Wd) (v : Int32) (t k q : Nat) : wI (kpW w v) t k q = if t = 6 ∧ k = 0 ∧ q = 13 then v else if t = 6 ∧ k = 0 ∧ q = 14 then wI w 6 0 8 else if t = 181 ∧ k = 0 ∧ q < 4 then wI w 179 0 q else if t = 182 ∧ k = 0 ∧ q < 4 then wI w 180 0 q else wI w t k q := by
  unfold kpW
  simp only [yI_sI]
  by_cases a1 : t = 6
  · subst a1; simp; by_cases b1 : k = 0 ∧ q = 14 <;> by_cases b2 : k = 0 ∧ q = 13 <;> simp [b1, b2] <;> omega
  · by_cases a2 : t = 181 ∧ k = 0
    · obtain ⟨rfl, rfl⟩ := a2
      by_cases c : q < 4
      · have : q = 0 ∨ q = 1 ∨ q = 2 ∨ q = 3 := by omega
        rcases this with rfl | rfl | rfl | rfl <;> simp
      · have c0 : ¬ q = 0 := by omega
        have c1 : ¬ q = 1 := by omega
        have c2 : ¬ q = 2 := by omega
        have c3 : ¬ q = 3 := by omega
        simp [c, c0, c1, c2, c3]
    · by_cases a3 : t = 182 ∧ k = 0
      · obtain ⟨rfl, rfl⟩ := a3
        by_cases c : q < 4
        · have : q = 0 ∨ q = 1 ∨ q = 2 ∨ q = 3 := by omega
          rcases this with rfl | rfl | rfl | rfl <;> simp
        · have c0 : ¬ q = 0 := by omega
          have c1 : ¬ q = 1 := by omega
          have c2 : ¬ q = 2 := by omega
          have c3 : ¬ q = 3 := by omega
          simp [c, c0, c1, c2, c3]
      · have d1 : ∀ q', ¬ (t = 181 ∧ k = 0 ∧ q = q') := fun q' z => a2 ⟨z.1, z.2.1⟩
        have d2 : ∀ q', ¬ (t = 182 ∧ k = 0 ∧ q = q') := fun q' z => a3 ⟨z.1, z.2.1⟩
        have d3 : ¬ (t = 181 ∧ k = 0 ∧ q < 4) := fun z => a2 ⟨z.1, z.2.1⟩
        have d4 : ¬ (t = 182 ∧ k = 0 ∧ q < 4) := fun z => a3 ⟨z.1, z.2.1⟩
        simp only [d1, d2, d3, d4, a1, false_and, if_false]
theorem kpW_K (w : Wd) (v : Int32) : SmK w (kpW w v) := ⟨by unfold kpW; simp only [sI_2], fun t k i hn => by rw [kpW_I, if_neg (by omega), if_neg (by omega), if_neg (by omega), if_neg (by omega)]⟩
section
variable {l : Launch} {G : Gc} {w : Wd}
set_option maxRecDepth 100000 in
set_option maxHeartbeats 4000000 in
theorem smP_keep {v : Int32} (hS : SSh w) : Sem l G mP_keep 1 0 0 [.inr (.inr (some (6, 0))), .inl v] w (fun r w' => r = none ∧ w' = kpW w v) := by
  have a0 : (0 : Int32) + 1 = 1 := by decide
  have a1 : (1 : Int32) + 1 = 2 := by decide
  have a2 : (2 : Int32) + 1 = 3 := by decide
  have a3 : (3 : Int32) + 1 = 4 := by decide
  have b0 : ¬ (4 : Int32) ≤ 0 := by decide
  have b1 : ¬ (4 : Int32) ≤ 1 := by decide
  have b2 : ¬ (4 : Int32) ≤ 2 := by decide
  have b3 : ¬ (4 : Int32) ≤ 3 := by decide
  have c0 : (0 : Int32).toNatClampNeg = 0 := by decide
  have c1 : (1 : Int32).toNatClampNeg = 1 := by decide
  have c2 : (2 : Int32).toNatClampNeg = 2 := by decide
  have c3 : (3 : Int32).toNatClampNeg = 3 := by decide
  have v0 : vp_in (0 : Int32) 4 := vp_in_nI (n := 0) (by omega) (by omega)
  have v1 : vp_in (1 : Int32) 4 := vp_in_nI (n := 1) (by omega) (by omega)
  have v2 : vp_in (2 : Int32) 4 := vp_in_nI (n := 2) (by omega) (by omega)
  have v3 : vp_in (3 : Int32) 4 := vp_in_nI (n := 3) (by omega) (by omega)
  refine Sem_of (by decide) rfl (Nat.le_of_ble_eq_true rfl) ?_
  refine wpn_ok (M := mP_keep) (C := cenP) (X := (alk [])) (tb := tP_keep) (st := []) eoP XOk_nil kP_keep 120 _ _ _ _ _ _ ?_
  simp only [reduceCtorEq, fv0, fv1, fv2, fv3, bI_0, bI_1, bft, MSh_sI_eq, fsP_T, inL_0, inL_s, pad_0, pad_n, pad_s, wpn_s, wp1_s, lg_0, lg_s, lset_0, lset_s, kil_0, kil_s, st1_s, st2_s, isL_i, isL_l, isL_r, isL_n, spl_0, spl_s, cll_n, cll_s, catS_0, catS_s, jmp_s, alk_0, alk_s, otl_n, otl_s, List.nil_append, List.cons_append, List.contains_cons, List.contains_nil, Nat.reduceBEq, Bool.or_false, Bool.false_or, Bool.or_self, Bool.false_eq_true, Bool.true_or, Bool.or_true, if_true, if_false, ite_true, ite_false, ↓reduceIte, List.length_cons, List.length_nil, Nat.reduceAdd, Nat.reduceLT, Nat.reduceLeDiff, Nat.reduceEqDiff, Int.reduceAdd, Int.reduceLE, Int.toNat_natCast, Int.reduceToNat, Int.cast_ofNat_Int, true_and, and_true, false_and, and_false, true_implies, forall_const, eq_self, and_self, or_true, true_or, or_self, false_or, or_false, yI_sI, yR_sI, yC_sI, yN_sI, yI_sR, yR_sR, yC_sR, yN_sR, not_true_eq_false, not_false_eq_true, false_implies, implies_true, Nat.zero_add, Nat.add_zero, Nat.le_refl, Nat.reduceSub, Int.reduceSub, Int.reduceLT, Int.sub_zero, Int.sub_self, List.getElem?_toArray, List.getElem?_cons_zero, List.getElem?_cons_succ, Int.toNat_zero, Int.toNat_one, Int.lt_irrefl, yI_sB, yR_sB, yC_sB, yN_sB, MSh_sB_eq, pP_keep_0, stp_aload_n, pP_keep_1, stp_iload_n, pP_keep_2, stp_putfield, qfP_52, rp_6_13, fi_6_13, nr_6_13, ss_C6 hS, pP_keep_5, pP_keep_6, pP_keep_7, stp_getfield, qfP_36, rp_6_8, pP_keep_10, qfP_55, rp_6_14, fi_6_14, nr_6_14, pP_keep_13, stp_iconst, pP_keep_14, stp_istore_n, pP_keep_15, pP_keep_16, pP_keep_17, stp_if_icmp_ge, pP_keep_20, pP_keep_21, qfP_30, rp_6_6, ss_R6_6 hS, ss_C181 hS, ss_N181 hS, pP_keep_24, pP_keep_25, pP_keep_26, qfP_24, rp_6_4, ss_R6_4 hS, ss_C179 hS, ss_N179 hS, pP_keep_29, pP_keep_30, stp_iaload, pP_keep_31, stp_iastore, pP_keep_32, pP_keep_33, qfP_33, rp_6_7, ss_R6_7 hS, ss_C182 hS, ss_N182 hS, pP_keep_36, pP_keep_37, pP_keep_38, qfP_27, rp_6_5, ss_R6_5 hS, ss_C180 hS, ss_N180 hS, pP_keep_41, pP_keep_42, pP_keep_43, pP_keep_44, stp_iinc, pP_keep_47, stp_goto, pP_keep_50, stp_return_, ic_0, ic_4, ic_1, nv_P_keep, ml_P_keep, a0, a1, a2, a3, b0, b1, b2, b3, c0, c1, c2, c3, v0, v1, v2, v3, Int32.le_refl, kpW]
end
