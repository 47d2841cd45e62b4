/-! calls: run -/
theorem sI_cm {w : Wd} {t k i t' k' i' : Nat} {a b : Int32} (h : ¬ (t = t' ∧ k = k' ∧ i = i')) : sI (sI w t k i a) t' k' i' b = sI (sI w t' k' i' b) t k i a := by
  refine Wd_eq (fun s q j => ?_) rfl
  rw [yI_sI, yI_sI, yI_sI, yI_sI]
  by_cases c : s = t' ∧ q = k' ∧ j = i'
  · rw [if_pos c, if_neg (by omega), if_pos c]
  · rw [if_neg c, if_neg c]
theorem tkv_0 (w : Wd) (v : Int32) (k n : Nat) : tkv (sI w 0 0 9 v) k n = tkv w k n := rfl
theorem mnA_0 (w : Wd) (v : Int32) (k : Nat) : mnA (sI w 0 0 9 v) k = mnA w k := rfl
theorem szA_0 (w : Wd) (v : Int32) (k : Nat) : szA (sI w 0 0 9 v) k = szA w k := rfl
theorem afC_0 (w : Wd) (v : Int32) (k y : Nat) : ∀ n, afC (sI w 0 0 9 v) k y n = afC w k y n
  | 0 => rfl
  | n + 1 => by rw [afC, afC, tkv_0, mnA_0, afC_0 w v k y n]
theorem afU_0 (w : Wd) (v : Int32) (k y : Nat) : ∀ n, afU (sI w 0 0 9 v) k y n = sI (afU w k y n) 0 0 9 v
  | 0 => rfl
  | n + 1 => by
    rw [afU, afU, tkv_0, mnA_0, afC_0, afU_0 w v k y n]
    by_cases q : y < tkv w k n + mnA w k
    · rw [if_pos q, if_pos q, sI_cm (by omega)]
    · rw [if_neg q, if_neg q]
theorem afW_0 (w : Wd) (v : Int32) (k y : Nat) : afW (sI w 0 0 9 v) k y = sI (afW w k y) 0 0 9 v := by
  unfold afW
  rw [szA_0, afC_0, afU_0, sI_cm (by omega)]
section
variable {l : Launch} {G : Gc} {n : Nat} {Q : Option AV → Wd → Prop} {w : Wd}
set_option maxRecDepth 100000 in
set_option maxHeartbeats 4000000 in
theorem stY_forgetR {y i N : Nat} (hl : 3 < n) (hS : SSh w) (hLi : LiS w 0 N (fun k => (9, k))) (hN : N ≤ 20) (hA : AlQ w i) (hy : y < 2 ^ 30) (hi : i < N) (ih : WP l G mY_forgetBefore n 0 0 Q 2 [some (.inr (.inr (some (1, 0)))), some (.inl (nI y)), some (.inl (nI (i + 1)))] [] (afW w i y) 0 0) : WP l G mY_forgetBefore n 0 0 Q 2 [some (.inr (.inr (some (1, 0)))), some (.inl (nI y)), some (.inl (nI i))] [] w 0 0 := by
  have rs := ruL_size hLi
  have rg : fsL_get [.inr (.inr (some (2, 0))), .inl (nI i)] w = some (some (.inr (.inr (some (9, i)))), w) := ruL_get hLi hi
  have a1 := hA.1.1
  have rf := ruA_forgetBefore hA hy
  have q1 : ¬ nI N ≤ nI i := nI_ge hi (by omega)
  have hl3 : lvL_size < n := by show 1 < n; omega
  have hl4 : lvL_get < n := hl
  have hl5 : lvA_forgetBefore < n := by show 1 < n; omega
  refine wpn_ok (M := mY_forgetBefore) (C := cenY) (X := (alk [(57, lvL_size, fsL_size), (69, lvL_get, fsL_get), (108, lvA_forgetBefore, fsA_forgetBefore)])) (tb := tY_forgetBefore) (st := [2]) eoY (XOk_cons qmY_57 (okL_size l G) (XOk_cons qmY_69 (okL_get l G) (XOk_cons qmY_108 (okA_forgetBefore l G) XOk_nil))) kY_forgetBefore 60 _ _ _ _ _ _ ?_
  simp only [reduceCtorEq, fv0, fv1, fv2, fv3, bI_0, bI_1, bft, MSh_sI_eq, fsP_T, inL_0, inL_s, pad_0, pad_n, pad_s, wpn_s, wp1_s, lg_0, lg_s, lset_0, lset_s, kil_0, kil_s, st1_s, st2_s, isL_i, isL_l, isL_r, isL_n, spl_0, spl_s, cll_n, cll_s, catS_0, catS_s, jmp_s, alk_0, alk_s, otl_n, otl_s, List.nil_append, List.cons_append, List.contains_cons, List.contains_nil, Nat.reduceBEq, Bool.or_false, Bool.false_or, Bool.or_self, Bool.false_eq_true, Bool.true_or, Bool.or_true, if_true, if_false, ite_true, ite_false, ↓reduceIte, List.length_cons, List.length_nil, Nat.reduceAdd, Nat.reduceLT, Nat.reduceLeDiff, Nat.reduceEqDiff, Int.reduceAdd, Int.reduceLE, Int.toNat_natCast, Int.reduceToNat, Int.cast_ofNat_Int, true_and, and_true, false_and, and_false, true_implies, forall_const, eq_self, and_self, or_true, true_or, or_self, false_or, or_false, yI_sI, yR_sI, yC_sI, yN_sI, yI_sR, yR_sR, yC_sR, yN_sR, not_true_eq_false, not_false_eq_true, false_implies, implies_true, Nat.zero_add, Nat.add_zero, Nat.le_refl, Nat.reduceSub, Int.reduceSub, Int.reduceLT, Int.sub_zero, Int.sub_self, List.getElem?_toArray, List.getElem?_cons_zero, List.getElem?_cons_succ, Int.toNat_zero, Int.toNat_one, Int.lt_irrefl, yI_sB, yR_sB, yC_sB, yN_sB, MSh_sB_eq, pY_forgetBefore_0, stp_iconst, pY_forgetBefore_1, stp_istore_n, pY_forgetBefore_2, stp_iload_n, pY_forgetBefore_3, stp_aload_n, pY_forgetBefore_4, stp_getfield, qfY_12, rp_1_0, ss_C1 hS, ss_R1_0 hS, ss_C2 hS, pY_forgetBefore_7, stp_invokevirtual, qmY_57, cy_L_size, pY_forgetBefore_10, stp_if_icmp_ge, pY_forgetBefore_13, pY_forgetBefore_14, pY_forgetBefore_17, pY_forgetBefore_18, qmY_69, cy_L_get, pY_forgetBefore_21, stp_checkcast, qtY_39, pY_forgetBefore_24, pY_forgetBefore_25, qmY_108, cy_A_forgetBefore, pY_forgetBefore_28, stp_iinc, pY_forgetBefore_31, stp_goto, pY_forgetBefore_34, stp_return_, ic_0, ic_1, nv_Y_forgetBefore, ml_Y_forgetBefore, rs, rg, rf, a1, q1, hl3, hl4, hl5, nI_1]
  exact ih
set_option maxRecDepth 100000 in
set_option maxHeartbeats 4000000 in
theorem lpY_forgetR {E : List Ent} {y : Nat} {v : Int32} (hl : 3 < n) (hC : Cpy w) (hE : CpE w E) (hy : y < 2 ^ 30) (hQ : Q none (sI (yfU w y (cn w 6)) 0 0 9 v)) : ∀ c i, i + c = cn w 6 → WP l G mY_forgetBefore n 0 0 Q 2 [some (.inr (.inr (some (1, 0)))), some (.inl (nI y)), some (.inl (nI i))] [] (sI (yfU w y i) 0 0 9 v) 0 0
  | 0, i, hi => by
    have e : i = cn w 6 := hi
    subst e
    have S := SmE_W (yfU_E w y (cn w 6))
    have C1 := Cpy_W S hC
    have hS := SSh_of (w' := sI (yfU w y (cn w 6)) 0 0 9 v) C1.1 rfl
    have rs := ruL_size (LiS_cg (w := yfU w y (cn w 6)) (w' := sI (yfU w y (cn w 6)) 0 0 9 v) rfl rfl C1.2.2.1.1)
    rw [SmW_c S] at rs
    have hl3 : lvL_size < n := by show 1 < n; omega
    refine wpn_ok (M := mY_forgetBefore) (C := cenY) (X := (alk [(57, lvL_size, fsL_size)])) (tb := tY_forgetBefore) (st := [2]) eoY (XOk_cons qmY_57 (okL_size l G) XOk_nil) kY_forgetBefore 60 _ _ _ _ _ _ ?_
    simp only [reduceCtorEq, fv0, fv1, fv2, fv3, bI_0, bI_1, bft, MSh_sI_eq, fsP_T, inL_0, inL_s, pad_0, pad_n, pad_s, wpn_s, wp1_s, lg_0, lg_s, lset_0, lset_s, kil_0, kil_s, st1_s, st2_s, isL_i, isL_l, isL_r, isL_n, spl_0, spl_s, cll_n, cll_s, catS_0, catS_s, jmp_s, alk_0, alk_s, otl_n, otl_s, List.nil_append, List.cons_append, List.contains_cons, List.contains_nil, Nat.reduceBEq, Bool.or_false, Bool.false_or, Bool.or_self, Bool.false_eq_true, Bool.true_or, Bool.or_true, if_true, if_false, ite_true, ite_false, ↓reduceIte, List.length_cons, List.length_nil, Nat.reduceAdd, Nat.reduceLT, Nat.reduceLeDiff, Nat.reduceEqDiff, Int.reduceAdd, Int.reduceLE, Int.toNat_natCast, Int.reduceToNat, Int.cast_ofNat_Int, true_and, and_true, false_and, and_false, true_implies, forall_const, eq_self, and_self, or_true, true_or, or_self, false_or, or_false, yI_sI, yR_sI, yC_sI, yN_sI, yI_sR, yR_sR, yC_sR, yN_sR, not_true_eq_false, not_false_eq_true, false_implies, implies_true, Nat.zero_add, Nat.add_zero, Nat.le_refl, Nat.reduceSub, Int.reduceSub, Int.reduceLT, Int.sub_zero, Int.sub_self, List.getElem?_toArray, List.getElem?_cons_zero, List.getElem?_cons_succ, Int.toNat_zero, Int.toNat_one, Int.lt_irrefl, yI_sB, yR_sB, yC_sB, yN_sB, MSh_sB_eq, pY_forgetBefore_0, stp_iconst, pY_forgetBefore_1, stp_istore_n, pY_forgetBefore_2, stp_iload_n, pY_forgetBefore_3, stp_aload_n, pY_forgetBefore_4, stp_getfield, qfY_12, rp_1_0, ss_C1 hS, ss_R1_0 hS, ss_C2 hS, pY_forgetBefore_7, stp_invokevirtual, qmY_57, cy_L_size, pY_forgetBefore_10, stp_if_icmp_ge, pY_forgetBefore_13, pY_forgetBefore_14, pY_forgetBefore_17, pY_forgetBefore_18, qmY_69, cy_L_get, pY_forgetBefore_21, stp_checkcast, qtY_39, pY_forgetBefore_24, pY_forgetBefore_25, qmY_108, cy_A_forgetBefore, pY_forgetBefore_28, stp_iinc, pY_forgetBefore_31, stp_goto, pY_forgetBefore_34, stp_return_, ic_0, ic_1, nv_Y_forgetBefore, ml_Y_forgetBefore, rs, hl3, Int32.le_refl]
    exact hQ
  | c + 1, i, hi => by
    have S := SmE_W (yfU_E w y i)
    have C1 := Cpy_W S hC
    have hA : AlQ (yfU w y i) i := (yf_cp hC hE i (by omega) i (by omega)).1
    have hLi := LiS_cg (w := yfU w y i) (w' := sI (yfU w y i) 0 0 9 v) rfl rfl C1.2.2.1.1
    rw [SmW_c S] at hLi
    have ih := lpY_forgetR hl hC hE hy hQ c (i + 1) (by omega)
    have e : sI (yfU w y (i + 1)) 0 0 9 v = afW (sI (yfU w y i) 0 0 9 v) i y := (afW_0 (yfU w y i) v i y).symm
    rw [e] at ih
    exact stY_forgetR (N := cn w 6) hl (SSh_of C1.1 rfl) hLi hC.2.2.2.1.2.2.1.2 hA hy (by omega) ih
set_option maxRecDepth 100000 in
set_option maxHeartbeats 4000000 in
theorem smY_forgetR {E : List Ent} {y : Nat} {v : Int32} (hC : Cpy w) (hE : CpE w E) (hy : y < 2 ^ 30) : Sem l G mY_forgetBefore 4 0 0 [.inr (.inr (some (1, 0))), .inl (nI y)] (sI w 0 0 9 v) (fun r w' => r = none ∧ w' = sI (yfU w y (cn w 6)) 0 0 9 v) := by
  have hS : SSh (sI w 0 0 9 v) := SSh_of hC.1 rfl
  refine Sem_of (by decide) rfl (Nat.le_of_ble_eq_true rfl) ?_
  have lp := lpY_forgetR (l := l) (G := G) (n := 4) (Q := fun r w' => r = none ∧ w' = sI (yfU w y (cn w 6)) 0 0 9 v) (v := v) (by decide) hC hE hy ⟨rfl, rfl⟩ (cn w 6) 0 (Nat.zero_add _)
  revert lp hS
  show SSh (sI w 0 0 9 v) → WP l G mY_forgetBefore 4 0 0 _ 2 _ [] (sI w 0 0 9 v) 0 0 → _
  generalize sI w 0 0 9 v = w1
  intro hS lp
  refine wpn_ok (M := mY_forgetBefore) (C := cenY) (X := (alk [])) (tb := tY_forgetBefore) (st := [2]) eoY XOk_nil kY_forgetBefore 60 _ _ _ _ _ _ ?_
  simp only [reduceCtorEq, fv0, fv1, fv2, fv3, bI_0, bI_1, bft, MSh_sI_eq, fsP_T, inL_0, inL_s, pad_0, pad_n, pad_s, wpn_s, wp1_s, lg_0, lg_s, lset_0, lset_s, kil_0, kil_s, st1_s, st2_s, isL_i, isL_l, isL_r, isL_n, spl_0, spl_s, cll_n, cll_s, catS_0, catS_s, jmp_s, alk_0, alk_s, otl_n, otl_s, List.nil_append, List.cons_append, List.contains_cons, List.contains_nil, Nat.reduceBEq, Bool.or_false, Bool.false_or, Bool.or_self, Bool.false_eq_true, Bool.true_or, Bool.or_true, if_true, if_false, ite_true, ite_false, ↓reduceIte, List.length_cons, List.length_nil, Nat.reduceAdd, Nat.reduceLT, Nat.reduceLeDiff, Nat.reduceEqDiff, Int.reduceAdd, Int.reduceLE, Int.toNat_natCast, Int.reduceToNat, Int.cast_ofNat_Int, true_and, and_true, false_and, and_false, true_implies, forall_const, eq_self, and_self, or_true, true_or, or_self, false_or, or_false, yI_sI, yR_sI, yC_sI, yN_sI, yI_sR, yR_sR, yC_sR, yN_sR, not_true_eq_false, not_false_eq_true, false_implies, implies_true, Nat.zero_add, Nat.add_zero, Nat.le_refl, Nat.reduceSub, Int.reduceSub, Int.reduceLT, Int.sub_zero, Int.sub_self, List.getElem?_toArray, List.getElem?_cons_zero, List.getElem?_cons_succ, Int.toNat_zero, Int.toNat_one, Int.lt_irrefl, yI_sB, yR_sB, yC_sB, yN_sB, MSh_sB_eq, pY_forgetBefore_0, stp_iconst, pY_forgetBefore_1, stp_istore_n, pY_forgetBefore_2, stp_iload_n, pY_forgetBefore_3, stp_aload_n, pY_forgetBefore_4, stp_getfield, qfY_12, rp_1_0, ss_C1 hS, ss_R1_0 hS, ss_C2 hS, pY_forgetBefore_7, stp_invokevirtual, qmY_57, cy_L_size, pY_forgetBefore_10, stp_if_icmp_ge, pY_forgetBefore_13, pY_forgetBefore_14, pY_forgetBefore_17, pY_forgetBefore_18, qmY_69, cy_L_get, pY_forgetBefore_21, stp_checkcast, qtY_39, pY_forgetBefore_24, pY_forgetBefore_25, qmY_108, cy_A_forgetBefore, pY_forgetBefore_28, stp_iinc, pY_forgetBefore_31, stp_goto, pY_forgetBefore_34, stp_return_, ic_0, ic_1, nv_Y_forgetBefore, ml_Y_forgetBefore]
  exact lp
end
/-- the lots that have come by y, in the class -/
def raU (u : Wd) (y : Int32) (n : Nat) : Wd := (fun t k i => if t = 10 ∧ k < n ∧ arB u k y = true ∧ (i = 7 ∨ i = 8 ∨ i = 9) then (if i = 7 then u.1 10 k 8 else -1) else u.1 t k i, u.2)
theorem raU_I (u : Wd) (y : Int32) (n t k i : Nat) : wI (raU u y n) t k i = if t = 10 ∧ k < n ∧ arB u k y = true ∧ (i = 7 ∨ i = 8 ∨ i = 9) then (if i = 7 then wI u 10 k 8 else -1) else wI u t k i := rfl
theorem raU_2 (u : Wd) (y : Int32) (n : Nat) : (raU u y n).2 = u.2 := rfl
theorem raU_0 (u : Wd) (y : Int32) : raU u y 0 = u := by
  refine Wd_eq (fun t k i => ?_) rfl
  rw [raU_I, if_neg (by omega)]
theorem raU_n {u : Wd} {y : Int32} {n : Nat} (h : arB u n y = false) : raU u y (n + 1) = raU u y n := by
  refine Wd_eq (fun t k i => ?_) rfl
  rw [raU_I, raU_I]
  by_cases c : t = 10 ∧ k < n + 1 ∧ arB u k y = true ∧ (i = 7 ∨ i = 8 ∨ i = 9)
  · have hk : k < n := by
      rcases Nat.lt_or_ge k n with z | z
      · exact z
      · have e : k = n := by omega
        rw [e, h] at c
        cases c.2.2.1
    have c' : t = 10 ∧ k < n ∧ arB u k y = true ∧ (i = 7 ∨ i = 8 ∨ i = 9) := ⟨c.1, hk, c.2.2⟩
    rw [if_pos c, if_pos c']
  · rw [if_neg c, if_neg (fun z => c ⟨z.1, by omega, z.2.2⟩)]
theorem raU_s {u : Wd} {y : Int32} {n : Nat} (h : arB u n y = true) : arW (raU u y n) n = raU u y (n + 1) := by
  refine Wd_eq (fun t k i => ?_) rfl
  unfold arW
  rw [yI_sI, yI_sI, yI_sI, raU_I, raU_I, raU_I, if_neg (show ¬ (10 = 10 ∧ n < n ∧ arB u n y = true ∧ (8 = 7 ∨ 8 = 8 ∨ 8 = 9)) by omega)]
  by_cases c : t = 10 ∧ k = n
  · obtain ⟨rfl, rfl⟩ := c
    by_cases q : i = 7 ∨ i = 8 ∨ i = 9
    · rw [if_pos (show 10 = 10 ∧ k < k + 1 ∧ arB u k y = true ∧ (i = 7 ∨ i = 8 ∨ i = 9) from ⟨rfl, by omega, h, q⟩)]
      rcases q with rfl | rfl | rfl
      · rw [if_neg (by omega), if_neg (by omega), if_pos ⟨rfl, rfl, rfl⟩, if_pos rfl]
      · rw [if_neg (by omega), if_pos ⟨rfl, rfl, rfl⟩, if_neg (by omega)]
      · rw [if_pos ⟨rfl, rfl, rfl⟩, if_neg (by omega)]
    · rw [if_neg (by omega), if_neg (by omega), if_neg (by omega), if_neg (fun z => q z.2.2.2), if_neg (fun z => q z.2.2.2)]
  · rw [if_neg (by omega), if_neg (by omega), if_neg (by omega)]
    by_cases d : t = 10 ∧ k < n ∧ arB u k y = true ∧ (i = 7 ∨ i = 8 ∨ i = 9)
    · have d' : t = 10 ∧ k < n + 1 ∧ arB u k y = true ∧ (i = 7 ∨ i = 8 ∨ i = 9) := ⟨d.1, by omega, d.2.2⟩
      rw [if_pos d, if_pos d']
    · rw [if_neg d, if_neg (fun z => d ⟨z.1, by omega, z.2.2⟩)]
theorem raU_b (u : Wd) (y : Int32) (n : Nat) : arB (raU u y n) n y = arB u n y := by
  unfold arB
  rw [raU_I, raU_I, if_neg (by omega), if_neg (by omega)]
section
variable {l : Launch} {G : Gc} {n mc ms cu su : Nat} {Q : Option AV → Wd → Prop} {u : Wd}
set_option maxRecDepth 100000 in
set_option maxHeartbeats 4000000 in
theorem stS_run {x y : Int32} {i N : Nat} (hn : 8 < n) (hS0 : SSh u) (hL0 : LiS u 1 N (fun j => (10, j))) (hN : N ≤ 24) (h9 : wI u 0 0 9 = y) (hi : i < N) (h10 : i < wC u 10) (ih : WP l G mS_run n mc ms Q 54 [some (.inr (.inr (some (0, 0)))), some (.inl x), some (.inl (cntN (fun j => arB u j y) (i + 1))), some (.inl (nI (i + 1)))] [] (raU u y (i + 1)) cu su) : WP l G mS_run n mc ms Q 54 [some (.inr (.inr (some (0, 0)))), some (.inl x), some (.inl (cntN (fun j => arB u j y) i)), some (.inl (nI i))] [] (raU u y i) cu su := by
  have hS := SSh_of hS0 (raU_2 u y i)
  have hLi : LiS (raU u y i) 1 N (fun j => (10, j)) := LiS_cg (raU_2 u y i) (by rw [raU_I, if_neg (by omega)]) hL0
  have rs := ruL_size hLi
  have rg : fsL_get [.inr (.inr (some (2, 1))), .inl (nI i)] (raU u y i) = some (some (.inr (.inr (some (10, i)))), raU u y i) := ruL_get hLi hi
  have c10 : i < wC (raU u y i) 10 := h10
  have q1 : ¬ nI N ≤ nI i := nI_ge hi (by omega)
  have e9 : wI (raU u y i) 0 0 9 = y := by rw [raU_I, if_neg (by omega)]; exact h9
  have ra := ruO_arrive (x := y) c10
  rw [raU_b] at ra
  have hl1 : lvL_size < n := by show 1 < n; omega
  have hl2 : lvL_get < n := by show 3 < n; omega
  have hl3 : lvO_arrive < n := by show 2 < n; omega
  have t1 : ¬ (1 : Int32) = 0 := by decide
  cases hb : arB u i y with
  | false =>
    rw [raU_n hb, cntN, hb, show bI false = (0 : Int32) from rfl, Int32.add_zero] at ih
    rw [hb] at ra
    simp only [Bool.false_eq_true, if_false] at ra
    refine wpn_ok (M := mS_run) (C := cenS) (X := (alk [(96, lvL_size, fsL_size), (277, lvL_get, fsL_get), (346, lvO_arrive, fsO_arrive)])) (tb := tS_run) (st := [54]) eoS (XOk_cons qmS_96 (okL_size l G) (XOk_cons qmS_277 (okL_get l G) (XOk_cons qmS_346 (okO_arrive l G) XOk_nil))) kS_run 60 _ _ _ _ _ _ ?_
    simp only [reduceCtorEq, fv0, fv1, fv2, fv3, bI_0, bI_1, bft, MSh_sI_eq, fsP_T, inL_0, inL_s, pad_0, pad_n, pad_s, wpn_s, wp1_s, lg_0, lg_s, lset_0, lset_s, kil_0, kil_s, st1_s, st2_s, isL_i, isL_l, isL_r, isL_n, spl_0, spl_s, cll_n, cll_s, catS_0, catS_s, jmp_s, alk_0, alk_s, otl_n, otl_s, List.nil_append, List.cons_append, List.contains_cons, List.contains_nil, Nat.reduceBEq, Bool.or_false, Bool.false_or, Bool.or_self, Bool.false_eq_true, Bool.true_or, Bool.or_true, if_true, if_false, ite_true, ite_false, ↓reduceIte, List.length_cons, List.length_nil, Nat.reduceAdd, Nat.reduceLT, Nat.reduceLeDiff, Nat.reduceEqDiff, Int.reduceAdd, Int.reduceLE, Int.toNat_natCast, Int.reduceToNat, Int.cast_ofNat_Int, true_and, and_true, false_and, and_false, true_implies, forall_const, eq_self, and_self, or_true, true_or, or_self, false_or, or_false, yI_sI, yR_sI, yC_sI, yN_sI, yI_sR, yR_sR, yC_sR, yN_sR, not_true_eq_false, not_false_eq_true, false_implies, implies_true, Nat.zero_add, Nat.add_zero, Nat.le_refl, Nat.reduceSub, Int.reduceSub, Int.reduceLT, Int.sub_zero, Int.sub_self, List.getElem?_toArray, List.getElem?_cons_zero, List.getElem?_cons_succ, Int.toNat_zero, Int.toNat_one, Int.lt_irrefl, yI_sB, yR_sB, yC_sB, yN_sB, MSh_sB_eq, pS_run_0, stp_iload_n, pS_run_1, stp_ifCond_ge, pS_run_4, stp_aload_n, pS_run_5, stp_bipush, pS_run_7, stp_invokevirtual, qmS_79, cy_S_refuse, ss_C0 hS, pS_run_10, stp_ireturn, pS_run_11, pS_run_12, stp_iconst, pS_run_13, stp_sipush, pS_run_16, stp_invokestatic, qmS_75, cy_S_within, pS_run_19, stp_ifCond_ne, pS_run_22, pS_run_23, pS_run_25, pS_run_28, pS_run_29, pS_run_30, stp_dup, pS_run_31, stp_getfield, qfS_71, rp_0_9, pS_run_34, pS_run_35, stp_iadd, pS_run_36, stp_putfield, fi_0_9, nr_0_9, pS_run_39, pS_run_40, qfS_12, rp_0_0, ss_R0_0 hS, ss_C1 hS, pS_run_43, pS_run_44, pS_run_47, qmS_343, cy_Y_forgetBefore, pS_run_50, pS_run_51, stp_istore_n, pS_run_52, pS_run_53, pS_run_54, pS_run_55, pS_run_56, qfS_19, rp_0_1, ss_R0_1 hS, ss_C2 hS, pS_run_59, qmS_96, cy_L_size, pS_run_62, stp_if_icmp_ge, pS_run_65, pS_run_66, pS_run_69, pS_run_70, qmS_277, cy_L_get, pS_run_73, stp_checkcast, qtS_132, pS_run_76, pS_run_77, pS_run_80, qmS_346, cy_O_arrive, pS_run_83, stp_ifCond_eq, pS_run_86, stp_iinc, pS_run_89, pS_run_92, stp_goto, pS_run_95, pS_run_96, bp_m4, ic_1, sp_1000, bp_m7, ic_0, nv_S_run, ml_S_run, c10, rs, rg, ra, q1, e9, hl1, hl2, hl3, nI_1]
    exact ih
  | true =>
    rw [← raU_s hb, cntN, hb, show bI true = (1 : Int32) from rfl] at ih
    rw [hb] at ra
    simp only [if_true] at ra
    refine wpn_ok (M := mS_run) (C := cenS) (X := (alk [(96, lvL_size, fsL_size), (277, lvL_get, fsL_get), (346, lvO_arrive, fsO_arrive)])) (tb := tS_run) (st := [54]) eoS (XOk_cons qmS_96 (okL_size l G) (XOk_cons qmS_277 (okL_get l G) (XOk_cons qmS_346 (okO_arrive l G) XOk_nil))) kS_run 60 _ _ _ _ _ _ ?_
    simp only [reduceCtorEq, fv0, fv1, fv2, fv3, bI_0, bI_1, bft, MSh_sI_eq, fsP_T, inL_0, inL_s, pad_0, pad_n, pad_s, wpn_s, wp1_s, lg_0, lg_s, lset_0, lset_s, kil_0, kil_s, st1_s, st2_s, isL_i, isL_l, isL_r, isL_n, spl_0, spl_s, cll_n, cll_s, catS_0, catS_s, jmp_s, alk_0, alk_s, otl_n, otl_s, List.nil_append, List.cons_append, List.contains_cons, List.contains_nil, Nat.reduceBEq, Bool.or_false, Bool.false_or, Bool.or_self, Bool.false_eq_true, Bool.true_or, Bool.or_true, if_true, if_false, ite_true, ite_false, ↓reduceIte, List.length_cons, List.length_nil, Nat.reduceAdd, Nat.reduceLT, Nat.reduceLeDiff, Nat.reduceEqDiff, Int.reduceAdd, Int.reduceLE, Int.toNat_natCast, Int.reduceToNat, Int.cast_ofNat_Int, true_and, and_true, false_and, and_false, true_implies, forall_const, eq_self, and_self, or_true, true_or, or_self, false_or, or_false, yI_sI, yR_sI, yC_sI, yN_sI, yI_sR, yR_sR, yC_sR, yN_sR, not_true_eq_false, not_false_eq_true, false_implies, implies_true, Nat.zero_add, Nat.add_zero, Nat.le_refl, Nat.reduceSub, Int.reduceSub, Int.reduceLT, Int.sub_zero, Int.sub_self, List.getElem?_toArray, List.getElem?_cons_zero, List.getElem?_cons_succ, Int.toNat_zero, Int.toNat_one, Int.lt_irrefl, yI_sB, yR_sB, yC_sB, yN_sB, MSh_sB_eq, pS_run_0, stp_iload_n, pS_run_1, stp_ifCond_ge, pS_run_4, stp_aload_n, pS_run_5, stp_bipush, pS_run_7, stp_invokevirtual, qmS_79, cy_S_refuse, ss_C0 hS, pS_run_10, stp_ireturn, pS_run_11, pS_run_12, stp_iconst, pS_run_13, stp_sipush, pS_run_16, stp_invokestatic, qmS_75, cy_S_within, pS_run_19, stp_ifCond_ne, pS_run_22, pS_run_23, pS_run_25, pS_run_28, pS_run_29, pS_run_30, stp_dup, pS_run_31, stp_getfield, qfS_71, rp_0_9, pS_run_34, pS_run_35, stp_iadd, pS_run_36, stp_putfield, fi_0_9, nr_0_9, pS_run_39, pS_run_40, qfS_12, rp_0_0, ss_R0_0 hS, ss_C1 hS, pS_run_43, pS_run_44, pS_run_47, qmS_343, cy_Y_forgetBefore, pS_run_50, pS_run_51, stp_istore_n, pS_run_52, pS_run_53, pS_run_54, pS_run_55, pS_run_56, qfS_19, rp_0_1, ss_R0_1 hS, ss_C2 hS, pS_run_59, qmS_96, cy_L_size, pS_run_62, stp_if_icmp_ge, pS_run_65, pS_run_66, pS_run_69, pS_run_70, qmS_277, cy_L_get, pS_run_73, stp_checkcast, qtS_132, pS_run_76, pS_run_77, pS_run_80, qmS_346, cy_O_arrive, pS_run_83, stp_ifCond_eq, pS_run_86, stp_iinc, pS_run_89, pS_run_92, stp_goto, pS_run_95, pS_run_96, bp_m4, ic_1, sp_1000, bp_m7, ic_0, nv_S_run, ml_S_run, c10, rs, rg, ra, q1, e9, t1, hl1, hl2, hl3, nI_1]
    exact ih
set_option maxRecDepth 100000 in
set_option maxHeartbeats 4000000 in
theorem lpS_run {x y : Int32} {N : Nat} (hn : 8 < n) (hS0 : SSh u) (hL0 : LiS u 1 N (fun j => (10, j))) (hN : N ≤ 24) (h9 : wI u 0 0 9 = y) (h10 : N ≤ wC u 10) (hQ : Q (some (.inl (cntN (fun j => arB u j y) N))) (raU u y N)) : ∀ c i, i + c = N → WP l G mS_run n mc ms Q 54 [some (.inr (.inr (some (0, 0)))), some (.inl x), some (.inl (cntN (fun j => arB u j y) i)), some (.inl (nI i))] [] (raU u y i) cu su
  | 0, i, hi => by
    have e : i = N := hi
    subst e
    have hS := SSh_of hS0 (raU_2 u y i)
    have hLi : LiS (raU u y i) 1 i (fun j => (10, j)) := LiS_cg (raU_2 u y i) (by rw [raU_I, if_neg (by omega)]) hL0
    have rs := ruL_size hLi
    have hl1 : lvL_size < n := by show 1 < n; omega
    refine wpn_ok (M := mS_run) (C := cenS) (X := (alk [(96, lvL_size, fsL_size)])) (tb := tS_run) (st := [54]) eoS (XOk_cons qmS_96 (okL_size l G) XOk_nil) kS_run 60 _ _ _ _ _ _ ?_
    simp only [reduceCtorEq, fv0, fv1, fv2, fv3, bI_0, bI_1, bft, MSh_sI_eq, fsP_T, inL_0, inL_s, pad_0, pad_n, pad_s, wpn_s, wp1_s, lg_0, lg_s, lset_0, lset_s, kil_0, kil_s, st1_s, st2_s, isL_i, isL_l, isL_r, isL_n, spl_0, spl_s, cll_n, cll_s, catS_0, catS_s, jmp_s, alk_0, alk_s, otl_n, otl_s, List.nil_append, List.cons_append, List.contains_cons, List.contains_nil, Nat.reduceBEq, Bool.or_false, Bool.false_or, Bool.or_self, Bool.false_eq_true, Bool.true_or, Bool.or_true, if_true, if_false, ite_true, ite_false, ↓reduceIte, List.length_cons, List.length_nil, Nat.reduceAdd, Nat.reduceLT, Nat.reduceLeDiff, Nat.reduceEqDiff, Int.reduceAdd, Int.reduceLE, Int.toNat_natCast, Int.reduceToNat, Int.cast_ofNat_Int, true_and, and_true, false_and, and_false, true_implies, forall_const, eq_self, and_self, or_true, true_or, or_self, false_or, or_false, yI_sI, yR_sI, yC_sI, yN_sI, yI_sR, yR_sR, yC_sR, yN_sR, not_true_eq_false, not_false_eq_true, false_implies, implies_true, Nat.zero_add, Nat.add_zero, Nat.le_refl, Nat.reduceSub, Int.reduceSub, Int.reduceLT, Int.sub_zero, Int.sub_self, List.getElem?_toArray, List.getElem?_cons_zero, List.getElem?_cons_succ, Int.toNat_zero, Int.toNat_one, Int.lt_irrefl, yI_sB, yR_sB, yC_sB, yN_sB, MSh_sB_eq, pS_run_0, stp_iload_n, pS_run_1, stp_ifCond_ge, pS_run_4, stp_aload_n, pS_run_5, stp_bipush, pS_run_7, stp_invokevirtual, qmS_79, cy_S_refuse, ss_C0 hS, pS_run_10, stp_ireturn, pS_run_11, pS_run_12, stp_iconst, pS_run_13, stp_sipush, pS_run_16, stp_invokestatic, qmS_75, cy_S_within, pS_run_19, stp_ifCond_ne, pS_run_22, pS_run_23, pS_run_25, pS_run_28, pS_run_29, pS_run_30, stp_dup, pS_run_31, stp_getfield, qfS_71, rp_0_9, pS_run_34, pS_run_35, stp_iadd, pS_run_36, stp_putfield, fi_0_9, nr_0_9, pS_run_39, pS_run_40, qfS_12, rp_0_0, ss_R0_0 hS, ss_C1 hS, pS_run_43, pS_run_44, pS_run_47, qmS_343, cy_Y_forgetBefore, pS_run_50, pS_run_51, stp_istore_n, pS_run_52, pS_run_53, pS_run_54, pS_run_55, pS_run_56, qfS_19, rp_0_1, ss_R0_1 hS, ss_C2 hS, pS_run_59, qmS_96, cy_L_size, pS_run_62, stp_if_icmp_ge, pS_run_65, pS_run_66, pS_run_69, pS_run_70, qmS_277, cy_L_get, pS_run_73, stp_checkcast, qtS_132, pS_run_76, pS_run_77, pS_run_80, qmS_346, cy_O_arrive, pS_run_83, stp_ifCond_eq, pS_run_86, stp_iinc, pS_run_89, pS_run_92, stp_goto, pS_run_95, pS_run_96, bp_m4, ic_1, sp_1000, bp_m7, ic_0, nv_S_run, ml_S_run, rs, hl1, Int32.le_refl]
    exact hQ
  | c + 1, i, hi => stS_run hn hS0 hL0 hN h9 (by omega) (by omega) (lpS_run hn hS0 hL0 hN h9 h10 hQ c (i + 1) (by omega))
end
