/-! the yard forgets what is past -/
theorem afW_I (w : Wd) (k y t q i : Nat) : wI (afW w k y) t q i = if t = 9 ∧ q = k ∧ i = 4 then nI (afC w k y (szA w k)) else wI (afU w k y (szA w k)) t q i := by
  unfold afW
  simp only [yI_sI]
theorem afW_E (w : Wd) (k y : Nat) : SmE w (afW w k y) := ⟨by unfold afW; rw [sI_2, afU_2], fun t q i hn => by rw [afW_I, if_neg (by omega), afU_t _ _ _ _ _ _ _ (by omega)]⟩
theorem afW_o {w : Wd} {k y p : Nat} (h : ¬ p = k) : szA (afW w k y) p = szA w p ∧ tkv (afW w k y) p = tkv w p ∧ mnA (afW w k y) p = mnA w p := by
  refine ⟨?_, funext fun i => ?_, ?_⟩
  · unfold szA; rw [afW_I, if_neg (by omega), afU_t _ _ _ _ _ _ _ (by omega)]
  · unfold tkv; rw [afW_I, if_neg (by omega), afU_t _ _ _ _ _ _ _ (by omega)]
  · unfold mnA; rw [afW_I, if_neg (by omega), afU_t _ _ _ _ _ _ _ (by omega)]
theorem AlQ_o {w : Wd} {k y p : Nat} (h : ¬ p = k) (hA : AlQ w p) : AlQ (afW w k y) p := by
  obtain ⟨e1, e2, e3⟩ := afW_o (y := y) h (w := w)
  obtain ⟨a0, a1, a2, a3, a4, a5⟩ := hA
  refine ⟨AlS_cg (afW_E w k y).1 a0, ?_, by rw [e1]; exact a2, ?_, by rw [e3]; exact a4, fun i hi => ?_⟩
  · rw [e1, afW_I, if_neg (by omega), afU_t _ _ _ _ _ _ _ (by omega)]; exact a1
  · rw [e3, afW_I, if_neg (by omega), afU_t _ _ _ _ _ _ _ (by omega)]; exact a3
  · rw [e1] at hi
    rw [e2, afW_I, if_neg (by omega), afU_t _ _ _ _ _ _ _ (by omega)]; exact a5 i hi
theorem afU_b (w : Wd) (k y : Nat) : ∀ n, (∀ i, i < n → wI w 186 k i = nI (tkv w k i) ∧ tkv w k i < 2 ^ 29) → ∀ i, i < afC w k y n → wI (afU w k y n) 186 k i = nI (tkv (afU w k y n) k i) ∧ tkv (afU w k y n) k i < 2 ^ 29
  | 0, _, i, hi => absurd hi (Nat.not_lt_zero _)
  | n + 1, h, i, hi => by
    have ih := afU_b w k y n (fun j hj => h j (by omega))
    obtain ⟨h1, h2⟩ := h n (by omega)
    by_cases c : y < tkv w k n + mnA w k
    · have e1 : afC w k y (n + 1) = afC w k y n + 1 := by rw [afC, if_pos c]
      have e2 : afU w k y (n + 1) = sI (afU w k y n) 186 k (afC w k y n) (nI (tkv w k n)) := by rw [afU, if_pos c]
      rw [e1] at hi
      by_cases d : i = afC w k y n
      · have t0 : wI (afU w k y (n + 1)) 186 k i = nI (tkv w k n) := by rw [e2, yI_sI, if_pos ⟨rfl, rfl, d⟩]
        have t1 : tkv (afU w k y (n + 1)) k i = tkv w k n := by
          show (wI (afU w k y (n + 1)) 186 k i).toNatClampNeg = _
          rw [t0]; exact nI_clamp (by omega)
        rw [t0, t1]
        exact ⟨rfl, h2⟩
      · have t0 : wI (afU w k y (n + 1)) 186 k i = wI (afU w k y n) 186 k i := by rw [e2, yI_sI, if_neg (by omega)]
        have t1 : tkv (afU w k y (n + 1)) k i = tkv (afU w k y n) k i := by unfold tkv; rw [t0]
        rw [t0, t1]
        exact ih i (by omega)
    · have e1 : afC w k y (n + 1) = afC w k y n := by rw [afC, if_neg c]
      have e2 : afU w k y (n + 1) = afU w k y n := by rw [afU, if_neg c]
      rw [e1] at hi
      rw [e2]
      exact ih i hi
theorem AlQ_f {w : Wd} {k y : Nat} (hA : AlQ w k) : AlQ (afW w k y) k ∧ (List.range (szA (afW w k y) k)).map (tkv (afW w k y) k) = ((List.range (szA w k)).map (tkv w k)).filter (fun f => decide (y < f + mnA w k)) := by
  obtain ⟨a0, a1, a2, a3, a4, a5⟩ := hA
  have hc := afC_le w k y (szA w k)
  have s1 : wI (afW w k y) 9 k 4 = nI (afC w k y (szA w k)) := by rw [afW_I, if_pos ⟨rfl, rfl, rfl⟩]
  have s2 : szA (afW w k y) k = afC w k y (szA w k) := by unfold szA at hc a2 ⊢; rw [s1]; exact nI_clamp (by unfold szA; omega)
  have m1 : wI (afW w k y) 9 k 2 = wI w 9 k 2 := by rw [afW_I, if_neg (by omega), afU_t _ _ _ _ _ _ _ (by omega)]
  have m2 : mnA (afW w k y) k = mnA w k := by unfold mnA; rw [m1]
  have t1 : ∀ i, wI (afW w k y) 186 k i = wI (afU w k y (szA w k)) 186 k i := fun i => by rw [afW_I, if_neg (by omega)]
  have t2 : tkv (afW w k y) k = tkv (afU w k y (szA w k)) k := funext fun i => by unfold tkv; rw [t1]
  have L := afU_l w k y (szA w k) (fun i hi => Nat.lt_of_lt_of_le (a5 i hi).2 (Nat.le_refl _))
  have B := afU_b w k y (szA w k) (fun i hi => a5 i hi)
  refine ⟨⟨AlS_cg (afW_E w k y).1 a0, by rw [s1, s2], by omega, by rw [m1, m2]; exact a3, by rw [m2]; exact a4, fun i hi => ?_⟩, ?_⟩
  · rw [s2] at hi
    rw [t2, t1]
    exact B i hi
  · rw [s2, t2]
    exact L
def yfU (w : Wd) (y : Nat) : Nat → Wd
  | 0 => w
  | n + 1 => afW (yfU w y n) n y
theorem yfU_E (w : Wd) (y : Nat) : ∀ n, SmE w (yfU w y n)
  | 0 => SmE_r w
  | n + 1 => SmE_t (yfU_E w y n) (afW_E _ _ _)
theorem flt_com (E : List Ent) (k y : Nat) (T : Nat → Nat) : ((E.filter (fun e => decide (e.1 = k))).map (fun e => e.2)).filter (fun f => decide (y < f + T k)) = ((E.filter (fun e => decide (y < e.2 + T e.1))).filter (fun e => decide (e.1 = k))).map (fun e => e.2) := by
  induction E with
  | nil => rfl
  | cons e E ih =>
    by_cases c : e.1 = k
    · by_cases d : y < e.2 + T k
      · have d' : y < e.2 + T e.1 := by rw [c]; exact d
        simp only [List.filter_cons, c, d, decide_true, if_true, List.map_cons, ih]
      · have d' : ¬ y < e.2 + T e.1 := by rw [c]; exact d
        simp only [List.filter_cons, c, d, decide_true, decide_false, if_true, List.map_cons, ih, Bool.false_eq_true, if_false]
    · by_cases d' : y < e.2 + T e.1
      · simp only [List.filter_cons, c, d', decide_true, decide_false, if_true, ih, Bool.false_eq_true, if_false]
      · simp only [List.filter_cons, c, d', decide_true, decide_false, if_true, ih, Bool.false_eq_true, if_false]
theorem yf_cp {w : Wd} {E : List Ent} {y : Nat} (hC : Cpy w) (hE : CpE w E) : ∀ n, n ≤ cn w 6 → ∀ k, k < cn w 6 → AlQ (yfU w y n) k ∧ (List.range (szA (yfU w y n) k)).map (tkv (yfU w y n) k) = if k < n then ((E.filter (fun e => decide (y < e.2 + gfT (grf w) e.1))).filter (fun e => decide (e.1 = k))).map (fun e => e.2) else (E.filter (fun e => decide (e.1 = k))).map (fun e => e.2)
  | 0, _, k, hk => by rw [if_neg (by omega)]; exact hE k hk
  | n + 1, hn, k, hk => by
    obtain ⟨i1, i2⟩ := yf_cp (y := y) hC hE n (by omega) k hk
    by_cases c : k = n
    · subst c
      rw [if_neg (by omega)] at i2
      obtain ⟨q1, q2⟩ := AlQ_f (y := y) i1
      refine ⟨q1, ?_⟩
      have S := yfU_E w y k
      have m : mnA (yfU w y k) k = gfT (grf w) k := by
        rw [Cpy_mn (Cpy_W (SmE_W S) hC) (by rw [SmW_c (SmE_W S)]; exact hk), SmW_g (SmE_W S)]
      rw [if_pos (by omega), ← flt_com E k y (gfT (grf w)), ← i2, ← m]
      exact q2
    · obtain ⟨e1, e2, -⟩ := afW_o (y := y) c (w := yfU w y n)
      refine ⟨AlQ_o c i1, ?_⟩
      have e : (k < n + 1) = (k < n) := propext ⟨fun _ => by omega, fun _ => by omega⟩
      show (List.range (szA (afW (yfU w y n) n y) k)).map (tkv (afW (yfU w y n) n y) k) = _
      rw [e1, e2, i2]
      simp only [e]
theorem CpE_yf {w : Wd} {E : List Ent} {y : Nat} (hC : Cpy w) (hE : CpE w E) : CpE (yfU w y (cn w 6)) (E.filter (fun e => decide (y < e.2 + gfT (grf w) e.1))) := by
  intro k hk
  rw [SmW_c (SmE_W (yfU_E w y (cn w 6)))] at hk
  have := yf_cp (y := y) hC hE (cn w 6) (Nat.le_refl _) k hk
  rw [if_pos hk] at this
  exact this
section
variable {l : Launch} {G : Gc} {n : Nat} {Q : Option AV → Wd → Prop} {w : Wd}
set_option maxRecDepth 100000 in
set_option maxHeartbeats 4000000 in
theorem stY_forget {y i : Nat} (hl : 3 < n) (hC : Cpy w) (hA : AlQ w i) (hy : y < 2 ^ 30) (hi : i < cn w 6) (ih : WP l G mY_forgetBefore n 0 0 Q 2 [some (.inr (.inr (some (1, 0)))), some (.inl (nI y)), some (.inl (nI (i + 1)))] [] (afW w i y) 0 0) : WP l G mY_forgetBefore n 0 0 Q 2 [some (.inr (.inr (some (1, 0)))), some (.inl (nI y)), some (.inl (nI i))] [] w 0 0 := by
  have hS := hC.1
  have h20 := hC.2.2.2.1.2.2.1.2
  have rs := ruL_size hC.2.2.1.1
  have rg : fsL_get [.inr (.inr (some (2, 0))), .inl (nI i)] w = some (some (.inr (.inr (some (9, i)))), w) := ruL_get hC.2.2.1.1 hi
  have a1 := (Cpy_al hC hi).1
  have rf := ruA_forgetBefore hA hy
  have q1 : ¬ nI (cn w 6) ≤ nI i := nI_ge hi (by omega)
  have hl3 : lvL_size < n := by show 1 < n; omega
  have hl4 : lvL_get < n := hl
  have hl5 : lvA_forgetBefore < n := by show 1 < n; omega
  refine wpn_ok (M := mY_forgetBefore) (C := cenY) (X := (alk [(57, lvL_size, fsL_size), (69, lvL_get, fsL_get), (108, lvA_forgetBefore, fsA_forgetBefore)])) (tb := tY_forgetBefore) (st := [2]) eoY (XOk_cons qmY_57 (okL_size l G) (XOk_cons qmY_69 (okL_get l G) (XOk_cons qmY_108 (okA_forgetBefore l G) XOk_nil))) kY_forgetBefore 60 _ _ _ _ _ _ ?_
  simp only [reduceCtorEq, fv0, fv1, fv2, fv3, bI_0, bI_1, bft, MSh_sI_eq, fsP_T, inL_0, inL_s, pad_0, pad_n, pad_s, wpn_s, wp1_s, lg_0, lg_s, lset_0, lset_s, kil_0, kil_s, st1_s, st2_s, isL_i, isL_l, isL_r, isL_n, spl_0, spl_s, cll_n, cll_s, catS_0, catS_s, jmp_s, alk_0, alk_s, otl_n, otl_s, List.nil_append, List.cons_append, List.contains_cons, List.contains_nil, Nat.reduceBEq, Bool.or_false, Bool.false_or, Bool.or_self, Bool.false_eq_true, Bool.true_or, Bool.or_true, if_true, if_false, ite_true, ite_false, ↓reduceIte, List.length_cons, List.length_nil, Nat.reduceAdd, Nat.reduceLT, Nat.reduceLeDiff, Nat.reduceEqDiff, Int.reduceAdd, Int.reduceLE, Int.toNat_natCast, Int.reduceToNat, Int.cast_ofNat_Int, true_and, and_true, false_and, and_false, true_implies, forall_const, eq_self, and_self, or_true, true_or, or_self, false_or, or_false, yI_sI, yR_sI, yC_sI, yN_sI, yI_sR, yR_sR, yC_sR, yN_sR, not_true_eq_false, not_false_eq_true, false_implies, implies_true, Nat.zero_add, Nat.add_zero, Nat.le_refl, Nat.reduceSub, Int.reduceSub, Int.reduceLT, Int.sub_zero, Int.sub_self, List.getElem?_toArray, List.getElem?_cons_zero, List.getElem?_cons_succ, Int.toNat_zero, Int.toNat_one, Int.lt_irrefl, yI_sB, yR_sB, yC_sB, yN_sB, MSh_sB_eq, pY_forgetBefore_0, stp_iconst, pY_forgetBefore_1, stp_istore_n, pY_forgetBefore_2, stp_iload_n, pY_forgetBefore_3, stp_aload_n, pY_forgetBefore_4, stp_getfield, qfY_12, rp_1_0, ss_C1 hS, ss_R1_0 hS, ss_C2 hS, pY_forgetBefore_7, stp_invokevirtual, qmY_57, cy_L_size, pY_forgetBefore_10, stp_if_icmp_ge, pY_forgetBefore_13, pY_forgetBefore_14, pY_forgetBefore_17, pY_forgetBefore_18, qmY_69, cy_L_get, pY_forgetBefore_21, stp_checkcast, qtY_39, pY_forgetBefore_24, pY_forgetBefore_25, qmY_108, cy_A_forgetBefore, pY_forgetBefore_28, stp_iinc, pY_forgetBefore_31, stp_goto, pY_forgetBefore_34, stp_return_, ic_0, ic_1, nv_Y_forgetBefore, ml_Y_forgetBefore, rs, rg, rf, a1.1, q1, hl3, hl4, hl5, nI_1]
  exact ih
set_option maxRecDepth 100000 in
set_option maxHeartbeats 4000000 in
theorem lpY_forget {E : List Ent} {y : Nat} (hl : 3 < n) (hC : Cpy w) (hE : CpE w E) (hy : y < 2 ^ 30) (hQ : Q none (yfU w y (cn w 6))) : ∀ c i, i + c = cn w 6 → WP l G mY_forgetBefore n 0 0 Q 2 [some (.inr (.inr (some (1, 0)))), some (.inl (nI y)), some (.inl (nI i))] [] (yfU w y i) 0 0
  | 0, i, hi => by
    have e : i = cn w 6 := hi
    subst e
    have S := SmE_W (yfU_E w y (cn w 6))
    have C1 := Cpy_W S hC
    have hS := C1.1
    have rs := ruL_size C1.2.2.1.1
    rw [SmW_c S] at rs
    have hl3 : lvL_size < n := by show 1 < n; omega
    refine wpn_ok (M := mY_forgetBefore) (C := cenY) (X := (alk [(57, lvL_size, fsL_size)])) (tb := tY_forgetBefore) (st := [2]) eoY (XOk_cons qmY_57 (okL_size l G) XOk_nil) kY_forgetBefore 60 _ _ _ _ _ _ ?_
    simp only [reduceCtorEq, fv0, fv1, fv2, fv3, bI_0, bI_1, bft, MSh_sI_eq, fsP_T, inL_0, inL_s, pad_0, pad_n, pad_s, wpn_s, wp1_s, lg_0, lg_s, lset_0, lset_s, kil_0, kil_s, st1_s, st2_s, isL_i, isL_l, isL_r, isL_n, spl_0, spl_s, cll_n, cll_s, catS_0, catS_s, jmp_s, alk_0, alk_s, otl_n, otl_s, List.nil_append, List.cons_append, List.contains_cons, List.contains_nil, Nat.reduceBEq, Bool.or_false, Bool.false_or, Bool.or_self, Bool.false_eq_true, Bool.true_or, Bool.or_true, if_true, if_false, ite_true, ite_false, ↓reduceIte, List.length_cons, List.length_nil, Nat.reduceAdd, Nat.reduceLT, Nat.reduceLeDiff, Nat.reduceEqDiff, Int.reduceAdd, Int.reduceLE, Int.toNat_natCast, Int.reduceToNat, Int.cast_ofNat_Int, true_and, and_true, false_and, and_false, true_implies, forall_const, eq_self, and_self, or_true, true_or, or_self, false_or, or_false, yI_sI, yR_sI, yC_sI, yN_sI, yI_sR, yR_sR, yC_sR, yN_sR, not_true_eq_false, not_false_eq_true, false_implies, implies_true, Nat.zero_add, Nat.add_zero, Nat.le_refl, Nat.reduceSub, Int.reduceSub, Int.reduceLT, Int.sub_zero, Int.sub_self, List.getElem?_toArray, List.getElem?_cons_zero, List.getElem?_cons_succ, Int.toNat_zero, Int.toNat_one, Int.lt_irrefl, yI_sB, yR_sB, yC_sB, yN_sB, MSh_sB_eq, pY_forgetBefore_0, stp_iconst, pY_forgetBefore_1, stp_istore_n, pY_forgetBefore_2, stp_iload_n, pY_forgetBefore_3, stp_aload_n, pY_forgetBefore_4, stp_getfield, qfY_12, rp_1_0, ss_C1 hS, ss_R1_0 hS, ss_C2 hS, pY_forgetBefore_7, stp_invokevirtual, qmY_57, cy_L_size, pY_forgetBefore_10, stp_if_icmp_ge, pY_forgetBefore_13, pY_forgetBefore_14, pY_forgetBefore_17, pY_forgetBefore_18, qmY_69, cy_L_get, pY_forgetBefore_21, stp_checkcast, qtY_39, pY_forgetBefore_24, pY_forgetBefore_25, qmY_108, cy_A_forgetBefore, pY_forgetBefore_28, stp_iinc, pY_forgetBefore_31, stp_goto, pY_forgetBefore_34, stp_return_, ic_0, ic_1, nv_Y_forgetBefore, ml_Y_forgetBefore, rs, hl3, Int32.le_refl]
    exact hQ
  | c + 1, i, hi => stY_forget hl (Cpy_W (SmE_W (yfU_E w y i)) hC) (yf_cp hC hE i (by omega) i (by omega)).1 hy (by rw [SmW_c (SmE_W (yfU_E w y i))]; omega) (lpY_forget hl hC hE hy hQ c (i + 1) (by omega))
end
abbrev lvY_forgetBefore : Nat := 4
noncomputable def fsY_forgetBefore : FS := fun as w => match as with
  | [.inr (.inr (some (1, 0))), .inl y] => fsP (Cpy w ∧ (∃ E, CpE w E) ∧ ∃ x, x < 2 ^ 30 ∧ y = nI x) (none, yfU w y.toNatClampNeg (cn w 6))
  | _ => none
set_option maxRecDepth 100000 in
set_option maxHeartbeats 4000000 in
theorem okY_forgetBefore (l : Launch) (G : Gc) : FsOk l G mY_forgetBefore lvY_forgetBefore fsY_forgetBefore := by
  intro as w r w' h
  simp only [fsY_forgetBefore] at h
  split at h
  · rename_i y
    obtain ⟨⟨hC, ⟨E, hE⟩, x, hx, hy⟩, h⟩ := fsP_s h
    cases h
    subst hy
    rw [nI_clamp (by omega)]
    have hS := hC.1
    refine Sem_of (by decide) rfl (Nat.le_of_ble_eq_true rfl) ?_
    refine wpn_ok (M := mY_forgetBefore) (C := cenY) (X := (alk [])) (tb := tY_forgetBefore) (st := [2]) eoY XOk_nil kY_forgetBefore 60 _ _ _ _ _ _ ?_
    simp only [reduceCtorEq, fv0, fv1, fv2, fv3, bI_0, bI_1, bft, MSh_sI_eq, fsP_T, inL_0, inL_s, pad_0, pad_n, pad_s, wpn_s, wp1_s, lg_0, lg_s, lset_0, lset_s, kil_0, kil_s, st1_s, st2_s, isL_i, isL_l, isL_r, isL_n, spl_0, spl_s, cll_n, cll_s, catS_0, catS_s, jmp_s, alk_0, alk_s, otl_n, otl_s, List.nil_append, List.cons_append, List.contains_cons, List.contains_nil, Nat.reduceBEq, Bool.or_false, Bool.false_or, Bool.or_self, Bool.false_eq_true, Bool.true_or, Bool.or_true, if_true, if_false, ite_true, ite_false, ↓reduceIte, List.length_cons, List.length_nil, Nat.reduceAdd, Nat.reduceLT, Nat.reduceLeDiff, Nat.reduceEqDiff, Int.reduceAdd, Int.reduceLE, Int.toNat_natCast, Int.reduceToNat, Int.cast_ofNat_Int, true_and, and_true, false_and, and_false, true_implies, forall_const, eq_self, and_self, or_true, true_or, or_self, false_or, or_false, yI_sI, yR_sI, yC_sI, yN_sI, yI_sR, yR_sR, yC_sR, yN_sR, not_true_eq_false, not_false_eq_true, false_implies, implies_true, Nat.zero_add, Nat.add_zero, Nat.le_refl, Nat.reduceSub, Int.reduceSub, Int.reduceLT, Int.sub_zero, Int.sub_self, List.getElem?_toArray, List.getElem?_cons_zero, List.getElem?_cons_succ, Int.toNat_zero, Int.toNat_one, Int.lt_irrefl, yI_sB, yR_sB, yC_sB, yN_sB, MSh_sB_eq, pY_forgetBefore_0, stp_iconst, pY_forgetBefore_1, stp_istore_n, pY_forgetBefore_2, stp_iload_n, pY_forgetBefore_3, stp_aload_n, pY_forgetBefore_4, stp_getfield, qfY_12, rp_1_0, ss_C1 hS, ss_R1_0 hS, ss_C2 hS, pY_forgetBefore_7, stp_invokevirtual, qmY_57, cy_L_size, pY_forgetBefore_10, stp_if_icmp_ge, pY_forgetBefore_13, pY_forgetBefore_14, pY_forgetBefore_17, pY_forgetBefore_18, qmY_69, cy_L_get, pY_forgetBefore_21, stp_checkcast, qtY_39, pY_forgetBefore_24, pY_forgetBefore_25, qmY_108, cy_A_forgetBefore, pY_forgetBefore_28, stp_iinc, pY_forgetBefore_31, stp_goto, pY_forgetBefore_34, stp_return_, ic_0, ic_1, nv_Y_forgetBefore, ml_Y_forgetBefore]
    exact lpY_forget (by decide) hC hE hx ⟨rfl, rfl⟩ (cn w 6) 0 (by omega)
  · cases h
theorem ruY_forgetBefore {w : Wd} {E : List Ent} {x : Nat} (hC : Cpy w) (hE : CpE w E) (hx : x < 2 ^ 30) : fsY_forgetBefore [.inr (.inr (some (1, 0))), .inl (nI x)] w = some (none, yfU w x (cn w 6)) := by
  have : fsY_forgetBefore [.inr (.inr (some (1, 0))), .inl (nI x)] w = fsP (Cpy w ∧ (∃ E, CpE w E) ∧ ∃ z, z < 2 ^ 30 ∧ nI x = nI z) (none, yfU w (nI x).toNatClampNeg (cn w 6)) := rfl
  rw [this, nI_clamp (by omega)]
  exact fsP_t ⟨hC, ⟨E, hE⟩, x, hx, rfl⟩
