/-! ways and alleys of the class -/
abbrev lvW_clear : Nat := 1
noncomputable def fsW_clear : FS := fun as w => match as with
  | [.inr (.inr (some (8, x)))] => fsP (x < wC w 8) (none, sI (sI w 8 x 2 0) 8 x 3 0)
  | _ => none
set_option maxRecDepth 100000 in
set_option maxHeartbeats 4000000 in
theorem okW_clear (l : Launch) (G : Gc) : FsOk l G mW_clear lvW_clear fsW_clear := by
  intro as w r w' h
  simp only [fsW_clear] at h
  split at h
  · rename_i x
    obtain ⟨hx, h⟩ := fsP_s h
    cases h
    refine Sem_of (by decide) rfl (Nat.le_of_ble_eq_true rfl) ?_
    refine wpn_ok (M := mW_clear) (C := cenW) (X := (alk [])) (tb := tW_clear) (st := []) eoW XOk_nil kW_clear 200 _ _ _ _ _ _ ?_
    simp only [reduceCtorEq, fv0, fv1, fv2, fv3, bI_0, bI_1, bft, MSh_sI_eq, fsP_T, inL_0, inL_s, pad_0, pad_n, pad_s, wpn_s, wp1_s, lg_0, lg_s, lset_0, lset_s, kil_0, kil_s, st1_s, st2_s, isL_i, isL_l, isL_r, isL_n, spl_0, spl_s, cll_n, cll_s, catS_0, catS_s, jmp_s, alk_0, alk_s, otl_n, otl_s, List.nil_append, List.cons_append, List.contains_cons, List.contains_nil, Nat.reduceBEq, Bool.or_false, Bool.false_or, Bool.or_self, Bool.false_eq_true, Bool.true_or, Bool.or_true, if_true, if_false, ite_true, ite_false, ↓reduceIte, List.length_cons, List.length_nil, Nat.reduceAdd, Nat.reduceLT, Nat.reduceLeDiff, Nat.reduceEqDiff, Int.reduceAdd, Int.reduceLE, Int.toNat_natCast, Int.reduceToNat, Int.cast_ofNat_Int, true_and, and_true, false_and, and_false, true_implies, forall_const, eq_self, and_self, or_true, true_or, or_self, false_or, or_false, yI_sI, yR_sI, yC_sI, yN_sI, yI_sR, yR_sR, yC_sR, yN_sR, not_true_eq_false, not_false_eq_true, false_implies, implies_true, Nat.zero_add, Nat.add_zero, Nat.le_refl, Nat.reduceSub, Int.reduceSub, Int.reduceLT, Int.sub_zero, Int.sub_self, List.getElem?_toArray, List.getElem?_cons_zero, List.getElem?_cons_succ, Int.toNat_zero, Int.toNat_one, Int.lt_irrefl, yI_sB, yR_sB, yC_sB, yN_sB, MSh_sB_eq, pW_clear_0, stp_aload_n, pW_clear_1, stp_iconst, pW_clear_2, stp_putfield, qfW_18, rp_8_2, fi_8_2, nr_8_2, pW_clear_5, pW_clear_6, pW_clear_7, qfW_22, rp_8_3, fi_8_3, nr_8_3, pW_clear_10, stp_return_, ic_0, nv_W_clear, ml_W_clear, lvW_clear, hx]
  · cases h
def wlN (w : Wd) (x : Nat) : Nat := (wI w 8 x 2).toNatClampNeg
abbrev lvW_add : Nat := 1
def waW (w : Wd) (x : Nat) (a t : Int32) : Wd := sI (sI (sI (sI w 184 x (wlN w x) a) 185 x (wlN w x) (wI w 8 x 3)) 8 x 2 (nI (wlN w x + 1))) 8 x 3 (wI w 8 x 3 + t)
noncomputable def fsW_add : FS := fun as w => match as with
  | [.inr (.inr (some (8, x))), .inl a, .inl t] => fsP (SSh w ∧ x < 17 ∧ wI w 8 x 2 = nI (wlN w x) ∧ wlN w x < 13) (none, waW w x a t)
  | _ => none
set_option maxRecDepth 100000 in
set_option maxHeartbeats 4000000 in
theorem okW_add (l : Launch) (G : Gc) : FsOk l G mW_add lvW_add fsW_add := by
  intro as w r w' h
  simp only [fsW_add] at h
  split at h
  · rename_i x a t
    obtain ⟨⟨hS, hx, hl, h13⟩, h⟩ := fsP_s h
    cases h
    have c1 : (nI (wlN w x)).toNatClampNeg = wlN w x := nI_clamp (by omega)
    have v1 : vp_in (nI (wlN w x)) 13 := vp_in_nI (by omega) (by omega)
    have q1 : ¬ (13 : Int32) ≤ nI (wlN w x) := nI_ge (b := 13) (by omega) (by omega)
    refine Sem_of (by decide) rfl (Nat.le_of_ble_eq_true rfl) ?_
    refine wpn_ok (M := mW_add) (C := cenW) (X := (alk [])) (tb := tW_add) (st := []) eoW XOk_nil kW_add 60 _ _ _ _ _ _ ?_
    simp only [reduceCtorEq, fv0, fv1, fv2, fv3, bI_0, bI_1, bft, MSh_sI_eq, fsP_T, inL_0, inL_s, pad_0, pad_n, pad_s, wpn_s, wp1_s, lg_0, lg_s, lset_0, lset_s, kil_0, kil_s, st1_s, st2_s, isL_i, isL_l, isL_r, isL_n, spl_0, spl_s, cll_n, cll_s, catS_0, catS_s, jmp_s, alk_0, alk_s, otl_n, otl_s, List.nil_append, List.cons_append, List.contains_cons, List.contains_nil, Nat.reduceBEq, Bool.or_false, Bool.false_or, Bool.or_self, Bool.false_eq_true, Bool.true_or, Bool.or_true, if_true, if_false, ite_true, ite_false, ↓reduceIte, List.length_cons, List.length_nil, Nat.reduceAdd, Nat.reduceLT, Nat.reduceLeDiff, Nat.reduceEqDiff, Int.reduceAdd, Int.reduceLE, Int.toNat_natCast, Int.reduceToNat, Int.cast_ofNat_Int, true_and, and_true, false_and, and_false, true_implies, forall_const, eq_self, and_self, or_true, true_or, or_self, false_or, or_false, yI_sI, yR_sI, yC_sI, yN_sI, yI_sR, yR_sR, yC_sR, yN_sR, not_true_eq_false, not_false_eq_true, false_implies, implies_true, Nat.zero_add, Nat.add_zero, Nat.le_refl, Nat.reduceSub, Int.reduceSub, Int.reduceLT, Int.sub_zero, Int.sub_self, List.getElem?_toArray, List.getElem?_cons_zero, List.getElem?_cons_succ, Int.toNat_zero, Int.toNat_one, Int.lt_irrefl, yI_sB, yR_sB, yC_sB, yN_sB, MSh_sB_eq, pW_add_0, stp_aload_n, pW_add_1, stp_getfield, qfW_18, rp_8_2, pW_add_4, stp_bipush, pW_add_6, stp_if_icmp_ge, pW_add_9, pW_add_10, qfW_9, rp_8_0, pW_add_13, pW_add_14, pW_add_17, stp_iload_n, pW_add_18, stp_iastore, pW_add_19, pW_add_20, qfW_15, rp_8_1, pW_add_23, pW_add_24, pW_add_27, pW_add_28, qfW_22, rp_8_3, pW_add_31, pW_add_32, pW_add_33, stp_dup, pW_add_34, pW_add_37, stp_iconst, pW_add_38, stp_iadd, pW_add_39, stp_putfield, fi_8_2, nr_8_2, pW_add_42, pW_add_43, pW_add_44, pW_add_47, pW_add_48, pW_add_49, fi_8_3, nr_8_3, pW_add_52, stp_return_, bp_13, ic_1, nv_W_add, ml_W_add, ss_C8 hS, hx, ss_W0 hS hx, ss_W1 hS hx, ss_C184 hS, ss_C185 hS, ss_K184 hS hx, ss_K185 hS hx, hl, c1, v1, q1, nI_1, waW]
  · cases h
theorem ruW_add {w : Wd} {x : Nat} {a t : Int32} (hS : SSh w) (hx : x < 17) (hl : wI w 8 x 2 = nI (wlN w x)) (h13 : wlN w x < 13) : fsW_add [.inr (.inr (some (8, x))), .inl a, .inl t] w = some (none, waW w x a t) := fsP_t ⟨hS, hx, hl, h13⟩
abbrev lvW_alleyAt : Nat := 1
noncomputable def fsW_alleyAt : FS := fun as w => match as with
  | [.inr (.inr (some (8, x))), .inl i] => fsP (SSh w ∧ x < 17 ∧ ∃ q, q < 13 ∧ i = nI q ∧ i < wI w 8 x 2) (some (.inl (wI w 184 x i.toNatClampNeg)), w)
  | _ => none
set_option maxRecDepth 100000 in
set_option maxHeartbeats 4000000 in
theorem okW_alleyAt (l : Launch) (G : Gc) : FsOk l G mW_alleyAt lvW_alleyAt fsW_alleyAt := by
  intro as w r w' h
  simp only [fsW_alleyAt] at h
  split at h
  · rename_i x i
    obtain ⟨⟨hS, hx, q, hq, hi, hlt⟩, h⟩ := fsP_s h
    cases h
    subst hi
    have c1 : (nI q).toNatClampNeg = q := nI_clamp (by omega)
    have v1 : vp_in (nI q) 13 := vp_in_nI (by omega) (by omega)
    have q1 : ¬ nI q < 0 := nI_pos (by omega)
    have q2 : ¬ wI w 8 x 2 ≤ nI q := Int32.not_le.mpr hlt
    refine Sem_of (by decide) rfl (Nat.le_of_ble_eq_true rfl) ?_
    refine wpn_ok (M := mW_alleyAt) (C := cenW) (X := (alk [])) (tb := tW_alleyAt) (st := []) eoW XOk_nil kW_alleyAt 60 _ _ _ _ _ _ ?_
    simp only [reduceCtorEq, fv0, fv1, fv2, fv3, bI_0, bI_1, bft, MSh_sI_eq, fsP_T, inL_0, inL_s, pad_0, pad_n, pad_s, wpn_s, wp1_s, lg_0, lg_s, lset_0, lset_s, kil_0, kil_s, st1_s, st2_s, isL_i, isL_l, isL_r, isL_n, spl_0, spl_s, cll_n, cll_s, catS_0, catS_s, jmp_s, alk_0, alk_s, otl_n, otl_s, List.nil_append, List.cons_append, List.contains_cons, List.contains_nil, Nat.reduceBEq, Bool.or_false, Bool.false_or, Bool.or_self, Bool.false_eq_true, Bool.true_or, Bool.or_true, if_true, if_false, ite_true, ite_false, ↓reduceIte, List.length_cons, List.length_nil, Nat.reduceAdd, Nat.reduceLT, Nat.reduceLeDiff, Nat.reduceEqDiff, Int.reduceAdd, Int.reduceLE, Int.toNat_natCast, Int.reduceToNat, Int.cast_ofNat_Int, true_and, and_true, false_and, and_false, true_implies, forall_const, eq_self, and_self, or_true, true_or, or_self, false_or, or_false, yI_sI, yR_sI, yC_sI, yN_sI, yI_sR, yR_sR, yC_sR, yN_sR, not_true_eq_false, not_false_eq_true, false_implies, implies_true, Nat.zero_add, Nat.add_zero, Nat.le_refl, Nat.reduceSub, Int.reduceSub, Int.reduceLT, Int.sub_zero, Int.sub_self, List.getElem?_toArray, List.getElem?_cons_zero, List.getElem?_cons_succ, Int.toNat_zero, Int.toNat_one, Int.lt_irrefl, yI_sB, yR_sB, yC_sB, yN_sB, MSh_sB_eq, pW_alleyAt_0, stp_iload_n, pW_alleyAt_1, stp_ifCond_lt, pW_alleyAt_4, pW_alleyAt_5, stp_aload_n, pW_alleyAt_6, stp_getfield, qfW_18, rp_8_2, pW_alleyAt_9, stp_if_icmp_ge, pW_alleyAt_12, pW_alleyAt_13, qfW_9, rp_8_0, pW_alleyAt_16, pW_alleyAt_17, stp_iaload, pW_alleyAt_18, stp_goto, pW_alleyAt_21, stp_iconst, pW_alleyAt_22, stp_ireturn, ic_m1, nv_W_alleyAt, ml_W_alleyAt, ss_C8 hS, hx, ss_W0 hS hx, ss_C184 hS, ss_K184 hS hx, c1, v1, q1, q2]
  · cases h
theorem ruW_alleyAt {w : Wd} {x q m : Nat} (hS : SSh w) (hx : x < 17) (hm : wI w 8 x 2 = nI m) (h13 : m ≤ 13) (hq : q < m) : fsW_alleyAt [.inr (.inr (some (8, x))), .inl (nI q)] w = some (some (.inl (wI w 184 x q)), w) := by
  have : fsW_alleyAt [.inr (.inr (some (8, x))), .inl (nI q)] w = fsP (SSh w ∧ x < 17 ∧ ∃ z, z < 13 ∧ nI q = nI z ∧ nI q < wI w 8 x 2) (some (.inl (wI w 184 x (nI q).toNatClampNeg)), w) := rfl
  rw [this, nI_clamp (by omega)]
  exact fsP_t ⟨hS, hx, q, by omega, rfl, by rw [hm]; exact nI_lt hq (by omega)⟩
abbrev lvW_aheadOf : Nat := 1
noncomputable def fsW_aheadOf : FS := fun as w => match as with
  | [.inr (.inr (some (8, x))), .inl i] => fsP (SSh w ∧ x < 17 ∧ ∃ q, q < 13 ∧ i = nI q ∧ i < wI w 8 x 2) (some (.inl (wI w 185 x i.toNatClampNeg)), w)
  | _ => none
set_option maxRecDepth 100000 in
set_option maxHeartbeats 4000000 in
theorem okW_aheadOf (l : Launch) (G : Gc) : FsOk l G mW_aheadOf lvW_aheadOf fsW_aheadOf := by
  intro as w r w' h
  simp only [fsW_aheadOf] at h
  split at h
  · rename_i x i
    obtain ⟨⟨hS, hx, q, hq, hi, hlt⟩, h⟩ := fsP_s h
    cases h
    subst hi
    have c1 : (nI q).toNatClampNeg = q := nI_clamp (by omega)
    have v1 : vp_in (nI q) 13 := vp_in_nI (by omega) (by omega)
    have q1 : ¬ nI q < 0 := nI_pos (by omega)
    have q2 : ¬ wI w 8 x 2 ≤ nI q := Int32.not_le.mpr hlt
    refine Sem_of (by decide) rfl (Nat.le_of_ble_eq_true rfl) ?_
    refine wpn_ok (M := mW_aheadOf) (C := cenW) (X := (alk [])) (tb := tW_aheadOf) (st := []) eoW XOk_nil kW_aheadOf 60 _ _ _ _ _ _ ?_
    simp only [reduceCtorEq, fv0, fv1, fv2, fv3, bI_0, bI_1, bft, MSh_sI_eq, fsP_T, inL_0, inL_s, pad_0, pad_n, pad_s, wpn_s, wp1_s, lg_0, lg_s, lset_0, lset_s, kil_0, kil_s, st1_s, st2_s, isL_i, isL_l, isL_r, isL_n, spl_0, spl_s, cll_n, cll_s, catS_0, catS_s, jmp_s, alk_0, alk_s, otl_n, otl_s, List.nil_append, List.cons_append, List.contains_cons, List.contains_nil, Nat.reduceBEq, Bool.or_false, Bool.false_or, Bool.or_self, Bool.false_eq_true, Bool.true_or, Bool.or_true, if_true, if_false, ite_true, ite_false, ↓reduceIte, List.length_cons, List.length_nil, Nat.reduceAdd, Nat.reduceLT, Nat.reduceLeDiff, Nat.reduceEqDiff, Int.reduceAdd, Int.reduceLE, Int.toNat_natCast, Int.reduceToNat, Int.cast_ofNat_Int, true_and, and_true, false_and, and_false, true_implies, forall_const, eq_self, and_self, or_true, true_or, or_self, false_or, or_false, yI_sI, yR_sI, yC_sI, yN_sI, yI_sR, yR_sR, yC_sR, yN_sR, not_true_eq_false, not_false_eq_true, false_implies, implies_true, Nat.zero_add, Nat.add_zero, Nat.le_refl, Nat.reduceSub, Int.reduceSub, Int.reduceLT, Int.sub_zero, Int.sub_self, List.getElem?_toArray, List.getElem?_cons_zero, List.getElem?_cons_succ, Int.toNat_zero, Int.toNat_one, Int.lt_irrefl, yI_sB, yR_sB, yC_sB, yN_sB, MSh_sB_eq, pW_aheadOf_0, stp_iload_n, pW_aheadOf_1, stp_ifCond_lt, pW_aheadOf_4, pW_aheadOf_5, stp_aload_n, pW_aheadOf_6, stp_getfield, qfW_18, rp_8_2, pW_aheadOf_9, stp_if_icmp_ge, pW_aheadOf_12, pW_aheadOf_13, qfW_15, rp_8_1, pW_aheadOf_16, pW_aheadOf_17, stp_iaload, pW_aheadOf_18, stp_goto, pW_aheadOf_21, stp_iconst, pW_aheadOf_22, stp_ireturn, ic_0, nv_W_aheadOf, ml_W_aheadOf, ss_C8 hS, hx, ss_W1 hS hx, ss_C185 hS, ss_K185 hS hx, c1, v1, q1, q2]
  · cases h
theorem ruW_aheadOf {w : Wd} {x q m : Nat} (hS : SSh w) (hx : x < 17) (hm : wI w 8 x 2 = nI m) (h13 : m ≤ 13) (hq : q < m) : fsW_aheadOf [.inr (.inr (some (8, x))), .inl (nI q)] w = some (some (.inl (wI w 185 x q)), w) := by
  have : fsW_aheadOf [.inr (.inr (some (8, x))), .inl (nI q)] w = fsP (SSh w ∧ x < 17 ∧ ∃ z, z < 13 ∧ nI q = nI z ∧ nI q < wI w 8 x 2) (some (.inl (wI w 185 x (nI q).toNatClampNeg)), w) := rfl
  rw [this, nI_clamp (by omega)]
  exact fsP_t ⟨hS, hx, q, by omega, rfl, by rw [hm]; exact nI_lt hq (by omega)⟩
abbrev lvA_touches : Nat := 1
noncomputable def fsA_touches : FS := fun as w => match as with
  | [.inr (.inr (some (9, k))), .inl p] => fsP (k < wC w 9) (some (.inl (bI (decide (wI w 9 k 0 = p) || decide (wI w 9 k 1 = p)))), w)
  | _ => none
set_option maxRecDepth 100000 in
set_option maxHeartbeats 4000000 in
theorem okA_touches (l : Launch) (G : Gc) : FsOk l G mA_touches lvA_touches fsA_touches := by
  intro as w r w' h
  simp only [fsA_touches] at h
  split at h
  · rename_i k p
    obtain ⟨hk, h⟩ := fsP_s h
    cases h
    refine Sem_of (by decide) rfl (Nat.le_of_ble_eq_true rfl) ?_
    refine wpn_ok (M := mA_touches) (C := cenA) (X := (alk [])) (tb := tA_touches) (st := []) eoA XOk_nil kA_touches 200 _ _ _ _ _ _ ?_
    simp only [reduceCtorEq, fv0, fv1, fv2, fv3, bI_0, bI_1, bft, MSh_sI_eq, fsP_T, inL_0, inL_s, pad_0, pad_n, pad_s, wpn_s, wp1_s, lg_0, lg_s, lset_0, lset_s, kil_0, kil_s, st1_s, st2_s, isL_i, isL_l, isL_r, isL_n, spl_0, spl_s, cll_n, cll_s, catS_0, catS_s, jmp_s, alk_0, alk_s, otl_n, otl_s, List.nil_append, List.cons_append, List.contains_cons, List.contains_nil, Nat.reduceBEq, Bool.or_false, Bool.false_or, Bool.or_self, Bool.false_eq_true, Bool.true_or, Bool.or_true, if_true, if_false, ite_true, ite_false, ↓reduceIte, List.length_cons, List.length_nil, Nat.reduceAdd, Nat.reduceLT, Nat.reduceLeDiff, Nat.reduceEqDiff, Int.reduceAdd, Int.reduceLE, Int.toNat_natCast, Int.reduceToNat, Int.cast_ofNat_Int, true_and, and_true, false_and, and_false, true_implies, forall_const, eq_self, and_self, or_true, true_or, or_self, false_or, or_false, yI_sI, yR_sI, yC_sI, yN_sI, yI_sR, yR_sR, yC_sR, yN_sR, not_true_eq_false, not_false_eq_true, false_implies, implies_true, Nat.zero_add, Nat.add_zero, Nat.le_refl, Nat.reduceSub, Int.reduceSub, Int.reduceLT, Int.sub_zero, Int.sub_self, List.getElem?_toArray, List.getElem?_cons_zero, List.getElem?_cons_succ, Int.toNat_zero, Int.toNat_one, Int.lt_irrefl, yI_sB, yR_sB, yC_sB, yN_sB, MSh_sB_eq, pA_touches_0, stp_aload_n, pA_touches_1, stp_getfield, qfA_19, rp_9_0, pA_touches_4, stp_iload_n, pA_touches_5, stp_if_icmp_eq, pA_touches_8, pA_touches_9, qfA_22, rp_9_1, pA_touches_12, pA_touches_13, stp_if_icmp_ne, pA_touches_16, stp_iconst, pA_touches_17, stp_goto, pA_touches_20, pA_touches_21, stp_ireturn, ic_1, ic_0, nv_A_touches, ml_A_touches, lvA_touches, hk]
    by_cases h1 : wI w 9 k 0 = p <;> by_cases h2 : wI w 9 k 1 = p <;> simp [h1, h2, bI]
  · cases h
abbrev lvA_otherEnd : Nat := 1
noncomputable def fsA_otherEnd : FS := fun as w => match as with
  | [.inr (.inr (some (9, k))), .inl p] => fsP (k < wC w 9) (some (.inl (if wI w 9 k 0 = p then wI w 9 k 1 else wI w 9 k 0)), w)
  | _ => none
set_option maxRecDepth 100000 in
set_option maxHeartbeats 4000000 in
theorem okA_otherEnd (l : Launch) (G : Gc) : FsOk l G mA_otherEnd lvA_otherEnd fsA_otherEnd := by
  intro as w r w' h
  simp only [fsA_otherEnd] at h
  split at h
  · rename_i k p
    obtain ⟨hk, h⟩ := fsP_s h
    cases h
    refine Sem_of (by decide) rfl (Nat.le_of_ble_eq_true rfl) ?_
    refine wpn_ok (M := mA_otherEnd) (C := cenA) (X := (alk [])) (tb := tA_otherEnd) (st := []) eoA XOk_nil kA_otherEnd 200 _ _ _ _ _ _ ?_
    simp only [reduceCtorEq, fv0, fv1, fv2, fv3, bI_0, bI_1, bft, MSh_sI_eq, fsP_T, inL_0, inL_s, pad_0, pad_n, pad_s, wpn_s, wp1_s, lg_0, lg_s, lset_0, lset_s, kil_0, kil_s, st1_s, st2_s, isL_i, isL_l, isL_r, isL_n, spl_0, spl_s, cll_n, cll_s, catS_0, catS_s, jmp_s, alk_0, alk_s, otl_n, otl_s, List.nil_append, List.cons_append, List.contains_cons, List.contains_nil, Nat.reduceBEq, Bool.or_false, Bool.false_or, Bool.or_self, Bool.false_eq_true, Bool.true_or, Bool.or_true, if_true, if_false, ite_true, ite_false, ↓reduceIte, List.length_cons, List.length_nil, Nat.reduceAdd, Nat.reduceLT, Nat.reduceLeDiff, Nat.reduceEqDiff, Int.reduceAdd, Int.reduceLE, Int.toNat_natCast, Int.reduceToNat, Int.cast_ofNat_Int, true_and, and_true, false_and, and_false, true_implies, forall_const, eq_self, and_self, or_true, true_or, or_self, false_or, or_false, yI_sI, yR_sI, yC_sI, yN_sI, yI_sR, yR_sR, yC_sR, yN_sR, not_true_eq_false, not_false_eq_true, false_implies, implies_true, Nat.zero_add, Nat.add_zero, Nat.le_refl, Nat.reduceSub, Int.reduceSub, Int.reduceLT, Int.sub_zero, Int.sub_self, List.getElem?_toArray, List.getElem?_cons_zero, List.getElem?_cons_succ, Int.toNat_zero, Int.toNat_one, Int.lt_irrefl, yI_sB, yR_sB, yC_sB, yN_sB, MSh_sB_eq, pA_otherEnd_0, stp_aload_n, pA_otherEnd_1, stp_getfield, qfA_19, rp_9_0, pA_otherEnd_4, stp_iload_n, pA_otherEnd_5, stp_if_icmp_ne, pA_otherEnd_8, pA_otherEnd_9, qfA_22, rp_9_1, pA_otherEnd_12, stp_goto, pA_otherEnd_15, pA_otherEnd_16, pA_otherEnd_19, stp_ireturn, nv_A_otherEnd, ml_A_otherEnd, lvA_otherEnd, hk]
    by_cases h1 : wI w 9 k 0 = p <;> simp [h1]
  · cases h
/-! when an alley is free -/
def szA (w : Wd) (k : Nat) : Nat := (wI w 9 k 4).toNatClampNeg
def mnA (w : Wd) (k : Nat) : Nat := (wI w 9 k 2).toNatClampNeg
def tkv (w : Wd) (k i : Nat) : Nat := (wI w 186 k i).toNatClampNeg
def AlQ (w : Wd) (k : Nat) : Prop := AlS w k ∧ wI w 9 k 4 = nI (szA w k) ∧ szA w k ≤ 24 ∧ wI w 9 k 2 = nI (mnA w k) ∧ mnA w k ≤ 30 ∧ ∀ i, i < szA w k → wI w 186 k i = nI (tkv w k i) ∧ tkv w k i < 2 ^ 29
def mtA (w : Wd) (k x : Nat) : Nat → Bool := fun i => ovN (mnA w k) (tkv w k i) x
section
variable {l : Launch} {G : Gc} {n : Nat} {Q : Option AV → Wd → Prop} {w : Wd}
set_option maxRecDepth 100000 in
set_option maxHeartbeats 4000000 in
theorem stA_meets {k x i : Nat} (hA : AlQ w k) (hx : x < 2 ^ 30) (hi : i < szA w k) (hQ : mtA w k x i = true → Q (some (.inl (nI (tkv w k i)))) w) (ih : mtA w k x i = false → WP l G mA_meets n 0 0 Q 2 [some (.inr (.inr (some (9, k)))), some (.inl (nI x)), some (.inl (nI (i + 1)))] [] w 0 0) : WP l G mA_meets n 0 0 Q 2 [some (.inr (.inr (some (9, k)))), some (.inl (nI x)), some (.inl (nI i))] [] w 0 0 := by
  obtain ⟨⟨s0, s1, s2, s3⟩, a1, a2, a3, a4, a5⟩ := id hA
  obtain ⟨b1, b2⟩ := a5 i hi
  have h1 : ¬ nI (szA w k) ≤ nI i := nI_ge hi (by omega)
  have h2 : ¬ Int32.ofNat 24 ≤ nI i := nI_ge (b := 24) (by omega) (by omega)
  have v1 : vp_in (nI i) 24 := vp_in_nI (by omega) (by omega)
  have c1 : (nI i).toNatClampNeg = i := nI_clamp (by omega)
  have e1 : (nI (tkv w k i + mnA w k) ≤ nI x) = (tkv w k i + mnA w k ≤ x) := propext (nI_leI (by omega) (by omega))
  have e2 : (nI (x + mnA w k) ≤ nI (tkv w k i)) = (x + mnA w k ≤ tkv w k i) := propext (nI_leI (by omega) (by omega))
  refine wpn_ok (M := mA_meets) (C := cenA) (X := (alk [])) (tb := tA_meets) (st := [2]) eoA XOk_nil kA_meets 60 _ _ _ _ _ _ ?_
  by_cases q1 : tkv w k i + mnA w k ≤ x
  · have := ih (by simp [mtA, ovN]; omega)
    simp only [reduceCtorEq, fv0, fv1, fv2, fv3, bI_0, bI_1, bft, MSh_sI_eq, fsP_T, inL_0, inL_s, pad_0, pad_n, pad_s, wpn_s, wp1_s, lg_0, lg_s, lset_0, lset_s, kil_0, kil_s, st1_s, st2_s, isL_i, isL_l, isL_r, isL_n, spl_0, spl_s, cll_n, cll_s, catS_0, catS_s, jmp_s, alk_0, alk_s, otl_n, otl_s, List.nil_append, List.cons_append, List.contains_cons, List.contains_nil, Nat.reduceBEq, Bool.or_false, Bool.false_or, Bool.or_self, Bool.false_eq_true, Bool.true_or, Bool.or_true, if_true, if_false, ite_true, ite_false, ↓reduceIte, List.length_cons, List.length_nil, Nat.reduceAdd, Nat.reduceLT, Nat.reduceLeDiff, Nat.reduceEqDiff, Int.reduceAdd, Int.reduceLE, Int.toNat_natCast, Int.reduceToNat, Int.cast_ofNat_Int, true_and, and_true, false_and, and_false, true_implies, forall_const, eq_self, and_self, or_true, true_or, or_self, false_or, or_false, yI_sI, yR_sI, yC_sI, yN_sI, yI_sR, yR_sR, yC_sR, yN_sR, not_true_eq_false, not_false_eq_true, false_implies, implies_true, Nat.zero_add, Nat.add_zero, Nat.le_refl, Nat.reduceSub, Int.reduceSub, Int.reduceLT, Int.sub_zero, Int.sub_self, List.getElem?_toArray, List.getElem?_cons_zero, List.getElem?_cons_succ, Int.toNat_zero, Int.toNat_one, Int.lt_irrefl, yI_sB, yR_sB, yC_sB, yN_sB, MSh_sB_eq, pA_meets_0, stp_iconst, pA_meets_1, stp_istore_n, pA_meets_2, stp_iload_n, pA_meets_3, stp_aload_n, pA_meets_4, stp_getfield, qfA_15, rp_9_4, pA_meets_7, stp_if_icmp_ge, pA_meets_10, pA_meets_11, pA_meets_12, qfA_9, rp_9_3, pA_meets_15, stp_arraylength, pA_meets_16, pA_meets_19, pA_meets_20, pA_meets_21, pA_meets_24, pA_meets_25, stp_iaload, pA_meets_26, pA_meets_27, qfA_25, rp_9_2, pA_meets_30, stp_iadd, pA_meets_31, pA_meets_34, pA_meets_35, pA_meets_38, pA_meets_39, pA_meets_40, pA_meets_41, pA_meets_42, pA_meets_45, pA_meets_46, pA_meets_49, pA_meets_50, pA_meets_53, pA_meets_54, pA_meets_55, stp_ireturn, pA_meets_56, stp_iinc, pA_meets_59, stp_goto, pA_meets_62, pA_meets_63, ic_0, ic_1, ic_m1, nv_A_meets, ml_A_meets, s0, s1, s2, s3, a1, a3, b1, h1, h2, v1, c1, nI_add, e1, q1, nI_1]
    exact this
  · by_cases q2 : x + mnA w k ≤ tkv w k i
    · have := ih (by simp [mtA, ovN]; omega)
      simp only [reduceCtorEq, fv0, fv1, fv2, fv3, bI_0, bI_1, bft, MSh_sI_eq, fsP_T, inL_0, inL_s, pad_0, pad_n, pad_s, wpn_s, wp1_s, lg_0, lg_s, lset_0, lset_s, kil_0, kil_s, st1_s, st2_s, isL_i, isL_l, isL_r, isL_n, spl_0, spl_s, cll_n, cll_s, catS_0, catS_s, jmp_s, alk_0, alk_s, otl_n, otl_s, List.nil_append, List.cons_append, List.contains_cons, List.contains_nil, Nat.reduceBEq, Bool.or_false, Bool.false_or, Bool.or_self, Bool.false_eq_true, Bool.true_or, Bool.or_true, if_true, if_false, ite_true, ite_false, ↓reduceIte, List.length_cons, List.length_nil, Nat.reduceAdd, Nat.reduceLT, Nat.reduceLeDiff, Nat.reduceEqDiff, Int.reduceAdd, Int.reduceLE, Int.toNat_natCast, Int.reduceToNat, Int.cast_ofNat_Int, true_and, and_true, false_and, and_false, true_implies, forall_const, eq_self, and_self, or_true, true_or, or_self, false_or, or_false, yI_sI, yR_sI, yC_sI, yN_sI, yI_sR, yR_sR, yC_sR, yN_sR, not_true_eq_false, not_false_eq_true, false_implies, implies_true, Nat.zero_add, Nat.add_zero, Nat.le_refl, Nat.reduceSub, Int.reduceSub, Int.reduceLT, Int.sub_zero, Int.sub_self, List.getElem?_toArray, List.getElem?_cons_zero, List.getElem?_cons_succ, Int.toNat_zero, Int.toNat_one, Int.lt_irrefl, yI_sB, yR_sB, yC_sB, yN_sB, MSh_sB_eq, pA_meets_0, stp_iconst, pA_meets_1, stp_istore_n, pA_meets_2, stp_iload_n, pA_meets_3, stp_aload_n, pA_meets_4, stp_getfield, qfA_15, rp_9_4, pA_meets_7, stp_if_icmp_ge, pA_meets_10, pA_meets_11, pA_meets_12, qfA_9, rp_9_3, pA_meets_15, stp_arraylength, pA_meets_16, pA_meets_19, pA_meets_20, pA_meets_21, pA_meets_24, pA_meets_25, stp_iaload, pA_meets_26, pA_meets_27, qfA_25, rp_9_2, pA_meets_30, stp_iadd, pA_meets_31, pA_meets_34, pA_meets_35, pA_meets_38, pA_meets_39, pA_meets_40, pA_meets_41, pA_meets_42, pA_meets_45, pA_meets_46, pA_meets_49, pA_meets_50, pA_meets_53, pA_meets_54, pA_meets_55, stp_ireturn, pA_meets_56, stp_iinc, pA_meets_59, stp_goto, pA_meets_62, pA_meets_63, ic_0, ic_1, ic_m1, nv_A_meets, ml_A_meets, s0, s1, s2, s3, a1, a3, b1, h1, h2, v1, c1, nI_add, e1, e2, q1, q2, nI_1]
      exact this
    · have := hQ (by simp [mtA, ovN]; omega)
      simp only [reduceCtorEq, fv0, fv1, fv2, fv3, bI_0, bI_1, bft, MSh_sI_eq, fsP_T, inL_0, inL_s, pad_0, pad_n, pad_s, wpn_s, wp1_s, lg_0, lg_s, lset_0, lset_s, kil_0, kil_s, st1_s, st2_s, isL_i, isL_l, isL_r, isL_n, spl_0, spl_s, cll_n, cll_s, catS_0, catS_s, jmp_s, alk_0, alk_s, otl_n, otl_s, List.nil_append, List.cons_append, List.contains_cons, List.contains_nil, Nat.reduceBEq, Bool.or_false, Bool.false_or, Bool.or_self, Bool.false_eq_true, Bool.true_or, Bool.or_true, if_true, if_false, ite_true, ite_false, ↓reduceIte, List.length_cons, List.length_nil, Nat.reduceAdd, Nat.reduceLT, Nat.reduceLeDiff, Nat.reduceEqDiff, Int.reduceAdd, Int.reduceLE, Int.toNat_natCast, Int.reduceToNat, Int.cast_ofNat_Int, true_and, and_true, false_and, and_false, true_implies, forall_const, eq_self, and_self, or_true, true_or, or_self, false_or, or_false, yI_sI, yR_sI, yC_sI, yN_sI, yI_sR, yR_sR, yC_sR, yN_sR, not_true_eq_false, not_false_eq_true, false_implies, implies_true, Nat.zero_add, Nat.add_zero, Nat.le_refl, Nat.reduceSub, Int.reduceSub, Int.reduceLT, Int.sub_zero, Int.sub_self, List.getElem?_toArray, List.getElem?_cons_zero, List.getElem?_cons_succ, Int.toNat_zero, Int.toNat_one, Int.lt_irrefl, yI_sB, yR_sB, yC_sB, yN_sB, MSh_sB_eq, pA_meets_0, stp_iconst, pA_meets_1, stp_istore_n, pA_meets_2, stp_iload_n, pA_meets_3, stp_aload_n, pA_meets_4, stp_getfield, qfA_15, rp_9_4, pA_meets_7, stp_if_icmp_ge, pA_meets_10, pA_meets_11, pA_meets_12, qfA_9, rp_9_3, pA_meets_15, stp_arraylength, pA_meets_16, pA_meets_19, pA_meets_20, pA_meets_21, pA_meets_24, pA_meets_25, stp_iaload, pA_meets_26, pA_meets_27, qfA_25, rp_9_2, pA_meets_30, stp_iadd, pA_meets_31, pA_meets_34, pA_meets_35, pA_meets_38, pA_meets_39, pA_meets_40, pA_meets_41, pA_meets_42, pA_meets_45, pA_meets_46, pA_meets_49, pA_meets_50, pA_meets_53, pA_meets_54, pA_meets_55, stp_ireturn, pA_meets_56, stp_iinc, pA_meets_59, stp_goto, pA_meets_62, pA_meets_63, ic_0, ic_1, ic_m1, nv_A_meets, ml_A_meets, s0, s1, s2, s3, a1, a3, b1, h1, h2, v1, c1, nI_add, e1, e2, q1, q2]
      exact this
def mtV (w : Wd) (k : Nat) : Option Nat → Int32
  | none => -1
  | some i => nI (tkv w k i)
set_option maxRecDepth 100000 in
set_option maxHeartbeats 4000000 in
theorem lpA_meets {k x : Nat} (hA : AlQ w k) (hx : x < 2 ^ 30) (hQ : Q (some (.inl (mtV w k (fstN (mtA w k x) (szA w k))))) w) : ∀ c i, i + c = szA w k → fstN (mtA w k x) i = none → WP l G mA_meets n 0 0 Q 2 [some (.inr (.inr (some (9, k)))), some (.inl (nI x)), some (.inl (nI i))] [] w 0 0
  | 0, i, hi, hf => by
    have e : i = szA w k := hi
    subst e
    obtain ⟨⟨s0, s1, s2, s3⟩, a1, a2, a3, a4, a5⟩ := id hA
    rw [hf] at hQ
    refine wpn_ok (M := mA_meets) (C := cenA) (X := (alk [])) (tb := tA_meets) (st := [2]) eoA XOk_nil kA_meets 60 _ _ _ _ _ _ ?_
    simp only [reduceCtorEq, fv0, fv1, fv2, fv3, bI_0, bI_1, bft, MSh_sI_eq, fsP_T, inL_0, inL_s, pad_0, pad_n, pad_s, wpn_s, wp1_s, lg_0, lg_s, lset_0, lset_s, kil_0, kil_s, st1_s, st2_s, isL_i, isL_l, isL_r, isL_n, spl_0, spl_s, cll_n, cll_s, catS_0, catS_s, jmp_s, alk_0, alk_s, otl_n, otl_s, List.nil_append, List.cons_append, List.contains_cons, List.contains_nil, Nat.reduceBEq, Bool.or_false, Bool.false_or, Bool.or_self, Bool.false_eq_true, Bool.true_or, Bool.or_true, if_true, if_false, ite_true, ite_false, ↓reduceIte, List.length_cons, List.length_nil, Nat.reduceAdd, Nat.reduceLT, Nat.reduceLeDiff, Nat.reduceEqDiff, Int.reduceAdd, Int.reduceLE, Int.toNat_natCast, Int.reduceToNat, Int.cast_ofNat_Int, true_and, and_true, false_and, and_false, true_implies, forall_const, eq_self, and_self, or_true, true_or, or_self, false_or, or_false, yI_sI, yR_sI, yC_sI, yN_sI, yI_sR, yR_sR, yC_sR, yN_sR, not_true_eq_false, not_false_eq_true, false_implies, implies_true, Nat.zero_add, Nat.add_zero, Nat.le_refl, Nat.reduceSub, Int.reduceSub, Int.reduceLT, Int.sub_zero, Int.sub_self, List.getElem?_toArray, List.getElem?_cons_zero, List.getElem?_cons_succ, Int.toNat_zero, Int.toNat_one, Int.lt_irrefl, yI_sB, yR_sB, yC_sB, yN_sB, MSh_sB_eq, pA_meets_0, stp_iconst, pA_meets_1, stp_istore_n, pA_meets_2, stp_iload_n, pA_meets_3, stp_aload_n, pA_meets_4, stp_getfield, qfA_15, rp_9_4, pA_meets_7, stp_if_icmp_ge, pA_meets_10, pA_meets_11, pA_meets_12, qfA_9, rp_9_3, pA_meets_15, stp_arraylength, pA_meets_16, pA_meets_19, pA_meets_20, pA_meets_21, pA_meets_24, pA_meets_25, stp_iaload, pA_meets_26, pA_meets_27, qfA_25, rp_9_2, pA_meets_30, stp_iadd, pA_meets_31, pA_meets_34, pA_meets_35, pA_meets_38, pA_meets_39, pA_meets_40, pA_meets_41, pA_meets_42, pA_meets_45, pA_meets_46, pA_meets_49, pA_meets_50, pA_meets_53, pA_meets_54, pA_meets_55, stp_ireturn, pA_meets_56, stp_iinc, pA_meets_59, stp_goto, pA_meets_62, pA_meets_63, ic_0, ic_1, ic_m1, nv_A_meets, ml_A_meets, s0, a1, Int32.le_refl]
    exact hQ
  | c + 1, i, hi, hf => stA_meets hA hx (by omega) (fun q => by
      have z := fstN_at hf q c
      rw [show i + 1 + c = szA w k by omega] at z
      rw [z] at hQ
      exact hQ) (fun q => lpA_meets hA hx hQ c (i + 1) (by omega) (by simp [fstN, hf, q]))
end
abbrev lvA_meets : Nat := 1
noncomputable def fsA_meets : FS := fun as w => match as with
  | [.inr (.inr (some (9, k))), .inl y] => fsP (AlQ w k ∧ ∃ x, x < 2 ^ 30 ∧ y = nI x) (some (.inl (mtV w k (fstN (mtA w k y.toNatClampNeg) (szA w k)))), w)
  | _ => none
set_option maxRecDepth 100000 in
set_option maxHeartbeats 4000000 in
theorem okA_meets (l : Launch) (G : Gc) : FsOk l G mA_meets lvA_meets fsA_meets := by
  intro as w r w' h
  simp only [fsA_meets] at h
  split at h
  · rename_i k y
    obtain ⟨⟨hA, x, hx, hy⟩, h⟩ := fsP_s h
    cases h
    subst hy
    rw [nI_clamp (by omega)]
    refine Sem_of (by decide) rfl (Nat.le_of_ble_eq_true rfl) ?_
    refine wpn_ok (M := mA_meets) (C := cenA) (X := (alk [])) (tb := tA_meets) (st := [2]) eoA XOk_nil kA_meets 60 _ _ _ _ _ _ ?_
    simp only [reduceCtorEq, fv0, fv1, fv2, fv3, bI_0, bI_1, bft, MSh_sI_eq, fsP_T, inL_0, inL_s, pad_0, pad_n, pad_s, wpn_s, wp1_s, lg_0, lg_s, lset_0, lset_s, kil_0, kil_s, st1_s, st2_s, isL_i, isL_l, isL_r, isL_n, spl_0, spl_s, cll_n, cll_s, catS_0, catS_s, jmp_s, alk_0, alk_s, otl_n, otl_s, List.nil_append, List.cons_append, List.contains_cons, List.contains_nil, Nat.reduceBEq, Bool.or_false, Bool.false_or, Bool.or_self, Bool.false_eq_true, Bool.true_or, Bool.or_true, if_true, if_false, ite_true, ite_false, ↓reduceIte, List.length_cons, List.length_nil, Nat.reduceAdd, Nat.reduceLT, Nat.reduceLeDiff, Nat.reduceEqDiff, Int.reduceAdd, Int.reduceLE, Int.toNat_natCast, Int.reduceToNat, Int.cast_ofNat_Int, true_and, and_true, false_and, and_false, true_implies, forall_const, eq_self, and_self, or_true, true_or, or_self, false_or, or_false, yI_sI, yR_sI, yC_sI, yN_sI, yI_sR, yR_sR, yC_sR, yN_sR, not_true_eq_false, not_false_eq_true, false_implies, implies_true, Nat.zero_add, Nat.add_zero, Nat.le_refl, Nat.reduceSub, Int.reduceSub, Int.reduceLT, Int.sub_zero, Int.sub_self, List.getElem?_toArray, List.getElem?_cons_zero, List.getElem?_cons_succ, Int.toNat_zero, Int.toNat_one, Int.lt_irrefl, yI_sB, yR_sB, yC_sB, yN_sB, MSh_sB_eq, pA_meets_0, stp_iconst, pA_meets_1, stp_istore_n, pA_meets_2, stp_iload_n, pA_meets_3, stp_aload_n, pA_meets_4, stp_getfield, qfA_15, rp_9_4, pA_meets_7, stp_if_icmp_ge, pA_meets_10, pA_meets_11, pA_meets_12, qfA_9, rp_9_3, pA_meets_15, stp_arraylength, pA_meets_16, pA_meets_19, pA_meets_20, pA_meets_21, pA_meets_24, pA_meets_25, stp_iaload, pA_meets_26, pA_meets_27, qfA_25, rp_9_2, pA_meets_30, stp_iadd, pA_meets_31, pA_meets_34, pA_meets_35, pA_meets_38, pA_meets_39, pA_meets_40, pA_meets_41, pA_meets_42, pA_meets_45, pA_meets_46, pA_meets_49, pA_meets_50, pA_meets_53, pA_meets_54, pA_meets_55, stp_ireturn, pA_meets_56, stp_iinc, pA_meets_59, stp_goto, pA_meets_62, pA_meets_63, ic_0, ic_1, ic_m1, nv_A_meets, ml_A_meets]
    exact lpA_meets hA hx ⟨rfl, rfl⟩ (szA w k) 0 (by omega) rfl
  · cases h
theorem ruA_meets {w : Wd} {k x : Nat} (hA : AlQ w k) (hx : x < 2 ^ 30) : fsA_meets [.inr (.inr (some (9, k))), .inl (nI x)] w = some (some (.inl (mtV w k (fstN (mtA w k x) (szA w k)))), w) := by
  have : fsA_meets [.inr (.inr (some (9, k))), .inl (nI x)] w = fsP (AlQ w k ∧ ∃ z, z < 2 ^ 30 ∧ nI x = nI z) (some (.inl (mtV w k (fstN (mtA w k (nI x).toNatClampNeg) (szA w k)))), w) := rfl
  rw [this, nI_clamp (by omega)]
  exact fsP_t ⟨hA, x, hx, rfl⟩
/-- the first free minute of an alley, in so many rounds -/
def ffA (τ : Nat → Nat) (s T : Nat) : Nat → Nat → Nat
  | 0, y => y
  | r + 1, y => match fstN (fun i => ovN T (τ i) y) s with
    | none => y
    | some i => ffA τ s T r (τ i + T)
theorem ff_ok {τ : Nat → Nat} {s T : Nat} : ∀ r y, cnN (fun i => decide (y < τ i + T)) s < r → (∀ i, i < s → ovN T (τ i) (ffA τ s T r y) = false) ∧ y ≤ ffA τ s T r y ∧ ∀ z, y ≤ z → z < ffA τ s T r y → ∃ i, i < s ∧ ovN T (τ i) z = true
  | 0, y, h => by omega
  | r + 1, y, h => by
    simp only [ffA]
    cases hf : fstN (fun i => ovN T (τ i) y) s with
    | none => exact ⟨fun i hi => fstN_nb hf i hi, Nat.le_refl _, fun z h1 h2 => by simp only [] at h2; omega⟩
    | some i =>
      obtain ⟨h1, h2⟩ := fstN_s hf
      simp only [ovN, Bool.and_eq_true, decide_eq_true_eq] at h2
      have hlt : cnN (fun q => decide (τ i + T < τ q + T)) s < cnN (fun q => decide (y < τ q + T)) s :=
        cnN_lt (q := i) (by simp) (by simp; omega) s h1 (fun q _ hq => by simp only [decide_eq_true_eq] at hq ⊢; omega)
      obtain ⟨i1, i2, i3⟩ := ff_ok (τ := τ) (s := s) (T := T) r (τ i + T) (by omega)
      refine ⟨i1, by simp only []; omega, fun z z1 z2 => ?_⟩
      by_cases c : τ i + T ≤ z
      · exact i3 z c z2
      · exact ⟨i, h1, by simp only [ovN, Bool.and_eq_true, decide_eq_true_eq]; omega⟩
theorem ff_bd {τ : Nat → Nat} {s T B : Nat} (hB : ∀ i, i < s → τ i + T ≤ B) : ∀ r y, y ≤ B → ffA τ s T r y ≤ B
  | 0, y, h => h
  | r + 1, y, h => by
    simp only [ffA]
    cases hf : fstN (fun i => ovN T (τ i) y) s with
    | none => exact h
    | some i => exact ff_bd hB r _ (hB i (fstN_s hf).1)
section
variable {l : Launch} {G : Gc} {n : Nat} {Q : Option AV → Wd → Prop} {w : Wd}
set_option maxRecDepth 100000 in
set_option maxHeartbeats 4000000 in
theorem lpA_freeFrom {k : Nat} {x : Int32} (hl : 1 < n) (hA : AlQ w k) : ∀ c r y l4, r + c = szA w k + 1 → y < 2 ^ 30 → Q (some (.inl (nI (ffA (tkv w k) (szA w k) (mnA w k) c y)))) w → WP l G mA_freeFrom n 0 0 Q 4 [some (.inr (.inr (some (9, k)))), some (.inl x), some (.inl (nI y)), some (.inl (nI r)), l4] [] w 0 0
  | 0, r, y, l4, hr, hy, hQ => by
    obtain ⟨⟨s0, s1, s2, s3⟩, a1, a2, a3, a4, a5⟩ := id hA
    have h1 : nI (szA w k) < nI r := nI_lt (by omega) (by omega)
    refine wpn_ok (M := mA_freeFrom) (C := cenA) (X := (alk [])) (tb := tA_freeFrom) (st := [4]) eoA XOk_nil kA_freeFrom 60 _ _ _ _ _ _ ?_
    simp only [reduceCtorEq, fv0, fv1, fv2, fv3, bI_0, bI_1, bft, MSh_sI_eq, fsP_T, inL_0, inL_s, pad_0, pad_n, pad_s, wpn_s, wp1_s, lg_0, lg_s, lset_0, lset_s, kil_0, kil_s, st1_s, st2_s, isL_i, isL_l, isL_r, isL_n, spl_0, spl_s, cll_n, cll_s, catS_0, catS_s, jmp_s, alk_0, alk_s, otl_n, otl_s, List.nil_append, List.cons_append, List.contains_cons, List.contains_nil, Nat.reduceBEq, Bool.or_false, Bool.false_or, Bool.or_self, Bool.false_eq_true, Bool.true_or, Bool.or_true, if_true, if_false, ite_true, ite_false, ↓reduceIte, List.length_cons, List.length_nil, Nat.reduceAdd, Nat.reduceLT, Nat.reduceLeDiff, Nat.reduceEqDiff, Int.reduceAdd, Int.reduceLE, Int.toNat_natCast, Int.reduceToNat, Int.cast_ofNat_Int, true_and, and_true, false_and, and_false, true_implies, forall_const, eq_self, and_self, or_true, true_or, or_self, false_or, or_false, yI_sI, yR_sI, yC_sI, yN_sI, yI_sR, yR_sR, yC_sR, yN_sR, not_true_eq_false, not_false_eq_true, false_implies, implies_true, Nat.zero_add, Nat.add_zero, Nat.le_refl, Nat.reduceSub, Int.reduceSub, Int.reduceLT, Int.sub_zero, Int.sub_self, List.getElem?_toArray, List.getElem?_cons_zero, List.getElem?_cons_succ, Int.toNat_zero, Int.toNat_one, Int.lt_irrefl, yI_sB, yR_sB, yC_sB, yN_sB, MSh_sB_eq, pA_freeFrom_0, stp_iload_n, pA_freeFrom_1, stp_istore_n, pA_freeFrom_2, stp_iconst, pA_freeFrom_3, pA_freeFrom_4, pA_freeFrom_5, stp_aload_n, pA_freeFrom_6, stp_getfield, qfA_15, rp_9_4, pA_freeFrom_9, stp_if_icmp_gt, pA_freeFrom_12, pA_freeFrom_13, pA_freeFrom_14, stp_invokevirtual, qmA_28, cy_A_meets, pA_freeFrom_17, stp_istore, pA_freeFrom_19, stp_iload, pA_freeFrom_21, pA_freeFrom_22, stp_if_icmp_ne, pA_freeFrom_25, pA_freeFrom_26, stp_ireturn, pA_freeFrom_27, pA_freeFrom_29, pA_freeFrom_30, qfA_25, rp_9_2, pA_freeFrom_33, stp_iadd, pA_freeFrom_34, pA_freeFrom_35, stp_iinc, pA_freeFrom_38, stp_goto, pA_freeFrom_41, pA_freeFrom_42, ic_0, ic_m1, ic_1, nv_A_freeFrom, ml_A_freeFrom, s0, a1, h1]
    exact hQ
  | c + 1, r, y, l4, hr, hy, hQ => by
    obtain ⟨⟨s0, s1, s2, s3⟩, a1, a2, a3, a4, a5⟩ := id hA
    have h1 : ¬ nI (szA w k) < nI r := nI_nlt (by omega) (by omega)
    have ru := ruA_meets hA hy
    have hl1 : lvA_meets < n := hl
    simp only [ffA] at hQ
    refine wpn_ok (M := mA_freeFrom) (C := cenA) (X := (alk [(28, lvA_meets, fsA_meets)])) (tb := tA_freeFrom) (st := [4]) eoA (XOk_cons qmA_28 (okA_meets l G) XOk_nil) kA_freeFrom 60 _ _ _ _ _ _ ?_
    cases hf : fstN (mtA w k y) (szA w k) with
    | none =>
      rw [hf] at ru
      simp only [mtV] at ru
      have hf2 : fstN (fun i => ovN (mnA w k) (tkv w k i) y) (szA w k) = none := hf
      rw [hf2] at hQ
      simp only [reduceCtorEq, fv0, fv1, fv2, fv3, bI_0, bI_1, bft, MSh_sI_eq, fsP_T, inL_0, inL_s, pad_0, pad_n, pad_s, wpn_s, wp1_s, lg_0, lg_s, lset_0, lset_s, kil_0, kil_s, st1_s, st2_s, isL_i, isL_l, isL_r, isL_n, spl_0, spl_s, cll_n, cll_s, catS_0, catS_s, jmp_s, alk_0, alk_s, otl_n, otl_s, List.nil_append, List.cons_append, List.contains_cons, List.contains_nil, Nat.reduceBEq, Bool.or_false, Bool.false_or, Bool.or_self, Bool.false_eq_true, Bool.true_or, Bool.or_true, if_true, if_false, ite_true, ite_false, ↓reduceIte, List.length_cons, List.length_nil, Nat.reduceAdd, Nat.reduceLT, Nat.reduceLeDiff, Nat.reduceEqDiff, Int.reduceAdd, Int.reduceLE, Int.toNat_natCast, Int.reduceToNat, Int.cast_ofNat_Int, true_and, and_true, false_and, and_false, true_implies, forall_const, eq_self, and_self, or_true, true_or, or_self, false_or, or_false, yI_sI, yR_sI, yC_sI, yN_sI, yI_sR, yR_sR, yC_sR, yN_sR, not_true_eq_false, not_false_eq_true, false_implies, implies_true, Nat.zero_add, Nat.add_zero, Nat.le_refl, Nat.reduceSub, Int.reduceSub, Int.reduceLT, Int.sub_zero, Int.sub_self, List.getElem?_toArray, List.getElem?_cons_zero, List.getElem?_cons_succ, Int.toNat_zero, Int.toNat_one, Int.lt_irrefl, yI_sB, yR_sB, yC_sB, yN_sB, MSh_sB_eq, pA_freeFrom_0, stp_iload_n, pA_freeFrom_1, stp_istore_n, pA_freeFrom_2, stp_iconst, pA_freeFrom_3, pA_freeFrom_4, pA_freeFrom_5, stp_aload_n, pA_freeFrom_6, stp_getfield, qfA_15, rp_9_4, pA_freeFrom_9, stp_if_icmp_gt, pA_freeFrom_12, pA_freeFrom_13, pA_freeFrom_14, stp_invokevirtual, qmA_28, cy_A_meets, pA_freeFrom_17, stp_istore, pA_freeFrom_19, stp_iload, pA_freeFrom_21, pA_freeFrom_22, stp_if_icmp_ne, pA_freeFrom_25, pA_freeFrom_26, stp_ireturn, pA_freeFrom_27, pA_freeFrom_29, pA_freeFrom_30, qfA_25, rp_9_2, pA_freeFrom_33, stp_iadd, pA_freeFrom_34, pA_freeFrom_35, stp_iinc, pA_freeFrom_38, stp_goto, pA_freeFrom_41, pA_freeFrom_42, ic_0, ic_m1, ic_1, nv_A_freeFrom, ml_A_freeFrom, s0, a1, h1, ru, hl1]
      exact hQ
    | some i =>
      obtain ⟨f1, -⟩ := fstN_s hf
      obtain ⟨b1, b2⟩ := a5 i f1
      rw [hf] at ru
      simp only [mtV] at ru
      have hf2 : fstN (fun i => ovN (mnA w k) (tkv w k i) y) (szA w k) = some i := hf
      rw [hf2] at hQ
      have ih := lpA_freeFrom (x := x) hl hA c (r + 1) (tkv w k i + mnA w k) (some (.inl (nI (tkv w k i)))) (by omega) (by omega) hQ
      have nm : ¬ nI (tkv w k i) = -1 := nI_nm1 (by omega)
      simp only [reduceCtorEq, fv0, fv1, fv2, fv3, bI_0, bI_1, bft, MSh_sI_eq, fsP_T, inL_0, inL_s, pad_0, pad_n, pad_s, wpn_s, wp1_s, lg_0, lg_s, lset_0, lset_s, kil_0, kil_s, st1_s, st2_s, isL_i, isL_l, isL_r, isL_n, spl_0, spl_s, cll_n, cll_s, catS_0, catS_s, jmp_s, alk_0, alk_s, otl_n, otl_s, List.nil_append, List.cons_append, List.contains_cons, List.contains_nil, Nat.reduceBEq, Bool.or_false, Bool.false_or, Bool.or_self, Bool.false_eq_true, Bool.true_or, Bool.or_true, if_true, if_false, ite_true, ite_false, ↓reduceIte, List.length_cons, List.length_nil, Nat.reduceAdd, Nat.reduceLT, Nat.reduceLeDiff, Nat.reduceEqDiff, Int.reduceAdd, Int.reduceLE, Int.toNat_natCast, Int.reduceToNat, Int.cast_ofNat_Int, true_and, and_true, false_and, and_false, true_implies, forall_const, eq_self, and_self, or_true, true_or, or_self, false_or, or_false, yI_sI, yR_sI, yC_sI, yN_sI, yI_sR, yR_sR, yC_sR, yN_sR, not_true_eq_false, not_false_eq_true, false_implies, implies_true, Nat.zero_add, Nat.add_zero, Nat.le_refl, Nat.reduceSub, Int.reduceSub, Int.reduceLT, Int.sub_zero, Int.sub_self, List.getElem?_toArray, List.getElem?_cons_zero, List.getElem?_cons_succ, Int.toNat_zero, Int.toNat_one, Int.lt_irrefl, yI_sB, yR_sB, yC_sB, yN_sB, MSh_sB_eq, pA_freeFrom_0, stp_iload_n, pA_freeFrom_1, stp_istore_n, pA_freeFrom_2, stp_iconst, pA_freeFrom_3, pA_freeFrom_4, pA_freeFrom_5, stp_aload_n, pA_freeFrom_6, stp_getfield, qfA_15, rp_9_4, pA_freeFrom_9, stp_if_icmp_gt, pA_freeFrom_12, pA_freeFrom_13, pA_freeFrom_14, stp_invokevirtual, qmA_28, cy_A_meets, pA_freeFrom_17, stp_istore, pA_freeFrom_19, stp_iload, pA_freeFrom_21, pA_freeFrom_22, stp_if_icmp_ne, pA_freeFrom_25, pA_freeFrom_26, stp_ireturn, pA_freeFrom_27, pA_freeFrom_29, pA_freeFrom_30, qfA_25, rp_9_2, pA_freeFrom_33, stp_iadd, pA_freeFrom_34, pA_freeFrom_35, stp_iinc, pA_freeFrom_38, stp_goto, pA_freeFrom_41, pA_freeFrom_42, ic_0, ic_m1, ic_1, nv_A_freeFrom, ml_A_freeFrom, s0, a1, a3, h1, ru, nm, hl1, nI_add, nI_1]
      exact ih
end
abbrev lvA_freeFrom : Nat := 2
noncomputable def fsA_freeFrom : FS := fun as w => match as with
  | [.inr (.inr (some (9, k))), .inl y] => fsP (AlQ w k ∧ ∃ x, x < 2 ^ 30 ∧ y = nI x) (some (.inl (nI (ffA (tkv w k) (szA w k) (mnA w k) (szA w k + 1) y.toNatClampNeg))), w)
  | _ => none
set_option maxRecDepth 100000 in
set_option maxHeartbeats 4000000 in
theorem okA_freeFrom (l : Launch) (G : Gc) : FsOk l G mA_freeFrom lvA_freeFrom fsA_freeFrom := by
  intro as w r w' h
  simp only [fsA_freeFrom] at h
  split at h
  · rename_i k y
    obtain ⟨⟨hA, x, hx, hy⟩, h⟩ := fsP_s h
    cases h
    subst hy
    rw [nI_clamp (by omega)]
    refine Sem_of (by decide) rfl (Nat.le_of_ble_eq_true rfl) ?_
    refine wpn_ok (M := mA_freeFrom) (C := cenA) (X := (alk [])) (tb := tA_freeFrom) (st := [4]) eoA XOk_nil kA_freeFrom 60 _ _ _ _ _ _ ?_
    simp only [reduceCtorEq, fv0, fv1, fv2, fv3, bI_0, bI_1, bft, MSh_sI_eq, fsP_T, inL_0, inL_s, pad_0, pad_n, pad_s, wpn_s, wp1_s, lg_0, lg_s, lset_0, lset_s, kil_0, kil_s, st1_s, st2_s, isL_i, isL_l, isL_r, isL_n, spl_0, spl_s, cll_n, cll_s, catS_0, catS_s, jmp_s, alk_0, alk_s, otl_n, otl_s, List.nil_append, List.cons_append, List.contains_cons, List.contains_nil, Nat.reduceBEq, Bool.or_false, Bool.false_or, Bool.or_self, Bool.false_eq_true, Bool.true_or, Bool.or_true, if_true, if_false, ite_true, ite_false, ↓reduceIte, List.length_cons, List.length_nil, Nat.reduceAdd, Nat.reduceLT, Nat.reduceLeDiff, Nat.reduceEqDiff, Int.reduceAdd, Int.reduceLE, Int.toNat_natCast, Int.reduceToNat, Int.cast_ofNat_Int, true_and, and_true, false_and, and_false, true_implies, forall_const, eq_self, and_self, or_true, true_or, or_self, false_or, or_false, yI_sI, yR_sI, yC_sI, yN_sI, yI_sR, yR_sR, yC_sR, yN_sR, not_true_eq_false, not_false_eq_true, false_implies, implies_true, Nat.zero_add, Nat.add_zero, Nat.le_refl, Nat.reduceSub, Int.reduceSub, Int.reduceLT, Int.sub_zero, Int.sub_self, List.getElem?_toArray, List.getElem?_cons_zero, List.getElem?_cons_succ, Int.toNat_zero, Int.toNat_one, Int.lt_irrefl, yI_sB, yR_sB, yC_sB, yN_sB, MSh_sB_eq, pA_freeFrom_0, stp_iload_n, pA_freeFrom_1, stp_istore_n, pA_freeFrom_2, stp_iconst, pA_freeFrom_3, pA_freeFrom_4, pA_freeFrom_5, stp_aload_n, pA_freeFrom_6, stp_getfield, qfA_15, rp_9_4, pA_freeFrom_9, stp_if_icmp_gt, pA_freeFrom_12, pA_freeFrom_13, pA_freeFrom_14, stp_invokevirtual, qmA_28, cy_A_meets, pA_freeFrom_17, stp_istore, pA_freeFrom_19, stp_iload, pA_freeFrom_21, pA_freeFrom_22, stp_if_icmp_ne, pA_freeFrom_25, pA_freeFrom_26, stp_ireturn, pA_freeFrom_27, pA_freeFrom_29, pA_freeFrom_30, qfA_25, rp_9_2, pA_freeFrom_33, stp_iadd, pA_freeFrom_34, pA_freeFrom_35, stp_iinc, pA_freeFrom_38, stp_goto, pA_freeFrom_41, pA_freeFrom_42, ic_0, ic_m1, ic_1, nv_A_freeFrom, ml_A_freeFrom]
    exact lpA_freeFrom (by decide) hA (szA w k + 1) 0 x none (by omega) hx ⟨rfl, rfl⟩
  · cases h
theorem ruA_freeFrom {w : Wd} {k x : Nat} (hA : AlQ w k) (hx : x < 2 ^ 30) : fsA_freeFrom [.inr (.inr (some (9, k))), .inl (nI x)] w = some (some (.inl (nI (ffA (tkv w k) (szA w k) (mnA w k) (szA w k + 1) x))), w) := by
  have : fsA_freeFrom [.inr (.inr (some (9, k))), .inl (nI x)] w = fsP (AlQ w k ∧ ∃ z, z < 2 ^ 30 ∧ nI x = nI z) (some (.inl (nI (ffA (tkv w k) (szA w k) (mnA w k) (szA w k + 1) (nI x).toNatClampNeg))), w) := rfl
  rw [this, nI_clamp (by omega)]
  exact fsP_t ⟨hA, x, hx, rfl⟩
abbrev lvA_take : Nat := 1
noncomputable def fsA_take : FS := fun as w => match as with
  | [.inr (.inr (some (9, k))), .inl y] => fsP (AlS w k ∧ wI w 9 k 4 = nI (szA w k) ∧ szA w k < 24) (none, sI (sI w 186 k (szA w k) y) 9 k 4 (nI (szA w k + 1)))
  | _ => none
set_option maxRecDepth 100000 in
set_option maxHeartbeats 4000000 in
theorem okA_take (l : Launch) (G : Gc) : FsOk l G mA_take lvA_take fsA_take := by
  intro as w r w' h
  simp only [fsA_take] at h
  split at h
  · rename_i k y
    obtain ⟨⟨⟨s0, s1, s2, s3⟩, a1, a2⟩, h⟩ := fsP_s h
    cases h
    have h2 : ¬ Int32.ofNat 24 ≤ nI (szA w k) := nI_ge (b := 24) (by omega) (by omega)
    have v1 : vp_in (nI (szA w k)) 24 := vp_in_nI (by omega) (by omega)
    have c1 : (nI (szA w k)).toNatClampNeg = szA w k := nI_clamp (by omega)
    refine Sem_of (by decide) rfl (Nat.le_of_ble_eq_true rfl) ?_
    refine wpn_ok (M := mA_take) (C := cenA) (X := (alk [])) (tb := tA_take) (st := []) eoA XOk_nil kA_take 60 _ _ _ _ _ _ ?_
    simp only [reduceCtorEq, fv0, fv1, fv2, fv3, bI_0, bI_1, bft, MSh_sI_eq, fsP_T, inL_0, inL_s, pad_0, pad_n, pad_s, wpn_s, wp1_s, lg_0, lg_s, lset_0, lset_s, kil_0, kil_s, st1_s, st2_s, isL_i, isL_l, isL_r, isL_n, spl_0, spl_s, cll_n, cll_s, catS_0, catS_s, jmp_s, alk_0, alk_s, otl_n, otl_s, List.nil_append, List.cons_append, List.contains_cons, List.contains_nil, Nat.reduceBEq, Bool.or_false, Bool.false_or, Bool.or_self, Bool.false_eq_true, Bool.true_or, Bool.or_true, if_true, if_false, ite_true, ite_false, ↓reduceIte, List.length_cons, List.length_nil, Nat.reduceAdd, Nat.reduceLT, Nat.reduceLeDiff, Nat.reduceEqDiff, Int.reduceAdd, Int.reduceLE, Int.toNat_natCast, Int.reduceToNat, Int.cast_ofNat_Int, true_and, and_true, false_and, and_false, true_implies, forall_const, eq_self, and_self, or_true, true_or, or_self, false_or, or_false, yI_sI, yR_sI, yC_sI, yN_sI, yI_sR, yR_sR, yC_sR, yN_sR, not_true_eq_false, not_false_eq_true, false_implies, implies_true, Nat.zero_add, Nat.add_zero, Nat.le_refl, Nat.reduceSub, Int.reduceSub, Int.reduceLT, Int.sub_zero, Int.sub_self, List.getElem?_toArray, List.getElem?_cons_zero, List.getElem?_cons_succ, Int.toNat_zero, Int.toNat_one, Int.lt_irrefl, yI_sB, yR_sB, yC_sB, yN_sB, MSh_sB_eq, pA_take_0, stp_aload_n, pA_take_1, stp_getfield, qfA_15, rp_9_4, pA_take_4, pA_take_5, qfA_9, rp_9_3, pA_take_8, stp_arraylength, pA_take_9, stp_if_icmp_ge, pA_take_12, pA_take_13, pA_take_16, pA_take_17, pA_take_20, stp_iload_n, pA_take_21, stp_iastore, pA_take_22, pA_take_23, stp_dup, pA_take_24, pA_take_27, stp_iconst, pA_take_28, stp_iadd, pA_take_29, stp_putfield, fi_9_4, nr_9_4, pA_take_32, stp_return_, ic_1, nv_A_take, ml_A_take, s0, s1, s2, s3, a1, h2, v1, c1, nI_1]
  · cases h
theorem ruA_take {w : Wd} {k : Nat} {y : Int32} (h1 : AlS w k) (h2 : wI w 9 k 4 = nI (szA w k)) (h3 : szA w k < 24) : fsA_take [.inr (.inr (some (9, k))), .inl y] w = some (none, sI (sI w 186 k (szA w k) y) 9 k 4 (nI (szA w k + 1))) := fsP_t ⟨h1, h2, h3⟩
abbrev lvA_giveBack : Nat := 1
noncomputable def fsA_giveBack : FS := fun as w => match as with
  | [.inr (.inr (some (9, k)))] => fsP (k < wC w 9 ∧ wI w 9 k 4 = nI (szA w k) ∧ 0 < szA w k ∧ szA w k ≤ 24) (none, sI w 9 k 4 (nI (szA w k - 1)))
  | _ => none
set_option maxRecDepth 100000 in
set_option maxHeartbeats 4000000 in
theorem okA_giveBack (l : Launch) (G : Gc) : FsOk l G mA_giveBack lvA_giveBack fsA_giveBack := by
  intro as w r w' h
  simp only [fsA_giveBack] at h
  split at h
  · rename_i k
    obtain ⟨⟨s0, a1, a2, a3⟩, h⟩ := fsP_s h
    cases h
    have h2 : ¬ nI (szA w k) ≤ 0 := nI_nle a2 (by omega)
    have e : nI (szA w k) - 1 = nI (szA w k - 1) := by
      obtain ⟨q, hq⟩ : ∃ q, szA w k = q + 1 := ⟨szA w k - 1, by omega⟩
      rw [hq, nI_pred]; rfl
    refine Sem_of (by decide) rfl (Nat.le_of_ble_eq_true rfl) ?_
    refine wpn_ok (M := mA_giveBack) (C := cenA) (X := (alk [])) (tb := tA_giveBack) (st := []) eoA XOk_nil kA_giveBack 60 _ _ _ _ _ _ ?_
    simp only [reduceCtorEq, fv0, fv1, fv2, fv3, bI_0, bI_1, bft, MSh_sI_eq, fsP_T, inL_0, inL_s, pad_0, pad_n, pad_s, wpn_s, wp1_s, lg_0, lg_s, lset_0, lset_s, kil_0, kil_s, st1_s, st2_s, isL_i, isL_l, isL_r, isL_n, spl_0, spl_s, cll_n, cll_s, catS_0, catS_s, jmp_s, alk_0, alk_s, otl_n, otl_s, List.nil_append, List.cons_append, List.contains_cons, List.contains_nil, Nat.reduceBEq, Bool.or_false, Bool.false_or, Bool.or_self, Bool.false_eq_true, Bool.true_or, Bool.or_true, if_true, if_false, ite_true, ite_false, ↓reduceIte, List.length_cons, List.length_nil, Nat.reduceAdd, Nat.reduceLT, Nat.reduceLeDiff, Nat.reduceEqDiff, Int.reduceAdd, Int.reduceLE, Int.toNat_natCast, Int.reduceToNat, Int.cast_ofNat_Int, true_and, and_true, false_and, and_false, true_implies, forall_const, eq_self, and_self, or_true, true_or, or_self, false_or, or_false, yI_sI, yR_sI, yC_sI, yN_sI, yI_sR, yR_sR, yC_sR, yN_sR, not_true_eq_false, not_false_eq_true, false_implies, implies_true, Nat.zero_add, Nat.add_zero, Nat.le_refl, Nat.reduceSub, Int.reduceSub, Int.reduceLT, Int.sub_zero, Int.sub_self, List.getElem?_toArray, List.getElem?_cons_zero, List.getElem?_cons_succ, Int.toNat_zero, Int.toNat_one, Int.lt_irrefl, yI_sB, yR_sB, yC_sB, yN_sB, MSh_sB_eq, pA_giveBack_0, stp_aload_n, pA_giveBack_1, stp_getfield, qfA_15, rp_9_4, pA_giveBack_4, stp_ifCond_le, pA_giveBack_7, pA_giveBack_8, stp_dup, pA_giveBack_9, pA_giveBack_12, stp_iconst, pA_giveBack_13, stp_isub, pA_giveBack_14, stp_putfield, fi_9_4, nr_9_4, pA_giveBack_17, stp_return_, ic_1, nv_A_giveBack, ml_A_giveBack, s0, a1, h2, e]
  · cases h
theorem ruA_giveBack {w : Wd} {k : Nat} (h1 : k < wC w 9) (h2 : wI w 9 k 4 = nI (szA w k)) (h3 : 0 < szA w k) (h4 : szA w k ≤ 24) : fsA_giveBack [.inr (.inr (some (9, k)))] w = some (none, sI w 9 k 4 (nI (szA w k - 1))) := fsP_t ⟨h1, h2, h3, h4⟩
