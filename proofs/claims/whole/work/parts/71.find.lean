/-! ways in the yard of the class -/
def CpA (w : Wd) : Prop := LiS w 0 (cn w 6) (fun k => (9, k)) ∧ ∀ k, k < cn w 6 → AlS w k ∧ wI w 9 k 0 = wI w 107 0 k ∧ wI w 9 k 1 = wI w 108 0 k ∧ wI w 9 k 2 = wI w 109 0 k
def CpD (w : Wd) : Prop := wkOk w ∧ ∀ i j, i < cn w 3 → j < cn w 3 → wI w 173 i j = nI (dsM w i j)
/-- the yards side by side -/
def Cpy (w : Wd) : Prop := SSh w ∧ Cp0 w ∧ CpA w ∧ CpD w
theorem Cpy_al {w : Wd} {k : Nat} (h : Cpy w) (hk : k < cn w 6) : AlS w k ∧ wI w 9 k 0 = nI (gfA (grf w) k) ∧ wI w 9 k 1 = nI (gfB (grf w) k) ∧ wI w 9 k 2 = nI (gfT (grf w) k) := by
  obtain ⟨a1, a2, a3, a4⟩ := h.2.2.1.2 k hk
  obtain ⟨b1, b2, b3⟩ := h.2.2.2.1.2.2.2.1 k hk
  exact ⟨a1, a2.trans b1, a3.trans b2, a4.trans b3⟩
abbrev lvY_minutesBetween : Nat := 2
noncomputable def fsY_minutesBetween : FS := fun as w => match as with
  | [.inr (.inr (some (1, 0))), .inl x, .inl y] => fsP (Cpy w ∧ inR x 0 (wI w 13 0 3 - 1) = true ∧ inR y 0 (wI w 13 0 3 - 1) = true) (some (.inl (nI (dsM w x.toNatClampNeg y.toNatClampNeg))), w)
  | _ => none
set_option maxRecDepth 100000 in
set_option maxHeartbeats 4000000 in
theorem okY_minutesBetween (l : Launch) (G : Gc) : FsOk l G mY_minutesBetween lvY_minutesBetween fsY_minutesBetween := by
  intro as w r w' h
  simp only [fsY_minutesBetween] at h
  split at h
  · rename_i x y
    obtain ⟨⟨hC, hx, hy⟩, h⟩ := fsP_s h
    cases h
    obtain ⟨hS, hc, hA, hD⟩ := id hC
    have h3 := hD.1.2.1
    have h14 := h3.2
    have r1 := ruY_hasPlace (p := x) hS h3 hc
    have r2 := ruY_hasPlace (p := y) hS h3 hc
    rw [hx] at r1
    rw [hy] at r2
    obtain ⟨a, ha, rfl⟩ := okc_in h3 (by omega) hx
    obtain ⟨b, hb, rfl⟩ := okc_in h3 (by omega) hy
    have ca : (nI a).toNatClampNeg = a := nI_clamp (by omega)
    have cb : (nI b).toNatClampNeg = b := nI_clamp (by omega)
    have va : vp_in (nI a) 14 := vp_in_nI (by omega) (by omega)
    have vb : vp_in (nI b) 14 := vp_in_nI (by omega) (by omega)
    have e := hD.2 a b ha hb
    have sm := ss_M hS (show a < 14 by omega)
    have sk := ss_K173 hS (show a < 14 by omega)
    refine Sem_of (by decide) rfl (Nat.le_of_ble_eq_true rfl) ?_
    refine wpn_ok (M := mY_minutesBetween) (C := cenY) (X := (alk [(34, lvY_hasPlace, fsY_hasPlace)])) (tb := tY_minutesBetween) (st := []) eoY (XOk_cons qmY_34 (okY_hasPlace l G) XOk_nil) kY_minutesBetween 60 _ _ _ _ _ _ ?_
    simp only [reduceCtorEq, fv0, fv1, fv2, fv3, bI_0, bI_1, bft, MSh_sI_eq, fsP_T, inL_0, inL_s, pad_0, pad_n, pad_s, wpn_s, wp1_s, lg_0, lg_s, lset_0, lset_s, kil_0, kil_s, st1_s, st2_s, isL_i, isL_l, isL_r, isL_n, spl_0, spl_s, cll_n, cll_s, catS_0, catS_s, jmp_s, alk_0, alk_s, otl_n, otl_s, List.nil_append, List.cons_append, List.contains_cons, List.contains_nil, Nat.reduceBEq, Bool.or_false, Bool.false_or, Bool.or_self, Bool.false_eq_true, Bool.true_or, Bool.or_true, if_true, if_false, ite_true, ite_false, ↓reduceIte, List.length_cons, List.length_nil, Nat.reduceAdd, Nat.reduceLT, Nat.reduceLeDiff, Nat.reduceEqDiff, Int.reduceAdd, Int.reduceLE, Int.toNat_natCast, Int.reduceToNat, Int.cast_ofNat_Int, true_and, and_true, false_and, and_false, true_implies, forall_const, eq_self, and_self, or_true, true_or, or_self, false_or, or_false, yI_sI, yR_sI, yC_sI, yN_sI, yI_sR, yR_sR, yC_sR, yN_sR, not_true_eq_false, not_false_eq_true, false_implies, implies_true, Nat.zero_add, Nat.add_zero, Nat.le_refl, Nat.reduceSub, Int.reduceSub, Int.reduceLT, Int.sub_zero, Int.sub_self, List.getElem?_toArray, List.getElem?_cons_zero, List.getElem?_cons_succ, Int.toNat_zero, Int.toNat_one, Int.lt_irrefl, yI_sB, yR_sB, yC_sB, yN_sB, MSh_sB_eq, pY_minutesBetween_0, stp_aload_n, pY_minutesBetween_1, stp_iload_n, pY_minutesBetween_2, stp_invokevirtual, qmY_34, cy_Y_hasPlace, ss_C1 hS, pY_minutesBetween_5, stp_ifCond_eq, pY_minutesBetween_8, pY_minutesBetween_9, pY_minutesBetween_10, pY_minutesBetween_13, pY_minutesBetween_16, pY_minutesBetween_17, stp_getfield, qfY_27, rp_1_3, ss_R1_3 hS, ss_C302 hS, ss_N302 hS, pY_minutesBetween_20, pY_minutesBetween_21, stp_aaload, pY_minutesBetween_22, pY_minutesBetween_23, stp_iaload, pY_minutesBetween_24, stp_goto, pY_minutesBetween_27, stp_ldc, qkY_38, pY_minutesBetween_29, stp_ireturn, nv_Y_minutesBetween, ml_Y_minutesBetween, r1, r2, ca, cb, va, vb, sm, sk, ss_C173 hS, show a < 14 by omega, e, lvY_minutesBetween, lvY_hasPlace]
  · cases h
theorem ruY_minutesBetween {w : Wd} {a b : Nat} (h : Cpy w) (ha : a < cn w 3) (hb : b < cn w 3) : fsY_minutesBetween [.inr (.inr (some (1, 0))), .inl (nI a), .inl (nI b)] w = some (some (.inl (nI (dsM w a b))), w) := by
  have h3 := h.2.2.2.1.2.1
  have h14 := h3.2
  have : fsY_minutesBetween [.inr (.inr (some (1, 0))), .inl (nI a), .inl (nI b)] w = fsP (Cpy w ∧ inR (nI a) 0 (wI w 13 0 3 - 1) = true ∧ inR (nI b) 0 (wI w 13 0 3 - 1) = true) (some (.inl (nI (dsM w (nI a).toNatClampNeg (nI b).toNatClampNeg))), w) := rfl
  rw [this, nI_clamp (by omega), nI_clamp (by omega)]
  exact fsP_t ⟨h, okc_inR h3 (by omega) ha, okc_inR h3 (by omega) hb⟩
theorem ruA_touches {w : Wd} {k p : Nat} (h : Cpy w) (hk : k < cn w 6) (hp : p < cn w 3) : fsA_touches [.inr (.inr (some (9, k))), .inl (nI p)] w = some (some (.inl (bI (tcB (grf w) k p))), w) := by
  obtain ⟨a1, a2, a3, a4⟩ := Cpy_al h hk
  obtain ⟨g1, g2, -⟩ := h.2.2.2.1.2.2.2.2.1 k hk
  have h14 := h.2.2.2.1.2.1.2
  have e1 : (nI (gfA (grf w) k) = nI p) = (gfA (grf w) k = p) := propext (nI_eq (by omega) (by omega))
  have e2 : (nI (gfB (grf w) k) = nI p) = (gfB (grf w) k = p) := propext (nI_eq (by omega) (by omega))
  have : fsA_touches [.inr (.inr (some (9, k))), .inl (nI p)] w = fsP (k < wC w 9) (some (.inl (bI (decide (wI w 9 k 0 = nI p) || decide (wI w 9 k 1 = nI p)))), w) := rfl
  rw [this, a2, a3]
  simp only [e1, e2]
  exact fsP_t a1.1
theorem ruA_otherEnd {w : Wd} {k p : Nat} (h : Cpy w) (hk : k < cn w 6) (hp : p < cn w 3) : fsA_otherEnd [.inr (.inr (some (9, k))), .inl (nI p)] w = some (some (.inl (nI (otN (grf w) k p))), w) := by
  obtain ⟨a1, a2, a3, a4⟩ := Cpy_al h hk
  obtain ⟨g1, g2, -⟩ := h.2.2.2.1.2.2.2.2.1 k hk
  have h14 := h.2.2.2.1.2.1.2
  have e1 : (nI (gfA (grf w) k) = nI p) = (gfA (grf w) k = p) := propext (nI_eq (by omega) (by omega))
  have : fsA_otherEnd [.inr (.inr (some (9, k))), .inl (nI p)] w = fsP (k < wC w 9) (some (.inl (if wI w 9 k 0 = nI p then wI w 9 k 1 else wI w 9 k 0)), w) := rfl
  rw [this, a2, a3]
  simp only [e1, otN]
  rw [fsP_t a1.1]
  by_cases c : gfA (grf w) k = p <;> simp [c]
section
variable {l : Launch} {G : Gc} {n : Nat} {Q : Option AV → Wd → Prop} {w : Wd}
set_option maxRecDepth 100000 in
set_option maxHeartbeats 4000000 in
theorem stY_least {p b k : Nat} {l5 : Option AV} (hl : 3 < n) (hC : Cpy w) (hp : p < cn w 3) (hb : b < cn w 3) (hk : k < cn w 6) (hQ : nxF (grf w) (dsM w) b p k = true → Q (some (.inl (nI k))) w) (ih : nxF (grf w) (dsM w) b p k = false → ∀ l5, WP l G mY_leastAlleyToward n 0 0 Q 10 [some (.inr (.inr (some (1, 0)))), some (.inl (nI p)), some (.inl (nI b)), some (.inl (nI (dsM w p b))), some (.inl (nI (k + 1))), l5] [] w 0 0) : WP l G mY_leastAlleyToward n 0 0 Q 10 [some (.inr (.inr (some (1, 0)))), some (.inl (nI p)), some (.inl (nI b)), some (.inl (nI (dsM w p b))), some (.inl (nI k)), l5] [] w 0 0 := by
  obtain ⟨hS, hc, hA, hD⟩ := id hC
  have h20 := hD.1.2.2.1.2
  have hM : Mtr (grf w) (cn w 3) (dsM w) := dst_ok hD.1.2.2.2.2.2
  have rs := ruL_size hA.1
  have rg : fsL_get [.inr (.inr (some (2, 0))), .inl (nI k)] w = some (some (.inr (.inr (some (9, k)))), w) := ruL_get hA.1 hk
  have rt := ruA_touches hC hk hp
  have ro := ruA_otherEnd hC hk hp
  have go := otN_lt (p := p) hD.1.2.2.2.2.1 hk
  have rm := ruY_minutesBetween hC go hb
  obtain ⟨a1, a2, a3, a4⟩ := Cpy_al hC hk
  obtain ⟨-, -, -, t1, t2⟩ := hD.1.2.2.2.2.1 k hk
  have d1 := hM.2.1 _ _ go hb
  have d2 := hM.2.1 _ _ hp hb
  have h1 : ¬ nI (cn w 6) ≤ nI k := nI_ge hk (by omega)
  have hl1 : lvL_size < n := by show 1 < n; omega
  have hl2 : lvL_get < n := hl
  have hl3 : lvA_touches < n := by show 1 < n; omega
  have hl4 : lvA_otherEnd < n := by show 1 < n; omega
  have hl5 : lvY_minutesBetween < n := by show 2 < n; omega
  have e1 : (nI (gfT (grf w) k + dsM w (otN (grf w) k p) b) = nI (dsM w p b)) = (dsM w (otN (grf w) k p) b + gfT (grf w) k = dsM w p b) := by
    rw [Nat.add_comm]; exact propext (nI_eq (by omega) (by omega))
  refine wpn_ok (M := mY_leastAlleyToward) (C := cenY) (X := (alk [(57, lvL_size, fsL_size), (69, lvL_get, fsL_get), (82, lvA_touches, fsA_touches), (78, lvA_otherEnd, fsA_otherEnd), (48, lvY_minutesBetween, fsY_minutesBetween)])) (tb := tY_leastAlleyToward) (st := [10]) eoY (XOk_cons qmY_57 (okL_size l G) (XOk_cons qmY_69 (okL_get l G) (XOk_cons qmY_82 (okA_touches l G) (XOk_cons qmY_78 (okA_otherEnd l G) (XOk_cons qmY_48 (okY_minutesBetween l G) XOk_nil))))) kY_leastAlleyToward 60 _ _ _ _ _ _ ?_
  cases q1 : tcB (grf w) k p
  · have := ih (by simp [nxF, q1]) (some (.inr (.inr (some (9, k)))))
    simp only [reduceCtorEq, fv0, fv1, fv2, fv3, bI_0, bI_1, bft, MSh_sI_eq, fsP_T, inL_0, inL_s, pad_0, pad_n, pad_s, wpn_s, wp1_s, lg_0, lg_s, lset_0, lset_s, kil_0, kil_s, st1_s, st2_s, isL_i, isL_l, isL_r, isL_n, spl_0, spl_s, cll_n, cll_s, catS_0, catS_s, jmp_s, alk_0, alk_s, otl_n, otl_s, List.nil_append, List.cons_append, List.contains_cons, List.contains_nil, Nat.reduceBEq, Bool.or_false, Bool.false_or, Bool.or_self, Bool.false_eq_true, Bool.true_or, Bool.or_true, if_true, if_false, ite_true, ite_false, ↓reduceIte, List.length_cons, List.length_nil, Nat.reduceAdd, Nat.reduceLT, Nat.reduceLeDiff, Nat.reduceEqDiff, Int.reduceAdd, Int.reduceLE, Int.toNat_natCast, Int.reduceToNat, Int.cast_ofNat_Int, true_and, and_true, false_and, and_false, true_implies, forall_const, eq_self, and_self, or_true, true_or, or_self, false_or, or_false, yI_sI, yR_sI, yC_sI, yN_sI, yI_sR, yR_sR, yC_sR, yN_sR, not_true_eq_false, not_false_eq_true, false_implies, implies_true, Nat.zero_add, Nat.add_zero, Nat.le_refl, Nat.reduceSub, Int.reduceSub, Int.reduceLT, Int.sub_zero, Int.sub_self, List.getElem?_toArray, List.getElem?_cons_zero, List.getElem?_cons_succ, Int.toNat_zero, Int.toNat_one, Int.lt_irrefl, yI_sB, yR_sB, yC_sB, yN_sB, MSh_sB_eq, pY_leastAlleyToward_0, stp_aload_n, pY_leastAlleyToward_1, stp_iload_n, pY_leastAlleyToward_2, pY_leastAlleyToward_3, stp_invokevirtual, qmY_48, cy_Y_minutesBetween, ss_C1 hS, pY_leastAlleyToward_6, stp_istore_n, pY_leastAlleyToward_7, stp_iconst, pY_leastAlleyToward_8, stp_istore, pY_leastAlleyToward_10, stp_iload, pY_leastAlleyToward_12, pY_leastAlleyToward_13, stp_getfield, qfY_12, rp_1_0, ss_R1_0 hS, ss_C2 hS, pY_leastAlleyToward_16, qmY_57, cy_L_size, pY_leastAlleyToward_19, stp_if_icmp_ge, pY_leastAlleyToward_22, pY_leastAlleyToward_23, pY_leastAlleyToward_26, pY_leastAlleyToward_28, qmY_69, cy_L_get, pY_leastAlleyToward_31, stp_checkcast, qtY_39, pY_leastAlleyToward_34, stp_astore, pY_leastAlleyToward_36, stp_aload, pY_leastAlleyToward_38, pY_leastAlleyToward_39, qmY_82, cy_A_touches, pY_leastAlleyToward_42, stp_ifCond_eq, pY_leastAlleyToward_45, pY_leastAlleyToward_47, qfY_73, rp_9_2, pY_leastAlleyToward_50, pY_leastAlleyToward_51, pY_leastAlleyToward_53, pY_leastAlleyToward_54, qmY_78, cy_A_otherEnd, pY_leastAlleyToward_57, pY_leastAlleyToward_58, pY_leastAlleyToward_61, stp_iadd, pY_leastAlleyToward_62, pY_leastAlleyToward_63, stp_if_icmp_ne, pY_leastAlleyToward_66, pY_leastAlleyToward_68, stp_ireturn, pY_leastAlleyToward_69, stp_iinc, pY_leastAlleyToward_72, stp_goto, pY_leastAlleyToward_75, pY_leastAlleyToward_76, ic_0, ic_1, ic_m1, nv_Y_leastAlleyToward, ml_Y_leastAlleyToward, rs, rg, rt, q1, a1.1, h1, hl1, hl2, hl3, nI_1]
    exact this
  · by_cases q2 : dsM w (otN (grf w) k p) b + gfT (grf w) k = dsM w p b
    · have := hQ (by simp [nxF, q1, q2])
      simp only [reduceCtorEq, fv0, fv1, fv2, fv3, bI_0, bI_1, bft, MSh_sI_eq, fsP_T, inL_0, inL_s, pad_0, pad_n, pad_s, wpn_s, wp1_s, lg_0, lg_s, lset_0, lset_s, kil_0, kil_s, st1_s, st2_s, isL_i, isL_l, isL_r, isL_n, spl_0, spl_s, cll_n, cll_s, catS_0, catS_s, jmp_s, alk_0, alk_s, otl_n, otl_s, List.nil_append, List.cons_append, List.contains_cons, List.contains_nil, Nat.reduceBEq, Bool.or_false, Bool.false_or, Bool.or_self, Bool.false_eq_true, Bool.true_or, Bool.or_true, if_true, if_false, ite_true, ite_false, ↓reduceIte, List.length_cons, List.length_nil, Nat.reduceAdd, Nat.reduceLT, Nat.reduceLeDiff, Nat.reduceEqDiff, Int.reduceAdd, Int.reduceLE, Int.toNat_natCast, Int.reduceToNat, Int.cast_ofNat_Int, true_and, and_true, false_and, and_false, true_implies, forall_const, eq_self, and_self, or_true, true_or, or_self, false_or, or_false, yI_sI, yR_sI, yC_sI, yN_sI, yI_sR, yR_sR, yC_sR, yN_sR, not_true_eq_false, not_false_eq_true, false_implies, implies_true, Nat.zero_add, Nat.add_zero, Nat.le_refl, Nat.reduceSub, Int.reduceSub, Int.reduceLT, Int.sub_zero, Int.sub_self, List.getElem?_toArray, List.getElem?_cons_zero, List.getElem?_cons_succ, Int.toNat_zero, Int.toNat_one, Int.lt_irrefl, yI_sB, yR_sB, yC_sB, yN_sB, MSh_sB_eq, pY_leastAlleyToward_0, stp_aload_n, pY_leastAlleyToward_1, stp_iload_n, pY_leastAlleyToward_2, pY_leastAlleyToward_3, stp_invokevirtual, qmY_48, cy_Y_minutesBetween, ss_C1 hS, pY_leastAlleyToward_6, stp_istore_n, pY_leastAlleyToward_7, stp_iconst, pY_leastAlleyToward_8, stp_istore, pY_leastAlleyToward_10, stp_iload, pY_leastAlleyToward_12, pY_leastAlleyToward_13, stp_getfield, qfY_12, rp_1_0, ss_R1_0 hS, ss_C2 hS, pY_leastAlleyToward_16, qmY_57, cy_L_size, pY_leastAlleyToward_19, stp_if_icmp_ge, pY_leastAlleyToward_22, pY_leastAlleyToward_23, pY_leastAlleyToward_26, pY_leastAlleyToward_28, qmY_69, cy_L_get, pY_leastAlleyToward_31, stp_checkcast, qtY_39, pY_leastAlleyToward_34, stp_astore, pY_leastAlleyToward_36, stp_aload, pY_leastAlleyToward_38, pY_leastAlleyToward_39, qmY_82, cy_A_touches, pY_leastAlleyToward_42, stp_ifCond_eq, pY_leastAlleyToward_45, pY_leastAlleyToward_47, qfY_73, rp_9_2, pY_leastAlleyToward_50, pY_leastAlleyToward_51, pY_leastAlleyToward_53, pY_leastAlleyToward_54, qmY_78, cy_A_otherEnd, pY_leastAlleyToward_57, pY_leastAlleyToward_58, pY_leastAlleyToward_61, stp_iadd, pY_leastAlleyToward_62, pY_leastAlleyToward_63, stp_if_icmp_ne, pY_leastAlleyToward_66, pY_leastAlleyToward_68, stp_ireturn, pY_leastAlleyToward_69, stp_iinc, pY_leastAlleyToward_72, stp_goto, pY_leastAlleyToward_75, pY_leastAlleyToward_76, ic_0, ic_1, ic_m1, nv_Y_leastAlleyToward, ml_Y_leastAlleyToward, rs, rg, rt, ro, rm, q1, a1.1, a4, h1, hl1, hl2, hl3, hl4, hl5, nI_add, e1, q2]
      exact this
    · have := ih (by simp [nxF, q2]) (some (.inr (.inr (some (9, k)))))
      simp only [reduceCtorEq, fv0, fv1, fv2, fv3, bI_0, bI_1, bft, MSh_sI_eq, fsP_T, inL_0, inL_s, pad_0, pad_n, pad_s, wpn_s, wp1_s, lg_0, lg_s, lset_0, lset_s, kil_0, kil_s, st1_s, st2_s, isL_i, isL_l, isL_r, isL_n, spl_0, spl_s, cll_n, cll_s, catS_0, catS_s, jmp_s, alk_0, alk_s, otl_n, otl_s, List.nil_append, List.cons_append, List.contains_cons, List.contains_nil, Nat.reduceBEq, Bool.or_false, Bool.false_or, Bool.or_self, Bool.false_eq_true, Bool.true_or, Bool.or_true, if_true, if_false, ite_true, ite_false, ↓reduceIte, List.length_cons, List.length_nil, Nat.reduceAdd, Nat.reduceLT, Nat.reduceLeDiff, Nat.reduceEqDiff, Int.reduceAdd, Int.reduceLE, Int.toNat_natCast, Int.reduceToNat, Int.cast_ofNat_Int, true_and, and_true, false_and, and_false, true_implies, forall_const, eq_self, and_self, or_true, true_or, or_self, false_or, or_false, yI_sI, yR_sI, yC_sI, yN_sI, yI_sR, yR_sR, yC_sR, yN_sR, not_true_eq_false, not_false_eq_true, false_implies, implies_true, Nat.zero_add, Nat.add_zero, Nat.le_refl, Nat.reduceSub, Int.reduceSub, Int.reduceLT, Int.sub_zero, Int.sub_self, List.getElem?_toArray, List.getElem?_cons_zero, List.getElem?_cons_succ, Int.toNat_zero, Int.toNat_one, Int.lt_irrefl, yI_sB, yR_sB, yC_sB, yN_sB, MSh_sB_eq, pY_leastAlleyToward_0, stp_aload_n, pY_leastAlleyToward_1, stp_iload_n, pY_leastAlleyToward_2, pY_leastAlleyToward_3, stp_invokevirtual, qmY_48, cy_Y_minutesBetween, ss_C1 hS, pY_leastAlleyToward_6, stp_istore_n, pY_leastAlleyToward_7, stp_iconst, pY_leastAlleyToward_8, stp_istore, pY_leastAlleyToward_10, stp_iload, pY_leastAlleyToward_12, pY_leastAlleyToward_13, stp_getfield, qfY_12, rp_1_0, ss_R1_0 hS, ss_C2 hS, pY_leastAlleyToward_16, qmY_57, cy_L_size, pY_leastAlleyToward_19, stp_if_icmp_ge, pY_leastAlleyToward_22, pY_leastAlleyToward_23, pY_leastAlleyToward_26, pY_leastAlleyToward_28, qmY_69, cy_L_get, pY_leastAlleyToward_31, stp_checkcast, qtY_39, pY_leastAlleyToward_34, stp_astore, pY_leastAlleyToward_36, stp_aload, pY_leastAlleyToward_38, pY_leastAlleyToward_39, qmY_82, cy_A_touches, pY_leastAlleyToward_42, stp_ifCond_eq, pY_leastAlleyToward_45, pY_leastAlleyToward_47, qfY_73, rp_9_2, pY_leastAlleyToward_50, pY_leastAlleyToward_51, pY_leastAlleyToward_53, pY_leastAlleyToward_54, qmY_78, cy_A_otherEnd, pY_leastAlleyToward_57, pY_leastAlleyToward_58, pY_leastAlleyToward_61, stp_iadd, pY_leastAlleyToward_62, pY_leastAlleyToward_63, stp_if_icmp_ne, pY_leastAlleyToward_66, pY_leastAlleyToward_68, stp_ireturn, pY_leastAlleyToward_69, stp_iinc, pY_leastAlleyToward_72, stp_goto, pY_leastAlleyToward_75, pY_leastAlleyToward_76, ic_0, ic_1, ic_m1, nv_Y_leastAlleyToward, ml_Y_leastAlleyToward, rs, rg, rt, ro, rm, q1, a1.1, a4, h1, hl1, hl2, hl3, hl4, hl5, nI_add, e1, q2, nI_1]
      exact this
set_option maxRecDepth 100000 in
set_option maxHeartbeats 4000000 in
theorem lpY_least {p b : Nat} (hl : 3 < n) (hC : Cpy w) (hp : p < cn w 3) (hb : b < cn w 3) (hQ : Q (some (.inl (oI (fstN (nxF (grf w) (dsM w) b p) (cn w 6))))) w) : ∀ c k l5, k + c = cn w 6 → fstN (nxF (grf w) (dsM w) b p) k = none → WP l G mY_leastAlleyToward n 0 0 Q 10 [some (.inr (.inr (some (1, 0)))), some (.inl (nI p)), some (.inl (nI b)), some (.inl (nI (dsM w p b))), some (.inl (nI k)), l5] [] w 0 0
  | 0, k, l5, hk, hf => by
    have e : k = cn w 6 := hk
    subst e
    have hS := hC.1
    have rs := ruL_size hC.2.2.1.1
    have hl1 : lvL_size < n := by show 1 < n; omega
    rw [hf] at hQ
    refine wpn_ok (M := mY_leastAlleyToward) (C := cenY) (X := (alk [(57, lvL_size, fsL_size)])) (tb := tY_leastAlleyToward) (st := [10]) eoY (XOk_cons qmY_57 (okL_size l G) XOk_nil) kY_leastAlleyToward 60 _ _ _ _ _ _ ?_
    simp only [reduceCtorEq, fv0, fv1, fv2, fv3, bI_0, bI_1, bft, MSh_sI_eq, fsP_T, inL_0, inL_s, pad_0, pad_n, pad_s, wpn_s, wp1_s, lg_0, lg_s, lset_0, lset_s, kil_0, kil_s, st1_s, st2_s, isL_i, isL_l, isL_r, isL_n, spl_0, spl_s, cll_n, cll_s, catS_0, catS_s, jmp_s, alk_0, alk_s, otl_n, otl_s, List.nil_append, List.cons_append, List.contains_cons, List.contains_nil, Nat.reduceBEq, Bool.or_false, Bool.false_or, Bool.or_self, Bool.false_eq_true, Bool.true_or, Bool.or_true, if_true, if_false, ite_true, ite_false, ↓reduceIte, List.length_cons, List.length_nil, Nat.reduceAdd, Nat.reduceLT, Nat.reduceLeDiff, Nat.reduceEqDiff, Int.reduceAdd, Int.reduceLE, Int.toNat_natCast, Int.reduceToNat, Int.cast_ofNat_Int, true_and, and_true, false_and, and_false, true_implies, forall_const, eq_self, and_self, or_true, true_or, or_self, false_or, or_false, yI_sI, yR_sI, yC_sI, yN_sI, yI_sR, yR_sR, yC_sR, yN_sR, not_true_eq_false, not_false_eq_true, false_implies, implies_true, Nat.zero_add, Nat.add_zero, Nat.le_refl, Nat.reduceSub, Int.reduceSub, Int.reduceLT, Int.sub_zero, Int.sub_self, List.getElem?_toArray, List.getElem?_cons_zero, List.getElem?_cons_succ, Int.toNat_zero, Int.toNat_one, Int.lt_irrefl, yI_sB, yR_sB, yC_sB, yN_sB, MSh_sB_eq, pY_leastAlleyToward_0, stp_aload_n, pY_leastAlleyToward_1, stp_iload_n, pY_leastAlleyToward_2, pY_leastAlleyToward_3, stp_invokevirtual, qmY_48, cy_Y_minutesBetween, ss_C1 hS, pY_leastAlleyToward_6, stp_istore_n, pY_leastAlleyToward_7, stp_iconst, pY_leastAlleyToward_8, stp_istore, pY_leastAlleyToward_10, stp_iload, pY_leastAlleyToward_12, pY_leastAlleyToward_13, stp_getfield, qfY_12, rp_1_0, ss_R1_0 hS, ss_C2 hS, pY_leastAlleyToward_16, qmY_57, cy_L_size, pY_leastAlleyToward_19, stp_if_icmp_ge, pY_leastAlleyToward_22, pY_leastAlleyToward_23, pY_leastAlleyToward_26, pY_leastAlleyToward_28, qmY_69, cy_L_get, pY_leastAlleyToward_31, stp_checkcast, qtY_39, pY_leastAlleyToward_34, stp_astore, pY_leastAlleyToward_36, stp_aload, pY_leastAlleyToward_38, pY_leastAlleyToward_39, qmY_82, cy_A_touches, pY_leastAlleyToward_42, stp_ifCond_eq, pY_leastAlleyToward_45, pY_leastAlleyToward_47, qfY_73, rp_9_2, pY_leastAlleyToward_50, pY_leastAlleyToward_51, pY_leastAlleyToward_53, pY_leastAlleyToward_54, qmY_78, cy_A_otherEnd, pY_leastAlleyToward_57, pY_leastAlleyToward_58, pY_leastAlleyToward_61, stp_iadd, pY_leastAlleyToward_62, pY_leastAlleyToward_63, stp_if_icmp_ne, pY_leastAlleyToward_66, pY_leastAlleyToward_68, stp_ireturn, pY_leastAlleyToward_69, stp_iinc, pY_leastAlleyToward_72, stp_goto, pY_leastAlleyToward_75, pY_leastAlleyToward_76, ic_0, ic_1, ic_m1, nv_Y_leastAlleyToward, ml_Y_leastAlleyToward, rs, hl1, Int32.le_refl]
    exact hQ
  | c + 1, k, l5, hk, hf => stY_least hl hC hp hb (by omega) (fun q => by
      have z := fstN_at hf q c
      rw [show k + 1 + c = cn w 6 by omega] at z
      rw [z] at hQ
      exact hQ) (fun q l5' => lpY_least hl hC hp hb hQ c (k + 1) l5' (by omega) (by simp [fstN, hf, q]))
end
abbrev lvY_leastAlleyToward : Nat := 4
noncomputable def fsY_leastAlleyToward : FS := fun as w => match as with
  | [.inr (.inr (some (1, 0))), .inl x, .inl y] => fsP (Cpy w ∧ inR x 0 (wI w 13 0 3 - 1) = true ∧ inR y 0 (wI w 13 0 3 - 1) = true) (some (.inl (oI (fstN (nxF (grf w) (dsM w) y.toNatClampNeg x.toNatClampNeg) (cn w 6)))), w)
  | _ => none
set_option maxRecDepth 100000 in
set_option maxHeartbeats 4000000 in
theorem okY_leastAlleyToward (l : Launch) (G : Gc) : FsOk l G mY_leastAlleyToward lvY_leastAlleyToward fsY_leastAlleyToward := by
  intro as w r w' h
  simp only [fsY_leastAlleyToward] at h
  split at h
  · rename_i x y
    obtain ⟨⟨hC, hx, hy⟩, h⟩ := fsP_s h
    cases h
    have hS := hC.1
    have h3 := hC.2.2.2.1.2.1
    have h14 := h3.2
    obtain ⟨a, ha, rfl⟩ := okc_in h3 (by omega) hx
    obtain ⟨b, hb, rfl⟩ := okc_in h3 (by omega) hy
    have ca : (nI a).toNatClampNeg = a := nI_clamp (by omega)
    have cb : (nI b).toNatClampNeg = b := nI_clamp (by omega)
    have rm := ruY_minutesBetween hC ha hb
    rw [ca, cb]
    refine Sem_of (by decide) rfl (Nat.le_of_ble_eq_true rfl) ?_
    refine wpn_ok (M := mY_leastAlleyToward) (C := cenY) (X := (alk [(48, lvY_minutesBetween, fsY_minutesBetween)])) (tb := tY_leastAlleyToward) (st := [10]) eoY (XOk_cons qmY_48 (okY_minutesBetween l G) XOk_nil) kY_leastAlleyToward 60 _ _ _ _ _ _ ?_
    simp only [reduceCtorEq, fv0, fv1, fv2, fv3, bI_0, bI_1, bft, MSh_sI_eq, fsP_T, inL_0, inL_s, pad_0, pad_n, pad_s, wpn_s, wp1_s, lg_0, lg_s, lset_0, lset_s, kil_0, kil_s, st1_s, st2_s, isL_i, isL_l, isL_r, isL_n, spl_0, spl_s, cll_n, cll_s, catS_0, catS_s, jmp_s, alk_0, alk_s, otl_n, otl_s, List.nil_append, List.cons_append, List.contains_cons, List.contains_nil, Nat.reduceBEq, Bool.or_false, Bool.false_or, Bool.or_self, Bool.false_eq_true, Bool.true_or, Bool.or_true, if_true, if_false, ite_true, ite_false, ↓reduceIte, List.length_cons, List.length_nil, Nat.reduceAdd, Nat.reduceLT, Nat.reduceLeDiff, Nat.reduceEqDiff, Int.reduceAdd, Int.reduceLE, Int.toNat_natCast, Int.reduceToNat, Int.cast_ofNat_Int, true_and, and_true, false_and, and_false, true_implies, forall_const, eq_self, and_self, or_true, true_or, or_self, false_or, or_false, yI_sI, yR_sI, yC_sI, yN_sI, yI_sR, yR_sR, yC_sR, yN_sR, not_true_eq_false, not_false_eq_true, false_implies, implies_true, Nat.zero_add, Nat.add_zero, Nat.le_refl, Nat.reduceSub, Int.reduceSub, Int.reduceLT, Int.sub_zero, Int.sub_self, List.getElem?_toArray, List.getElem?_cons_zero, List.getElem?_cons_succ, Int.toNat_zero, Int.toNat_one, Int.lt_irrefl, yI_sB, yR_sB, yC_sB, yN_sB, MSh_sB_eq, pY_leastAlleyToward_0, stp_aload_n, pY_leastAlleyToward_1, stp_iload_n, pY_leastAlleyToward_2, pY_leastAlleyToward_3, stp_invokevirtual, qmY_48, cy_Y_minutesBetween, ss_C1 hS, pY_leastAlleyToward_6, stp_istore_n, pY_leastAlleyToward_7, stp_iconst, pY_leastAlleyToward_8, stp_istore, pY_leastAlleyToward_10, stp_iload, pY_leastAlleyToward_12, pY_leastAlleyToward_13, stp_getfield, qfY_12, rp_1_0, ss_R1_0 hS, ss_C2 hS, pY_leastAlleyToward_16, qmY_57, cy_L_size, pY_leastAlleyToward_19, stp_if_icmp_ge, pY_leastAlleyToward_22, pY_leastAlleyToward_23, pY_leastAlleyToward_26, pY_leastAlleyToward_28, qmY_69, cy_L_get, pY_leastAlleyToward_31, stp_checkcast, qtY_39, pY_leastAlleyToward_34, stp_astore, pY_leastAlleyToward_36, stp_aload, pY_leastAlleyToward_38, pY_leastAlleyToward_39, qmY_82, cy_A_touches, pY_leastAlleyToward_42, stp_ifCond_eq, pY_leastAlleyToward_45, pY_leastAlleyToward_47, qfY_73, rp_9_2, pY_leastAlleyToward_50, pY_leastAlleyToward_51, pY_leastAlleyToward_53, pY_leastAlleyToward_54, qmY_78, cy_A_otherEnd, pY_leastAlleyToward_57, pY_leastAlleyToward_58, pY_leastAlleyToward_61, stp_iadd, pY_leastAlleyToward_62, pY_leastAlleyToward_63, stp_if_icmp_ne, pY_leastAlleyToward_66, pY_leastAlleyToward_68, stp_ireturn, pY_leastAlleyToward_69, stp_iinc, pY_leastAlleyToward_72, stp_goto, pY_leastAlleyToward_75, pY_leastAlleyToward_76, ic_0, ic_1, ic_m1, nv_Y_leastAlleyToward, ml_Y_leastAlleyToward, rm, lvY_leastAlleyToward, lvY_minutesBetween]
    exact lpY_least (by decide) hC ha hb ⟨rfl, rfl⟩ (cn w 6) 0 none (by omega) rfl
  · cases h
theorem ruY_least {w : Wd} {a b : Nat} (h : Cpy w) (ha : a < cn w 3) (hb : b < cn w 3) : fsY_leastAlleyToward [.inr (.inr (some (1, 0))), .inl (nI a), .inl (nI b)] w = some (some (.inl (oI (fstN (nxF (grf w) (dsM w) b a) (cn w 6)))), w) := by
  have h3 := h.2.2.2.1.2.1
  have h14 := h3.2
  have : fsY_leastAlleyToward [.inr (.inr (some (1, 0))), .inl (nI a), .inl (nI b)] w = fsP (Cpy w ∧ inR (nI a) 0 (wI w 13 0 3 - 1) = true ∧ inR (nI b) 0 (wI w 13 0 3 - 1) = true) (some (.inl (oI (fstN (nxF (grf w) (dsM w) (nI b).toNatClampNeg (nI a).toNatClampNeg) (cn w 6)))), w) := rfl
  rw [this, nI_clamp (by omega), nI_clamp (by omega)]
  exact fsP_t ⟨h, okc_inR h3 (by omega) ha, okc_inR h3 (by omega) hb⟩
/-! find -/
noncomputable def fiS (w : Wd) (a b x s : Nat) : Wd := sI (sI (sB (sB w 184 x (fun i => if i < s then nI (wyK (grf w) (dsM w) a b i) else wI w 184 x i)) 185 x (fun i => if i < s then nI (aN (grf w) (wyK (grf w) (dsM w) a b) i) else wI w 185 x i)) 8 x 2 (nI s)) 8 x 3 (nI (aN (grf w) (wyK (grf w) (dsM w) a b) s))
theorem fiS_I (w : Wd) (a b x s t k q : Nat) : wI (fiS w a b x s) t k q = if t = 8 ∧ k = x ∧ q = 3 then nI (aN (grf w) (wyK (grf w) (dsM w) a b) s) else if t = 8 ∧ k = x ∧ q = 2 then nI s else if t = 185 ∧ k = x then (if q < s then nI (aN (grf w) (wyK (grf w) (dsM w) a b) q) else wI w 185 x q) else if t = 184 ∧ k = x then (if q < s then nI (wyK (grf w) (dsM w) a b q) else wI w 184 x q) else wI w t k q := (rfl)
theorem fiS_n {w : Wd} {a b x s t k q : Nat} (h : ¬ (t = 8 ∨ t = 184 ∨ t = 185)) : wI (fiS w a b x s) t k q = wI w t k q := by
  rw [fiS_I, if_neg (by omega), if_neg (by omega), if_neg (by omega), if_neg (by omega)]
theorem fiS_2 (w : Wd) (a b x s : Nat) : (fiS w a b x s).2 = w.2 := rfl
/-- worlds that agree in all that the yards hold -/
def SmW (w0 w : Wd) : Prop := w.2 = w0.2 ∧ ∀ t k i, (100 ≤ t ∧ t ≤ 176 ∨ t = 13 ∨ t = 0 ∧ i = 9 ∨ t = 1 ∧ i = 4 ∨ t = 3 ∧ i = 1 ∨ t = 5 ∧ i = 2 ∨ t = 2 ∧ i = 2 ∨ t = 9 ∧ i < 3) → wI w t k i = wI w0 t k i
theorem SmW_c {w0 w : Wd} (h : SmW w0 w) (k : Nat) : cn w k = cn w0 k := by unfold cn; rw [h.2 13 0 k (by omega)]
theorem SmW_g {w0 w : Wd} (h : SmW w0 w) : grf w = grf w0 := by
  unfold grf
  rw [SmW_c h]
  have e1 : (fun k => (wI w 107 0 k).toNatClampNeg) = fun k => (wI w0 107 0 k).toNatClampNeg := funext fun k => by rw [h.2 _ _ _ (by omega)]
  have e2 : (fun k => (wI w 108 0 k).toNatClampNeg) = fun k => (wI w0 108 0 k).toNatClampNeg := funext fun k => by rw [h.2 _ _ _ (by omega)]
  have e3 : (fun k => (wI w 109 0 k).toNatClampNeg) = fun k => (wI w0 109 0 k).toNatClampNeg := funext fun k => by rw [h.2 _ _ _ (by omega)]
  rw [e1, e2, e3]
theorem SmW_d {w0 w : Wd} (h : SmW w0 w) : dsM w = dsM w0 := by unfold dsM; rw [SmW_g h, SmW_c h]
theorem w2_R {w w' : Wd} (h : w'.2 = w.2) (t k i : Nat) : wR w' t k i = wR w t k i := by unfold wR; rw [h]
theorem w2_C {w w' : Wd} (h : w'.2 = w.2) (t : Nat) : wC w' t = wC w t := by unfold wC; rw [h]
theorem w2_N {w w' : Wd} (h : w'.2 = w.2) (t k : Nat) : wN w' t k = wN w t k := by unfold wN; rw [h]
theorem LiS_cg {w w' : Wd} {i n : Nat} {el : Nat → Nat × Nat} (h2 : w'.2 = w.2) (hI : wI w' 2 i 2 = wI w 2 i 2) (h : LiS w i n el) : LiS w' i n el := by
  unfold LiS at h ⊢
  simp only [w2_R h2, w2_C h2, w2_N h2, hI]
  exact h
theorem AlS_cg {w w' : Wd} {k : Nat} (h2 : w'.2 = w.2) (h : AlS w k) : AlS w' k := by
  unfold AlS at h ⊢
  simp only [w2_R h2, w2_C h2, w2_N h2]
  exact h
theorem MSh_of {w w' : Wd} (h : MSh w) (e : w'.2 = w.2) : MSh w' := by
  unfold MSh wC wR wN at h ⊢
  rw [e]
  exact h
theorem Cpy_W {w0 w : Wd} (h : SmW w0 w) (hC : Cpy w0) : Cpy w := by
  obtain ⟨hS, hc, hA, hD⟩ := hC
  have e := fun t k i hn => h.2 t k i hn
  have eg := SmW_g h
  have ed := SmW_d h
  refine ⟨SSh_of hS h.1, ?_, ⟨?_, fun k hk => ?_⟩, ⟨⟨MSh_of hD.1.1 h.1, ?_, ?_, fun k hk => ?_, ?_, ?_⟩, fun i j hi hj => ?_⟩⟩
  · obtain ⟨c1, c2, c3, c4, c5, c6, c7, c8⟩ := hc
    refine ⟨?_, ?_, ?_, ?_, fun b hb => ?_, fun p hp => ?_, fun i hi => ?_, fun i hi => ?_⟩
    · rw [e _ _ _ (by omega), e _ _ _ (by omega)]; exact c1
    · rw [e _ _ _ (by omega), e _ _ _ (by omega)]; exact c2
    · rw [e _ _ _ (by omega), e _ _ _ (by omega)]; exact c3
    · rw [e _ _ _ (by omega), e _ _ _ (by omega)]; exact c4
    · rw [e _ _ _ (by omega), e _ _ _ (by omega)]; exact c5 b hb
    · rw [SmW_c h] at hp; rw [e _ _ _ (by omega), e _ _ _ (by omega), e _ _ _ (by omega), e _ _ _ (by omega)]; exact c6 p hp
    · rw [SmW_c h] at hi; rw [e _ _ _ (by omega), e _ _ _ (by omega)]; exact c7 i hi
    · rw [SmW_c h] at hi; rw [e _ _ _ (by omega), e _ _ _ (by omega), e _ _ _ (by omega), e _ _ _ (by omega)]; exact c8 i hi
  · rw [SmW_c h]; exact LiS_cg h.1 (e _ _ _ (by omega)) hA.1
  · rw [SmW_c h] at hk
    obtain ⟨q1, q2, q3, q4⟩ := hA.2 k hk
    rw [e _ _ _ (by omega), e _ _ _ (by omega), e _ _ _ (by omega), e _ _ _ (by omega), e _ _ _ (by omega), e _ _ _ (by omega)]
    exact ⟨AlS_cg h.1 q1, q2, q3, q4⟩
  · unfold okc; rw [SmW_c h, e _ _ _ (by omega)]; exact hD.1.2.1
  · unfold okc; rw [SmW_c h, e _ _ _ (by omega)]; exact hD.1.2.2.1
  · rw [SmW_c h] at hk
    rw [eg, e _ _ _ (by omega), e _ _ _ (by omega), e _ _ _ (by omega)]
    exact hD.1.2.2.2.1 k hk
  · rw [eg, SmW_c h]; exact hD.1.2.2.2.2.1
  · rw [eg, SmW_c h]; exact hD.1.2.2.2.2.2
  · rw [SmW_c h] at hi hj
    rw [ed, e _ _ _ (by omega)]
    exact hD.2 i j hi hj
theorem SmW_fi (w : Wd) (a b x s : Nat) : SmW w (fiS w a b x s) := ⟨rfl, fun t k i hn => fiS_n (by omega)⟩
