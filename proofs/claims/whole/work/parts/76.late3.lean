/-! firstFree -/
section
variable {l : Launch} {G : Gc} {n : Nat} {Q : Option AV → Wd → Prop} {w : Wd}
set_option maxRecDepth 100000 in
set_option maxHeartbeats 4000000 in
theorem stY_firstFree {x y y' r : Nat} {t : Int32} {l5 : Option AV} (hl : 4 < n) (hC : Cpy w) (hy : y < 4000000) (hy' : y' < 4000000) (hr : r < 10000) (ru : fsY_putOff [.inr (.inr (some (1, 0))), .inr (.inr (some (8, x))), .inl (nI y)] w = some (some (.inl (nI y')), w)) (hQ : y' = y → Q (some (.inl (nI y))) w) (ih : ¬ y' = y → ∀ l5, WP l G mY_firstFree n 0 0 Q 5 [some (.inr (.inr (some (1, 0)))), some (.inr (.inr (some (8, x)))), some (.inl t), some (.inl (nI y')), some (.inl (nI (r + 1))), l5] [] w 0 0) : WP l G mY_firstFree n 0 0 Q 5 [some (.inr (.inr (some (1, 0)))), some (.inr (.inr (some (8, x)))), some (.inl t), some (.inl (nI y)), some (.inl (nI r)), l5] [] w 0 0 := by
  have hS := hC.1
  have q1 : ¬ (10000 : Int32) ≤ nI r := nI_ge (b := 10000) hr (by omega)
  have hl1 : lvY_putOff < n := hl
  refine wpn_ok (M := mY_firstFree) (C := cenY) (X := (alk [(85, lvY_putOff, fsY_putOff)])) (tb := tY_firstFree) (st := [5]) eoY (XOk_cons qmY_85 (okY_putOff l G) XOk_nil) kY_firstFree 60 _ _ _ _ _ _ ?_
  by_cases c : y' = y
  · have := hQ c
    simp only [reduceCtorEq, fv0, fv1, fv2, fv3, bI_0, bI_1, bft, MSh_sI_eq, fsP_T, inL_0, inL_s, pad_0, pad_n, pad_s, wpn_s, wp1_s, lg_0, lg_s, lset_0, lset_s, kil_0, kil_s, st1_s, st2_s, isL_i, isL_l, isL_r, isL_n, spl_0, spl_s, cll_n, cll_s, catS_0, catS_s, jmp_s, alk_0, alk_s, otl_n, otl_s, List.nil_append, List.cons_append, List.contains_cons, List.contains_nil, Nat.reduceBEq, Bool.or_false, Bool.false_or, Bool.or_self, Bool.false_eq_true, Bool.true_or, Bool.or_true, if_true, if_false, ite_true, ite_false, ↓reduceIte, List.length_cons, List.length_nil, Nat.reduceAdd, Nat.reduceLT, Nat.reduceLeDiff, Nat.reduceEqDiff, Int.reduceAdd, Int.reduceLE, Int.toNat_natCast, Int.reduceToNat, Int.cast_ofNat_Int, true_and, and_true, false_and, and_false, true_implies, forall_const, eq_self, and_self, or_true, true_or, or_self, false_or, or_false, yI_sI, yR_sI, yC_sI, yN_sI, yI_sR, yR_sR, yC_sR, yN_sR, not_true_eq_false, not_false_eq_true, false_implies, implies_true, Nat.zero_add, Nat.add_zero, Nat.le_refl, Nat.reduceSub, Int.reduceSub, Int.reduceLT, Int.sub_zero, Int.sub_self, List.getElem?_toArray, List.getElem?_cons_zero, List.getElem?_cons_succ, Int.toNat_zero, Int.toNat_one, Int.lt_irrefl, yI_sB, yR_sB, yC_sB, yN_sB, MSh_sB_eq, pY_firstFree_0, stp_iload_n, pY_firstFree_1, stp_istore_n, pY_firstFree_2, stp_iconst, pY_firstFree_3, stp_istore, pY_firstFree_5, stp_iload, pY_firstFree_7, stp_sipush, pY_firstFree_10, stp_if_icmp_ge, pY_firstFree_13, stp_aload_n, pY_firstFree_14, pY_firstFree_15, pY_firstFree_16, stp_invokevirtual, qmY_85, cy_Y_putOff, ss_C1 hS, pY_firstFree_19, pY_firstFree_21, pY_firstFree_23, pY_firstFree_24, stp_if_icmp_ne, pY_firstFree_27, pY_firstFree_28, stp_ireturn, pY_firstFree_29, pY_firstFree_31, pY_firstFree_32, stp_iinc, pY_firstFree_35, stp_goto, pY_firstFree_38, pY_firstFree_39, ic_0, sp_10000, ic_1, nv_Y_firstFree, ml_Y_firstFree, ru, q1, c, hl1]
    exact this
  · have := ih c (some (.inl (nI y')))
    have c2 : ¬ nI y' = nI y := fun q => c ((nI_eq (by omega) (by omega)).mp q)
    simp only [reduceCtorEq, fv0, fv1, fv2, fv3, bI_0, bI_1, bft, MSh_sI_eq, fsP_T, inL_0, inL_s, pad_0, pad_n, pad_s, wpn_s, wp1_s, lg_0, lg_s, lset_0, lset_s, kil_0, kil_s, st1_s, st2_s, isL_i, isL_l, isL_r, isL_n, spl_0, spl_s, cll_n, cll_s, catS_0, catS_s, jmp_s, alk_0, alk_s, otl_n, otl_s, List.nil_append, List.cons_append, List.contains_cons, List.contains_nil, Nat.reduceBEq, Bool.or_false, Bool.false_or, Bool.or_self, Bool.false_eq_true, Bool.true_or, Bool.or_true, if_true, if_false, ite_true, ite_false, ↓reduceIte, List.length_cons, List.length_nil, Nat.reduceAdd, Nat.reduceLT, Nat.reduceLeDiff, Nat.reduceEqDiff, Int.reduceAdd, Int.reduceLE, Int.toNat_natCast, Int.reduceToNat, Int.cast_ofNat_Int, true_and, and_true, false_and, and_false, true_implies, forall_const, eq_self, and_self, or_true, true_or, or_self, false_or, or_false, yI_sI, yR_sI, yC_sI, yN_sI, yI_sR, yR_sR, yC_sR, yN_sR, not_true_eq_false, not_false_eq_true, false_implies, implies_true, Nat.zero_add, Nat.add_zero, Nat.le_refl, Nat.reduceSub, Int.reduceSub, Int.reduceLT, Int.sub_zero, Int.sub_self, List.getElem?_toArray, List.getElem?_cons_zero, List.getElem?_cons_succ, Int.toNat_zero, Int.toNat_one, Int.lt_irrefl, yI_sB, yR_sB, yC_sB, yN_sB, MSh_sB_eq, pY_firstFree_0, stp_iload_n, pY_firstFree_1, stp_istore_n, pY_firstFree_2, stp_iconst, pY_firstFree_3, stp_istore, pY_firstFree_5, stp_iload, pY_firstFree_7, stp_sipush, pY_firstFree_10, stp_if_icmp_ge, pY_firstFree_13, stp_aload_n, pY_firstFree_14, pY_firstFree_15, pY_firstFree_16, stp_invokevirtual, qmY_85, cy_Y_putOff, ss_C1 hS, pY_firstFree_19, pY_firstFree_21, pY_firstFree_23, pY_firstFree_24, stp_if_icmp_ne, pY_firstFree_27, pY_firstFree_28, stp_ireturn, pY_firstFree_29, pY_firstFree_31, pY_firstFree_32, stp_iinc, pY_firstFree_35, stp_goto, pY_firstFree_38, pY_firstFree_39, ic_0, sp_10000, ic_1, nv_Y_firstFree, ml_Y_firstFree, ru, q1, c2, hl1, nI_1]
    exact this
theorem lpY_firstFree {E : List Ent} {x B t0 : Nat} {t : Int32} (hl : 4 < n) (hC : Cpy w) (hx : x < 17) (hW : WyC w x (wkC w x) (wlN w x)) (hE : CpE w E) (hB : enB (grf w) E B) (ht : t0 ≤ B) (hBB : B < 4000000) (hQ : Q (some (.inl (nI (lfN (grf w) E (wkC w x) (wlN w x) t0)))) w) : ∀ c r y l5, muN (tkv w) (szA w) (mnA w) (wkC w x) (aN (grf w) (wkC w x)) (wlN w x) y < c → r + c ≤ 10000 → t0 ≤ y → y ≤ B → (∀ z, t0 ≤ z → z < y → mbN (grf w) E (wkC w x) (wlN w x) z = false) → WP l G mY_firstFree n 0 0 Q 5 [some (.inr (.inr (some (1, 0)))), some (.inr (.inr (some (8, x)))), some (.inl t), some (.inl (nI y)), some (.inl (nI r)), l5] [] w 0 0
  | 0, r, y, l5, hc, _, _, _, _ => absurd hc (Nat.not_lt_zero _)
  | c + 1, r, y, l5, hc, hr, h1, h2, h3 => by
    have hF := FOk_w hC hE hW
    have pb := po_bd hC hE hW hB h2 _ (Nat.le_refl _)
    have pg := po_ge (a := aN (grf w) (wkC w x)) (t := y) hF (Nat.le_refl _)
    refine stY_firstFree hl hC (by omega) (by omega) (by omega) (ruY_putOff hC hx hW hE hB h2 hBB) (fun q => ?_) (fun q l5' => ?_)
    · rw [lf_is hB ht hBB h1 (mb_iff.mpr (po_fix hF q)) h3] at hQ
      exact hQ
    · refine lpY_firstFree hl hC hx hW hE hB ht hBB hQ c (r + 1) _ l5' ?_ (by omega) (by omega) pb (fun z z1 z2 => ?_)
      · rcases po_end (a := aN (grf w) (wkC w x)) (t := y) hF (fun i _ z => ffW_end w _ z) _ (Nat.le_refl _) with e | ⟨p, j, p1, p2, p3⟩
        · exact absurd e q
        · have lt : y < poN (ffW w) (wkC w x) (aN (grf w) (wkC w x)) (wlN w x) y := by omega
          have := mu_lt (τ := tkv w) (sz := szA w) (T := mnA w) lt p1 p2 p3
          omega
      · by_cases c2 : z < y
        · exact h3 z z1 c2
        · cases k : mbN (grf w) E (wkC w x) (wlN w x) z
          · rfl
          · have := po_ub hF (mb_iff.mp k) (show y ≤ z by omega) _ (Nat.le_refl _)
            omega
end
noncomputable def EwC (w : Wd) : List Ent := Classical.epsilon (fun E => CpE w E)
theorem EwC_ok {w : Wd} {E : List Ent} (h : CpE w E) : CpE w (EwC w) := Classical.epsilon_spec (p := fun E => CpE w E) ⟨E, h⟩
abbrev lvY_firstFree : Nat := 5
noncomputable def fsY_firstFree : FS := fun as w => match as with
  | [.inr (.inr (some (1, 0))), .inr (.inr (some (8, x))), .inl y] => fsP (Cpy w ∧ x < 17 ∧ WyC w x (wkC w x) (wlN w x) ∧ ∃ E B t, CpE w E ∧ enB (grf w) E B ∧ t ≤ B ∧ B < 4000000 ∧ y = nI t) (some (.inl (nI (lfN (grf w) (EwC w) (wkC w x) (wlN w x) y.toNatClampNeg))), w)
  | _ => none
set_option maxRecDepth 100000 in
set_option maxHeartbeats 4000000 in
theorem okY_firstFree (l : Launch) (G : Gc) : FsOk l G mY_firstFree lvY_firstFree fsY_firstFree := by
  intro as w r w' h
  simp only [fsY_firstFree] at h
  split at h
  · rename_i x y
    obtain ⟨⟨hC, hx, hW, E, B, t, hE, hB, ht, hBB, hy⟩, h⟩ := fsP_s h
    cases h
    subst hy
    rw [nI_clamp (by omega)]
    have hS := hC.1
    have e := lf_cg (t := t) (fun i _ => rfl) (fun i hi z => fr_un hE (EwC_ok hE) (hW.2.2 i hi).2.1 z)
    have mb := mu_bd (τ := tkv w) (sz := szA w) (T := mnA w) (κ := wkC w x) (a := aN (grf w) (wkC w x)) (m := wlN w x) (t := t) (B := 24) (fun i hi => (hE _ (hW.2.2 i hi).2.1).1.2.2.1)
    have h13 := hW.2.1
    have mb2 : wlN w x * 24 ≤ 13 * 24 := Nat.mul_le_mul_right 24 h13
    rw [← e]
    refine Sem_of (by decide) rfl (Nat.le_of_ble_eq_true rfl) ?_
    refine wpn_ok (M := mY_firstFree) (C := cenY) (X := (alk [])) (tb := tY_firstFree) (st := [5]) eoY XOk_nil kY_firstFree 60 _ _ _ _ _ _ ?_
    simp only [reduceCtorEq, fv0, fv1, fv2, fv3, bI_0, bI_1, bft, MSh_sI_eq, fsP_T, inL_0, inL_s, pad_0, pad_n, pad_s, wpn_s, wp1_s, lg_0, lg_s, lset_0, lset_s, kil_0, kil_s, st1_s, st2_s, isL_i, isL_l, isL_r, isL_n, spl_0, spl_s, cll_n, cll_s, catS_0, catS_s, jmp_s, alk_0, alk_s, otl_n, otl_s, List.nil_append, List.cons_append, List.contains_cons, List.contains_nil, Nat.reduceBEq, Bool.or_false, Bool.false_or, Bool.or_self, Bool.false_eq_true, Bool.true_or, Bool.or_true, if_true, if_false, ite_true, ite_false, ↓reduceIte, List.length_cons, List.length_nil, Nat.reduceAdd, Nat.reduceLT, Nat.reduceLeDiff, Nat.reduceEqDiff, Int.reduceAdd, Int.reduceLE, Int.toNat_natCast, Int.reduceToNat, Int.cast_ofNat_Int, true_and, and_true, false_and, and_false, true_implies, forall_const, eq_self, and_self, or_true, true_or, or_self, false_or, or_false, yI_sI, yR_sI, yC_sI, yN_sI, yI_sR, yR_sR, yC_sR, yN_sR, not_true_eq_false, not_false_eq_true, false_implies, implies_true, Nat.zero_add, Nat.add_zero, Nat.le_refl, Nat.reduceSub, Int.reduceSub, Int.reduceLT, Int.sub_zero, Int.sub_self, List.getElem?_toArray, List.getElem?_cons_zero, List.getElem?_cons_succ, Int.toNat_zero, Int.toNat_one, Int.lt_irrefl, yI_sB, yR_sB, yC_sB, yN_sB, MSh_sB_eq, pY_firstFree_0, stp_iload_n, pY_firstFree_1, stp_istore_n, pY_firstFree_2, stp_iconst, pY_firstFree_3, stp_istore, pY_firstFree_5, stp_iload, pY_firstFree_7, stp_sipush, pY_firstFree_10, stp_if_icmp_ge, pY_firstFree_13, stp_aload_n, pY_firstFree_14, pY_firstFree_15, pY_firstFree_16, stp_invokevirtual, qmY_85, cy_Y_putOff, ss_C1 hS, pY_firstFree_19, pY_firstFree_21, pY_firstFree_23, pY_firstFree_24, stp_if_icmp_ne, pY_firstFree_27, pY_firstFree_28, stp_ireturn, pY_firstFree_29, pY_firstFree_31, pY_firstFree_32, stp_iinc, pY_firstFree_35, stp_goto, pY_firstFree_38, pY_firstFree_39, ic_0, sp_10000, ic_1, nv_Y_firstFree, ml_Y_firstFree]
    exact lpY_firstFree (by decide) hC hx hW hE hB ht hBB ⟨rfl, rfl⟩ 10000 0 t none (by omega) (by omega) (Nat.le_refl _) ht (fun z z1 z2 => by omega)
  · cases h
theorem ruY_firstFree {w : Wd} {E : List Ent} {x m B t : Nat} {κ : Nat → Nat} (hC : Cpy w) (hx : x < 17) (hW : WyC w x κ m) (hE : CpE w E) (hB : enB (grf w) E B) (ht : t ≤ B) (hBB : B < 4000000) : fsY_firstFree [.inr (.inr (some (1, 0))), .inr (.inr (some (8, x))), .inl (nI t)] w = some (some (.inl (nI (lfN (grf w) E κ m t))), w) := by
  have h20 := hC.2.2.2.1.2.2.1.2
  have hW' := WyC_c (by omega) hW
  obtain ⟨e1, e2⟩ := WyC_k (by omega) hW
  have e : lfN (grf w) E κ m t = lfN (grf w) (EwC w) (wkC w x) (wlN w x) t := by
    rw [e1]
    exact lf_cg (fun i hi => (e2 i hi).symm) (fun i hi z => fr_un hE (EwC_ok hE) (hW.2.2 i hi).2.1 z)
  have : fsY_firstFree [.inr (.inr (some (1, 0))), .inr (.inr (some (8, x))), .inl (nI t)] w = fsP (Cpy w ∧ x < 17 ∧ WyC w x (wkC w x) (wlN w x) ∧ ∃ E B z, CpE w E ∧ enB (grf w) E B ∧ z ≤ B ∧ B < 4000000 ∧ nI t = nI z) (some (.inl (nI (lfN (grf w) (EwC w) (wkC w x) (wlN w x) (nI t).toNatClampNeg))), w) := rfl
  rw [this, nI_clamp (by omega), e]
  exact fsP_t ⟨hC, hx, hW', E, B, t, hE, hB, ht, hBB, rfl⟩
