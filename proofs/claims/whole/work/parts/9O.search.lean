/-! search, addLot -/
theorem KB_none {w0 w : Wd} {mny : Nat} {b : Bst} (h : KB w0 w mny b) : (wI w 6 0 13 = 2000000000) = (b.1 = none) := by
  unfold KB at h
  split at h
  · rename_i e
    rw [h.1, e]
    simp
  · rename_i x e
    rw [h.1, e]
    have : ¬ nI x = nI 2000000000 := fun z => by have := (nI_eq (by omega) (by omega)).mp z; omega
    simp only [reduceCtorEq, eq_iff_iff, iff_false]
    exact this
def seI (w : Wd) (t : Int32) : Wd := sI (sI (sI (sI w 6 0 12 t) 6 0 13 2000000000) 6 0 10 0) 6 0 11 0
theorem seI_I (w : Wd) (v : Int32) (t k q : Nat) : wI (seI w v) t k q = if t = 6 ∧ k = 0 ∧ q = 11 then 0 else if t = 6 ∧ k = 0 ∧ q = 10 then 0 else if t = 6 ∧ k = 0 ∧ q = 13 then 2000000000 else if t = 6 ∧ k = 0 ∧ q = 12 then v else wI w t k q := by
  unfold seI
  rw [yI_sI, yI_sI, yI_sI, yI_sI]
theorem bt_0 (i : Nat) : btB 0 i = false := by simp [btB]
section
variable {l : Launch} {G : Gc} {w : Wd}
set_option maxRecDepth 100000 in
set_option maxHeartbeats 4000000 in
theorem smP_search {mny t0 B : Nat} {pa eL eP : Nat → Nat} {L P : Nat → Bool} {E : List Ent} (hSt : ClS (seI w (nI t0)) mny t0 pa eL eP) (hE : CpE w E) (hB : enB (grf (seI w (nI t0))) E B) (ht : t0 ≤ B) (hBB : B + 1560 < 3999000) (hcap : ∀ k, (E.filter (fun e => decide (e.1 = k))).length + mny ≤ 24) (hLP : ∀ i, i < mny → L (eL i) = true ∧ P (eP i) = true) : Sem l G mP_search 16 0 0 [.inr (.inr (some (6, 0))), .inl (nI t0)] w (fun r w' => r = some (.inl (bI ((srch (grf (seI w (nI t0))) (dsM (seI w (nI t0))) pa t0 mny mny eL eP mny 0 L P t0 E pl00 (none, pl00)).1.isSome))) ∧ ClJ (seI w (nI t0)) w' mny 0 eL eP L P E pl00 (srch (grf (seI w (nI t0))) (dsM (seI w (nI t0))) pa t0 mny mny eL eP mny 0 L P t0 E pl00 (none, pl00))) := by
  have hm4 := hSt.2.1
  have hS : SSh w := SSh_of hSt.1.1 (by unfold seI; simp only [sI_2])
  have hS1 := hSt.1.1
  have hJ : ClJ (seI w (nI t0)) (seI w (nI t0)) mny 0 eL eP L P E pl00 (none, pl00) := by
    refine ⟨SmK_r _, CpE_W (w0 := w) (by unfold seI; simp only [sI_2]) (fun t k q ht => by rw [seI_I, if_neg (by omega), if_neg (by omega), if_neg (by omega), if_neg (by omega)]) hE, fun i hi => ?_, fun i hi => by omega, ?_⟩
    · rw [seI_I, if_neg (by omega), if_pos ⟨rfl, rfl, rfl⟩, seI_I, if_pos ⟨rfl, rfl, rfl⟩, bt_0, (hLP i hi).1, (hLP i hi).2]
      exact ⟨rfl, rfl⟩
    · exact ⟨by rw [seI_I, if_neg (by omega), if_neg (by omega), if_pos ⟨rfl, rfl, rfl⟩], rfl, fun i => ⟨rfl, rfl⟩⟩
  have call := PtC_all (l := l) (G := G) hSt mny 0 t0 L P E pl00 (none, pl00) (seI w (nI t0)) B (Nat.zero_add _) hJ hB ht ht (by omega) hcap
  rw [nI_0] at call
  have hwS : sI (sI (sI (sI w 6 0 12 (nI t0)) 6 0 13 2000000000) 6 0 10 0) 6 0 11 0 = seI w (nI t0) := rfl
  refine Sem_of (by decide) rfl (Nat.le_of_ble_eq_true rfl) ?_
  refine wpn_ok (M := mP_search) (C := cenP) (X := (alk [])) (tb := tP_search) (st := [27]) eoP XOk_nil kP_search 60 _ _ _ _ _ _ ?_
  simp only [reduceCtorEq, fv0, fv1, fv2, fv3, bI_0, bI_1, bft, MSh_sI_eq, fsP_T, inL_0, inL_s, pad_0, pad_n, pad_s, wpn_s, wp1_s, lg_0, lg_s, lset_0, lset_s, kil_0, kil_s, st1_s, st2_s, isL_i, isL_l, isL_r, isL_n, spl_0, spl_s, cll_n, cll_s, catS_0, catS_s, jmp_s, alk_0, alk_s, otl_n, otl_s, List.nil_append, List.cons_append, List.contains_cons, List.contains_nil, Nat.reduceBEq, Bool.or_false, Bool.false_or, Bool.or_self, Bool.false_eq_true, Bool.true_or, Bool.or_true, if_true, if_false, ite_true, ite_false, ↓reduceIte, List.length_cons, List.length_nil, Nat.reduceAdd, Nat.reduceLT, Nat.reduceLeDiff, Nat.reduceEqDiff, Int.reduceAdd, Int.reduceLE, Int.toNat_natCast, Int.reduceToNat, Int.cast_ofNat_Int, true_and, and_true, false_and, and_false, true_implies, forall_const, eq_self, and_self, or_true, true_or, or_self, false_or, or_false, yI_sI, yR_sI, yC_sI, yN_sI, yI_sR, yR_sR, yC_sR, yN_sR, not_true_eq_false, not_false_eq_true, false_implies, implies_true, Nat.zero_add, Nat.add_zero, Nat.le_refl, Nat.reduceSub, Int.reduceSub, Int.reduceLT, Int.sub_zero, Int.sub_self, List.getElem?_toArray, List.getElem?_cons_zero, List.getElem?_cons_succ, Int.toNat_zero, Int.toNat_one, Int.lt_irrefl, yI_sB, yR_sB, yC_sB, yN_sB, MSh_sB_eq, pP_search_0, stp_aload_n, pP_search_1, stp_iload_n, pP_search_2, stp_putfield, qfP_49, rp_6_12, fi_6_12, nr_6_12, ss_C6 hS, pP_search_5, pP_search_6, stp_ldc, qkP_69, pP_search_8, qfP_52, rp_6_13, fi_6_13, nr_6_13, pP_search_11, pP_search_12, stp_iconst, pP_search_13, qfP_43, rp_6_10, fi_6_10, nr_6_10, pP_search_16, pP_search_17, pP_search_18, qfP_46, rp_6_11, fi_6_11, nr_6_11, pP_search_21, pP_search_22, pP_search_23, pP_search_24, stp_invokevirtual, qmP_70, cy_P_tell, pP_search_27, pP_search_28, stp_getfield, pP_search_31, pP_search_33, stp_if_icmp_eq, pP_search_36, pP_search_37, stp_goto, pP_search_40, pP_search_41, stp_ireturn, ic_0, ic_1, nv_P_search, ml_P_search, hwS, ss_C6 hS1]
  refine ⟨7 + 2 * mny, 0, 0, by omega, by omega, by omega, call.mono fun rr w' h' => ?_⟩
  obtain ⟨rfl, h'⟩ := h'
  have hS' := (Cpy_W (SmK_W h'.1) hSt.1).1
  have kb := KB_none h'.2.2.2.2
  generalize hR : srch (grf (seI w (nI t0))) (dsM (seI w (nI t0))) pa t0 mny mny eL eP mny 0 L P t0 E pl00 (none, pl00) = R at h' kb
  refine wpn_ok (M := mP_search) (C := cenP) (X := (alk [])) (tb := tP_search) (st := []) eoP XOk_nil kP_search 60 _ _ _ _ _ _ ?_
  cases e : R.1 with
  | none =>
    rw [e] at kb
    have kb' : wI w' 6 0 13 = 2000000000 := by rw [kb]
    simp only [reduceCtorEq, fv0, fv1, fv2, fv3, bI_0, bI_1, bft, MSh_sI_eq, fsP_T, inL_0, inL_s, pad_0, pad_n, pad_s, wpn_s, wp1_s, lg_0, lg_s, lset_0, lset_s, kil_0, kil_s, st1_s, st2_s, isL_i, isL_l, isL_r, isL_n, spl_0, spl_s, cll_n, cll_s, catS_0, catS_s, jmp_s, alk_0, alk_s, otl_n, otl_s, List.nil_append, List.cons_append, List.contains_cons, List.contains_nil, Nat.reduceBEq, Bool.or_false, Bool.false_or, Bool.or_self, Bool.false_eq_true, Bool.true_or, Bool.or_true, if_true, if_false, ite_true, ite_false, ↓reduceIte, List.length_cons, List.length_nil, Nat.reduceAdd, Nat.reduceLT, Nat.reduceLeDiff, Nat.reduceEqDiff, Int.reduceAdd, Int.reduceLE, Int.toNat_natCast, Int.reduceToNat, Int.cast_ofNat_Int, true_and, and_true, false_and, and_false, true_implies, forall_const, eq_self, and_self, or_true, true_or, or_self, false_or, or_false, yI_sI, yR_sI, yC_sI, yN_sI, yI_sR, yR_sR, yC_sR, yN_sR, not_true_eq_false, not_false_eq_true, false_implies, implies_true, Nat.zero_add, Nat.add_zero, Nat.le_refl, Nat.reduceSub, Int.reduceSub, Int.reduceLT, Int.sub_zero, Int.sub_self, List.getElem?_toArray, List.getElem?_cons_zero, List.getElem?_cons_succ, Int.toNat_zero, Int.toNat_one, Int.lt_irrefl, yI_sB, yR_sB, yC_sB, yN_sB, MSh_sB_eq, pP_search_0, stp_aload_n, pP_search_1, stp_iload_n, pP_search_2, stp_putfield, qfP_49, rp_6_12, fi_6_12, nr_6_12, ss_C6 hS', pP_search_5, pP_search_6, stp_ldc, qkP_69, pP_search_8, qfP_52, rp_6_13, fi_6_13, nr_6_13, pP_search_11, pP_search_12, stp_iconst, pP_search_13, qfP_43, rp_6_10, fi_6_10, nr_6_10, pP_search_16, pP_search_17, pP_search_18, qfP_46, rp_6_11, fi_6_11, nr_6_11, pP_search_21, pP_search_22, pP_search_23, pP_search_24, stp_invokevirtual, qmP_70, cy_P_tell, pP_search_27, pP_search_28, stp_getfield, pP_search_31, pP_search_33, stp_if_icmp_eq, pP_search_36, pP_search_37, stp_goto, pP_search_40, pP_search_41, stp_ireturn, ic_0, ic_1, nv_P_search, ml_P_search, kb', Option.isSome_none]
    exact ⟨rfl, h'⟩
  | some x =>
    rw [e] at kb
    have kb' : ¬ wI w' 6 0 13 = 2000000000 := by rw [kb]; simp
    simp only [reduceCtorEq, fv0, fv1, fv2, fv3, bI_0, bI_1, bft, MSh_sI_eq, fsP_T, inL_0, inL_s, pad_0, pad_n, pad_s, wpn_s, wp1_s, lg_0, lg_s, lset_0, lset_s, kil_0, kil_s, st1_s, st2_s, isL_i, isL_l, isL_r, isL_n, spl_0, spl_s, cll_n, cll_s, catS_0, catS_s, jmp_s, alk_0, alk_s, otl_n, otl_s, List.nil_append, List.cons_append, List.contains_cons, List.contains_nil, Nat.reduceBEq, Bool.or_false, Bool.false_or, Bool.or_self, Bool.false_eq_true, Bool.true_or, Bool.or_true, if_true, if_false, ite_true, ite_false, ↓reduceIte, List.length_cons, List.length_nil, Nat.reduceAdd, Nat.reduceLT, Nat.reduceLeDiff, Nat.reduceEqDiff, Int.reduceAdd, Int.reduceLE, Int.toNat_natCast, Int.reduceToNat, Int.cast_ofNat_Int, true_and, and_true, false_and, and_false, true_implies, forall_const, eq_self, and_self, or_true, true_or, or_self, false_or, or_false, yI_sI, yR_sI, yC_sI, yN_sI, yI_sR, yR_sR, yC_sR, yN_sR, not_true_eq_false, not_false_eq_true, false_implies, implies_true, Nat.zero_add, Nat.add_zero, Nat.le_refl, Nat.reduceSub, Int.reduceSub, Int.reduceLT, Int.sub_zero, Int.sub_self, List.getElem?_toArray, List.getElem?_cons_zero, List.getElem?_cons_succ, Int.toNat_zero, Int.toNat_one, Int.lt_irrefl, yI_sB, yR_sB, yC_sB, yN_sB, MSh_sB_eq, pP_search_0, stp_aload_n, pP_search_1, stp_iload_n, pP_search_2, stp_putfield, qfP_49, rp_6_12, fi_6_12, nr_6_12, ss_C6 hS', pP_search_5, pP_search_6, stp_ldc, qkP_69, pP_search_8, qfP_52, rp_6_13, fi_6_13, nr_6_13, pP_search_11, pP_search_12, stp_iconst, pP_search_13, qfP_43, rp_6_10, fi_6_10, nr_6_10, pP_search_16, pP_search_17, pP_search_18, qfP_46, rp_6_11, fi_6_11, nr_6_11, pP_search_21, pP_search_22, pP_search_23, pP_search_24, stp_invokevirtual, qmP_70, cy_P_tell, pP_search_27, pP_search_28, stp_getfield, pP_search_31, pP_search_33, stp_if_icmp_eq, pP_search_36, pP_search_37, stp_goto, pP_search_40, pP_search_41, stp_ireturn, ic_0, ic_1, nv_P_search, ml_P_search, kb', Option.isSome_some]
    exact ⟨rfl, h'⟩
end
/-- a way is laid from a to p, or is empty where there is none -/
def WyF (w : Wd) (x a p : Nat) : Prop := (dsM w a p < 1000000 → WyC w x (wyK (grf w) (dsM w) a p) (wyL (grf w) (dsM w) a p) ∧ wI w 8 x 3 = nI (dsM w a p) ∧ (¬ a = p → 0 < wyL (grf w) (dsM w) a p)) ∧ (¬ dsM w a p < 1000000 → wI w 8 x 2 = 0)
theorem WyF_cg {w w' : Wd} {x a p : Nat} (hg : grf w' = grf w) (hd : dsM w' = dsM w) (h6 : cn w' 6 = cn w 6) (h8 : ∀ q, wI w' 8 x q = wI w 8 x q) (h184 : ∀ q, wI w' 184 x q = wI w 184 x q) (h185 : ∀ q, wI w' 185 x q = wI w 185 x q) (h : WyF w x a p) : WyF w' x a p := by
  obtain ⟨h1, h2⟩ := h
  refine ⟨fun hf => ?_, fun hf => by rw [hd] at hf; rw [h8]; exact h2 hf⟩
  rw [hd] at hf ⊢
  rw [hg]
  obtain ⟨⟨a1, a2, a3⟩, a4, a5⟩ := h1 hf
  refine ⟨⟨by rw [h8]; exact a1, a2, fun i hi => ?_⟩, by rw [h8]; exact a4, a5⟩
  rw [h184, h185, hg, h6]
  exact a3 i hi
theorem WyF_fi {w : Wd} {a b x : Nat} (hC : Cpy w) (ha : a < cn w 3) (hb : b < cn w 3) : WyF (fiW w a b x) x a b := by
  have eg : grf (fiW w a b x) = grf w := SmW_g (SmW_fi w a b x _)
  have ed : dsM (fiW w a b x) = dsM w := SmW_d (SmW_fi w a b x _)
  have hM : Mtr (grf w) (cn w 3) (dsM w) := dst_ok hC.2.2.2.1.2.2.2.2.2
  have hg := hC.2.2.2.1.2.2.2.2.1
  have h14 := hC.2.2.2.1.2.1.2
  refine ⟨fun hf => ?_, fun hf => ?_⟩
  · rw [ed] at hf ⊢
    rw [eg]
    obtain ⟨s1, s2⟩ := wy_sum hg hM h14 ha hb hf
    obtain ⟨m1, m2, m3⟩ := wyL_ok hg hM h14 ha hb hf
    refine ⟨WyC_fi hC ha hb hf, ?_, fun hab => ?_⟩
    · unfold fiW
      rw [fiS_I, if_pos ⟨rfl, rfl, rfl⟩, s1]
    · rcases Nat.eq_zero_or_pos (wyL (grf w) (dsM w) a b) with z | z
      · rw [z] at m2
        exact absurd m2 hab
      · exact z
  · rw [ed] at hf
    have z : wyL (grf w) (dsM w) a b = 0 := if_pos (by omega)
    unfold fiW
    rw [fiS_I, if_neg (by omega), if_pos ⟨rfl, rfl, rfl⟩, z]
    rfl
