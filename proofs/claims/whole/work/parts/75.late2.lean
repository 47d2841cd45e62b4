/-! putOff and firstFree -/
/-- a way of the class holds m alleys κ and the minutes ahead of each -/
def WyC (w : Wd) (x : Nat) (κ : Nat → Nat) (m : Nat) : Prop := wI w 8 x 2 = nI m ∧ m ≤ 13 ∧ ∀ i, i < m → wI w 184 x i = nI (κ i) ∧ κ i < cn w 6 ∧ wI w 185 x i = nI (aN (grf w) κ i) ∧ aN (grf w) κ i ≤ 1000
theorem Cpy_mn {w : Wd} {k : Nat} (h : Cpy w) (hk : k < cn w 6) : mnA w k = gfT (grf w) k := by
  have := (Cpy_al h hk).2.2.2
  obtain ⟨-, -, -, t1, t2⟩ := h.2.2.2.1.2.2.2.2.1 k hk
  unfold mnA
  rw [this]
  exact nI_clamp (by omega)
theorem ffW_bd {w : Wd} {k y B : Nat} (hB : ∀ i, i < szA w k → tkv w k i + mnA w k ≤ B) (hy : y ≤ B) : ffW w k y ≤ B := ff_bd hB _ _ hy
theorem tk_bd {w : Wd} {E : List Ent} {k B : Nat} (h : CpE w E) (hC : Cpy w) (hB : enB (grf w) E B) (hk : k < cn w 6) (i : Nat) (hi : i < szA w k) : tkv w k i + mnA w k ≤ B := by
  have : tkv w k i ∈ (E.filter (fun e => decide (e.1 = k))).map (fun e => e.2) := by
    rw [← (h k hk).2]
    exact List.mem_map.mpr ⟨i, List.mem_range.mpr hi, rfl⟩
  obtain ⟨e, e1, e2⟩ := List.mem_map.mp this
  obtain ⟨f1, f2⟩ := List.mem_filter.mp e1
  have f3 : e.1 = k := of_decide_eq_true f2
  have := (hB e f1).2
  rw [Cpy_mn hC hk, ← e2, ← f3]
  exact this
theorem FOk_w {w : Wd} {E : List Ent} {x m : Nat} {κ : Nat → Nat} (hC : Cpy w) (hE : CpE w E) (hW : WyC w x κ m) : FOk (ffW w) (frN (grf w) E) κ m := fun i hi y => ffW_ok hE (hW.2.2 i hi).2.1 (Cpy_mn hC (hW.2.2 i hi).2.1) y
theorem po_bd {w : Wd} {E : List Ent} {x m B t : Nat} {κ : Nat → Nat} (hC : Cpy w) (hE : CpE w E) (hW : WyC w x κ m) (hB : enB (grf w) E B) (ht : t ≤ B) : ∀ i, i ≤ m → poN (ffW w) κ (aN (grf w) κ) i t ≤ B
  | 0, _ => ht
  | i + 1, hi => by
    have ih := po_bd hC hE hW hB ht i (by omega)
    obtain ⟨e1, e2⟩ := po_st (a := aN (grf w) κ) (t := t) (FOk_w hC hE hW) (show i < m by omega)
    have := ffW_bd (w := w) (k := κ i) (y := poN (ffW w) κ (aN (grf w) κ) i t + aN (grf w) κ i) (B := B + aN (grf w) κ i) (fun j hj => Nat.le_trans (tk_bd hE hC hB (hW.2.2 i (by omega)).2.1 j hj) (Nat.le_add_right _ _)) (by omega)
    omega
section
variable {l : Launch} {G : Gc} {n : Nat} {Q : Option AV → Wd → Prop} {w : Wd}
set_option maxRecDepth 100000 in
set_option maxHeartbeats 4000000 in
theorem stY_putOff {E : List Ent} {x m B t i : Nat} {κ : Nat → Nat} {l5 : Option AV} (hl : 3 < n) (hC : Cpy w) (hE : CpE w E) (hx : x < 17) (hW : WyC w x κ m) (hB : enB (grf w) E B) (ht : t ≤ B) (hBB : B < 4000000) (hi : i < m) (ih : ∀ l5, WP l G mY_putOff n 0 0 Q 5 [some (.inr (.inr (some (1, 0)))), some (.inr (.inr (some (8, x)))), some (.inl (nI t)), some (.inl (nI (poN (ffW w) κ (aN (grf w) κ) (i + 1) t))), some (.inl (nI (i + 1))), l5] [] w 0 0) : WP l G mY_putOff n 0 0 Q 5 [some (.inr (.inr (some (1, 0)))), some (.inr (.inr (some (8, x)))), some (.inl (nI t)), some (.inl (nI (poN (ffW w) κ (aN (grf w) κ) i t))), some (.inl (nI i)), l5] [] w 0 0 := by
  have hS := hC.1
  have hm := hW.2.1
  obtain ⟨w1, w2, w3, w4⟩ := hW.2.2 i hi
  have h20 := hC.2.2.2.1.2.2.1.2
  have r1 := ruW_alleyAt hS hx hW.1 hm hi
  have r2 := ruW_aheadOf hS hx hW.1 hm hi
  rw [w1] at r1
  rw [w3] at r2
  have rs := ruL_size hC.2.2.1.1
  have rg : fsL_get [.inr (.inr (some (2, 0))), .inl (nI (κ i))] w = some (some (.inr (.inr (some (9, κ i)))), w) := ruL_get hC.2.2.1.1 w2
  have pb := po_bd hC hE hW hB ht i (by omega)
  have rf := ruA_freeFrom (x := poN (ffW w) κ (aN (grf w) κ) i t + aN (grf w) κ i) (hE (κ i) w2).1 (by omega)
  obtain ⟨e1, e2⟩ := po_st (a := aN (grf w) κ) (t := t) (FOk_w hC hE hW) hi
  have pb2 := po_bd hC hE hW hB ht (i + 1) (by omega)
  have e3 : ffA (tkv w (κ i)) (szA w (κ i)) (mnA w (κ i)) (szA w (κ i) + 1) (poN (ffW w) κ (aN (grf w) κ) i t + aN (grf w) κ i) = poN (ffW w) κ (aN (grf w) κ) (i + 1) t + aN (grf w) κ i := e2.symm
  rw [e3] at rf
  have q1 : ¬ nI m ≤ nI i := nI_ge hi (by omega)
  have q2 : ¬ nI (κ i) < 0 := nI_pos (by omega)
  have q3 : ¬ nI (cn w 6) ≤ nI (κ i) := nI_ge w2 (by omega)
  have e4 : nI (poN (ffW w) κ (aN (grf w) κ) (i + 1) t + aN (grf w) κ i) - nI (aN (grf w) κ i) = nI (poN (ffW w) κ (aN (grf w) κ) (i + 1) t) := by
    rw [← nI_add, Int32.add_sub_cancel]
  have a1 := (Cpy_al hC w2).1
  have ih := ih (some (.inl (nI (κ i))))
  have hl1 : lvW_alleyAt < n := by show 1 < n; omega
  have hl2 : lvW_aheadOf < n := by show 1 < n; omega
  have hl3 : lvL_size < n := by show 1 < n; omega
  have hl4 : lvL_get < n := hl
  have hl5 : lvA_freeFrom < n := by show 2 < n; omega
  refine wpn_ok (M := mY_putOff) (C := cenY) (X := (alk [(92, lvW_alleyAt, fsW_alleyAt), (95, lvW_aheadOf, fsW_aheadOf), (57, lvL_size, fsL_size), (69, lvL_get, fsL_get), (98, lvA_freeFrom, fsA_freeFrom)])) (tb := tY_putOff) (st := [5]) eoY (XOk_cons qmY_92 (okW_alleyAt l G) (XOk_cons qmY_95 (okW_aheadOf l G) (XOk_cons qmY_57 (okL_size l G) (XOk_cons qmY_69 (okL_get l G) (XOk_cons qmY_98 (okA_freeFrom l G) XOk_nil))))) kY_putOff 60 _ _ _ _ _ _ ?_
  simp only [reduceCtorEq, fv0, fv1, fv2, fv3, bI_0, bI_1, bft, MSh_sI_eq, fsP_T, inL_0, inL_s, pad_0, pad_n, pad_s, wpn_s, wp1_s, lg_0, lg_s, lset_0, lset_s, kil_0, kil_s, st1_s, st2_s, isL_i, isL_l, isL_r, isL_n, spl_0, spl_s, cll_n, cll_s, catS_0, catS_s, jmp_s, alk_0, alk_s, otl_n, otl_s, List.nil_append, List.cons_append, List.contains_cons, List.contains_nil, Nat.reduceBEq, Bool.or_false, Bool.false_or, Bool.or_self, Bool.false_eq_true, Bool.true_or, Bool.or_true, if_true, if_false, ite_true, ite_false, ↓reduceIte, List.length_cons, List.length_nil, Nat.reduceAdd, Nat.reduceLT, Nat.reduceLeDiff, Nat.reduceEqDiff, Int.reduceAdd, Int.reduceLE, Int.toNat_natCast, Int.reduceToNat, Int.cast_ofNat_Int, true_and, and_true, false_and, and_false, true_implies, forall_const, eq_self, and_self, or_true, true_or, or_self, false_or, or_false, yI_sI, yR_sI, yC_sI, yN_sI, yI_sR, yR_sR, yC_sR, yN_sR, not_true_eq_false, not_false_eq_true, false_implies, implies_true, Nat.zero_add, Nat.add_zero, Nat.le_refl, Nat.reduceSub, Int.reduceSub, Int.reduceLT, Int.sub_zero, Int.sub_self, List.getElem?_toArray, List.getElem?_cons_zero, List.getElem?_cons_succ, Int.toNat_zero, Int.toNat_one, Int.lt_irrefl, yI_sB, yR_sB, yC_sB, yN_sB, MSh_sB_eq, pY_putOff_0, stp_iload_n, pY_putOff_1, stp_istore_n, pY_putOff_2, stp_iconst, pY_putOff_3, stp_istore, pY_putOff_5, stp_iload, pY_putOff_7, stp_aload_n, pY_putOff_8, stp_getfield, qfY_89, rp_8_2, pY_putOff_11, stp_if_icmp_ge, pY_putOff_14, pY_putOff_15, pY_putOff_17, stp_invokevirtual, qmY_92, cy_W_alleyAt, ss_C8 hS, pY_putOff_20, pY_putOff_22, pY_putOff_24, stp_ifCond_lt, pY_putOff_27, pY_putOff_29, pY_putOff_30, qfY_12, rp_1_0, ss_C1 hS, ss_R1_0 hS, ss_C2 hS, pY_putOff_33, qmY_57, cy_L_size, pY_putOff_36, pY_putOff_39, pY_putOff_40, pY_putOff_43, pY_putOff_45, qmY_69, cy_L_get, pY_putOff_48, stp_checkcast, qtY_39, pY_putOff_51, pY_putOff_52, pY_putOff_53, pY_putOff_55, qmY_95, cy_W_aheadOf, pY_putOff_58, stp_iadd, pY_putOff_59, qmY_98, cy_A_freeFrom, pY_putOff_62, pY_putOff_63, pY_putOff_65, pY_putOff_68, stp_isub, pY_putOff_69, pY_putOff_70, stp_iinc, pY_putOff_73, stp_goto, pY_putOff_76, pY_putOff_77, stp_ireturn, ic_0, ic_1, nv_Y_putOff, ml_Y_putOff, ss_C8 hS, hx, hW.1, r1, r2, rs, rg, rf, a1.1, q1, q2, q3, e4, hl1, hl2, hl3, hl4, hl5, nI_add, nI_1]
  exact ih
set_option maxRecDepth 100000 in
set_option maxHeartbeats 4000000 in
theorem lpY_putOff {E : List Ent} {x m B t : Nat} {κ : Nat → Nat} (hl : 3 < n) (hC : Cpy w) (hE : CpE w E) (hx : x < 17) (hW : WyC w x κ m) (hB : enB (grf w) E B) (ht : t ≤ B) (hBB : B < 4000000) (hQ : Q (some (.inl (nI (poN (ffW w) κ (aN (grf w) κ) m t)))) w) : ∀ c i l5, i + c = m → WP l G mY_putOff n 0 0 Q 5 [some (.inr (.inr (some (1, 0)))), some (.inr (.inr (some (8, x)))), some (.inl (nI t)), some (.inl (nI (poN (ffW w) κ (aN (grf w) κ) i t))), some (.inl (nI i)), l5] [] w 0 0
  | 0, i, l5, hi => by
    have e : i = m := hi
    subst e
    have hS := hC.1
    refine wpn_ok (M := mY_putOff) (C := cenY) (X := (alk [])) (tb := tY_putOff) (st := [5]) eoY XOk_nil kY_putOff 60 _ _ _ _ _ _ ?_
    simp only [reduceCtorEq, fv0, fv1, fv2, fv3, bI_0, bI_1, bft, MSh_sI_eq, fsP_T, inL_0, inL_s, pad_0, pad_n, pad_s, wpn_s, wp1_s, lg_0, lg_s, lset_0, lset_s, kil_0, kil_s, st1_s, st2_s, isL_i, isL_l, isL_r, isL_n, spl_0, spl_s, cll_n, cll_s, catS_0, catS_s, jmp_s, alk_0, alk_s, otl_n, otl_s, List.nil_append, List.cons_append, List.contains_cons, List.contains_nil, Nat.reduceBEq, Bool.or_false, Bool.false_or, Bool.or_self, Bool.false_eq_true, Bool.true_or, Bool.or_true, if_true, if_false, ite_true, ite_false, ↓reduceIte, List.length_cons, List.length_nil, Nat.reduceAdd, Nat.reduceLT, Nat.reduceLeDiff, Nat.reduceEqDiff, Int.reduceAdd, Int.reduceLE, Int.toNat_natCast, Int.reduceToNat, Int.cast_ofNat_Int, true_and, and_true, false_and, and_false, true_implies, forall_const, eq_self, and_self, or_true, true_or, or_self, false_or, or_false, yI_sI, yR_sI, yC_sI, yN_sI, yI_sR, yR_sR, yC_sR, yN_sR, not_true_eq_false, not_false_eq_true, false_implies, implies_true, Nat.zero_add, Nat.add_zero, Nat.le_refl, Nat.reduceSub, Int.reduceSub, Int.reduceLT, Int.sub_zero, Int.sub_self, List.getElem?_toArray, List.getElem?_cons_zero, List.getElem?_cons_succ, Int.toNat_zero, Int.toNat_one, Int.lt_irrefl, yI_sB, yR_sB, yC_sB, yN_sB, MSh_sB_eq, pY_putOff_0, stp_iload_n, pY_putOff_1, stp_istore_n, pY_putOff_2, stp_iconst, pY_putOff_3, stp_istore, pY_putOff_5, stp_iload, pY_putOff_7, stp_aload_n, pY_putOff_8, stp_getfield, qfY_89, rp_8_2, pY_putOff_11, stp_if_icmp_ge, pY_putOff_14, pY_putOff_15, pY_putOff_17, stp_invokevirtual, qmY_92, cy_W_alleyAt, ss_C8 hS, pY_putOff_20, pY_putOff_22, pY_putOff_24, stp_ifCond_lt, pY_putOff_27, pY_putOff_29, pY_putOff_30, qfY_12, rp_1_0, ss_C1 hS, ss_R1_0 hS, ss_C2 hS, pY_putOff_33, qmY_57, cy_L_size, pY_putOff_36, pY_putOff_39, pY_putOff_40, pY_putOff_43, pY_putOff_45, qmY_69, cy_L_get, pY_putOff_48, stp_checkcast, qtY_39, pY_putOff_51, pY_putOff_52, pY_putOff_53, pY_putOff_55, qmY_95, cy_W_aheadOf, pY_putOff_58, stp_iadd, pY_putOff_59, qmY_98, cy_A_freeFrom, pY_putOff_62, pY_putOff_63, pY_putOff_65, pY_putOff_68, stp_isub, pY_putOff_69, pY_putOff_70, stp_iinc, pY_putOff_73, stp_goto, pY_putOff_76, pY_putOff_77, stp_ireturn, ic_0, ic_1, nv_Y_putOff, ml_Y_putOff, ss_C8 hS, hx, hW.1, Int32.le_refl]
    exact hQ
  | c + 1, i, l5, hi => stY_putOff hl hC hE hx hW hB ht hBB (by omega) (fun l5' => lpY_putOff hl hC hE hx hW hB ht hBB hQ c (i + 1) l5' (by omega))
end
def wkC (w : Wd) (x i : Nat) : Nat := (wI w 184 x i).toNatClampNeg
theorem aN_cg {g : Gf} {κ κ' : Nat → Nat} : ∀ i, (∀ j, j < i → κ j = κ' j) → aN g κ i = aN g κ' i
  | 0, _ => rfl
  | i + 1, h => by rw [aN, aN, aN_cg i (fun j hj => h j (by omega)), h i (by omega)]
theorem mb_cg {g : Gf} {E E' : List Ent} {κ κ' : Nat → Nat} {m t : Nat} (h1 : ∀ i, i < m → κ i = κ' i) (h2 : ∀ i, i < m → ∀ x, frN g E (κ i) x = frN g E' (κ i) x) : mbN g E κ m t = mbN g E' κ' m t := by
  unfold mbN
  rw [anyN_congr (fun i hi => ?_)]
  rw [h2 i hi, ← h1 i hi, aN_cg i (fun j hj => h1 j (by omega))]
theorem lf_cg {g : Gf} {E E' : List Ent} {κ κ' : Nat → Nat} {m t : Nat} (h1 : ∀ i, i < m → κ i = κ' i) (h2 : ∀ i, i < m → ∀ x, frN g E (κ i) x = frN g E' (κ i) x) : lfN g E κ m t = lfN g E' κ' m t := by
  unfold lfN
  rw [funext (fun d => mb_cg (t := t + d) h1 h2)]
theorem fr_un {w : Wd} {E E' : List Ent} {k : Nat} (h : CpE w E) (h' : CpE w E') (hk : k < cn w 6) (x : Nat) : frN (grf w) E k x = frN (grf w) E' k x := by
  have := (fr_cp h hk x).trans (fr_cp h' hk x).symm
  cases q : frN (grf w) E k x
  · cases q' : frN (grf w) E' k x
    · rfl
    · rw [q, q'] at this; exact absurd (this.mpr rfl) Bool.false_ne_true
  · exact (this.mp q).symm
theorem WyC_k {w : Wd} {x m : Nat} {κ : Nat → Nat} (h6 : cn w 6 < 2 ^ 31) (h : WyC w x κ m) : wlN w x = m ∧ ∀ i, i < m → wkC w x i = κ i := by
  refine ⟨by unfold wlN; rw [h.1]; exact nI_clamp (by have := h.2.1; omega), fun i hi => ?_⟩
  obtain ⟨h1, h2, -⟩ := h.2.2 i hi
  unfold wkC
  rw [h1]
  exact nI_clamp (by omega)
theorem WyC_c {w : Wd} {x m : Nat} {κ : Nat → Nat} (h6 : cn w 6 < 2 ^ 31) (h : WyC w x κ m) : WyC w x (wkC w x) (wlN w x) := by
  obtain ⟨e1, e2⟩ := WyC_k h6 h
  rw [e1]
  refine ⟨h.1, h.2.1, fun i hi => ?_⟩
  rw [e2 i hi, aN_cg i (fun j hj => e2 j (by omega))]
  exact h.2.2 i hi
abbrev lvY_putOff : Nat := 4
noncomputable def fsY_putOff : FS := fun as w => match as with
  | [.inr (.inr (some (1, 0))), .inr (.inr (some (8, x))), .inl y] => fsP (Cpy w ∧ x < 17 ∧ WyC w x (wkC w x) (wlN w x) ∧ ∃ E B t, CpE w E ∧ enB (grf w) E B ∧ t ≤ B ∧ B < 4000000 ∧ y = nI t) (some (.inl (nI (poN (ffW w) (wkC w x) (aN (grf w) (wkC w x)) (wlN w x) y.toNatClampNeg))), w)
  | _ => none
set_option maxRecDepth 100000 in
set_option maxHeartbeats 4000000 in
theorem okY_putOff (l : Launch) (G : Gc) : FsOk l G mY_putOff lvY_putOff fsY_putOff := by
  intro as w r w' h
  simp only [fsY_putOff] at h
  split at h
  · rename_i x y
    obtain ⟨⟨hC, hx, hW, E, B, t, hE, hB, ht, hBB, hy⟩, h⟩ := fsP_s h
    cases h
    subst hy
    rw [nI_clamp (by omega)]
    have hS := hC.1
    refine Sem_of (by decide) rfl (Nat.le_of_ble_eq_true rfl) ?_
    refine wpn_ok (M := mY_putOff) (C := cenY) (X := (alk [])) (tb := tY_putOff) (st := [5]) eoY XOk_nil kY_putOff 60 _ _ _ _ _ _ ?_
    simp only [reduceCtorEq, fv0, fv1, fv2, fv3, bI_0, bI_1, bft, MSh_sI_eq, fsP_T, inL_0, inL_s, pad_0, pad_n, pad_s, wpn_s, wp1_s, lg_0, lg_s, lset_0, lset_s, kil_0, kil_s, st1_s, st2_s, isL_i, isL_l, isL_r, isL_n, spl_0, spl_s, cll_n, cll_s, catS_0, catS_s, jmp_s, alk_0, alk_s, otl_n, otl_s, List.nil_append, List.cons_append, List.contains_cons, List.contains_nil, Nat.reduceBEq, Bool.or_false, Bool.false_or, Bool.or_self, Bool.false_eq_true, Bool.true_or, Bool.or_true, if_true, if_false, ite_true, ite_false, ↓reduceIte, List.length_cons, List.length_nil, Nat.reduceAdd, Nat.reduceLT, Nat.reduceLeDiff, Nat.reduceEqDiff, Int.reduceAdd, Int.reduceLE, Int.toNat_natCast, Int.reduceToNat, Int.cast_ofNat_Int, true_and, and_true, false_and, and_false, true_implies, forall_const, eq_self, and_self, or_true, true_or, or_self, false_or, or_false, yI_sI, yR_sI, yC_sI, yN_sI, yI_sR, yR_sR, yC_sR, yN_sR, not_true_eq_false, not_false_eq_true, false_implies, implies_true, Nat.zero_add, Nat.add_zero, Nat.le_refl, Nat.reduceSub, Int.reduceSub, Int.reduceLT, Int.sub_zero, Int.sub_self, List.getElem?_toArray, List.getElem?_cons_zero, List.getElem?_cons_succ, Int.toNat_zero, Int.toNat_one, Int.lt_irrefl, yI_sB, yR_sB, yC_sB, yN_sB, MSh_sB_eq, pY_putOff_0, stp_iload_n, pY_putOff_1, stp_istore_n, pY_putOff_2, stp_iconst, pY_putOff_3, stp_istore, pY_putOff_5, stp_iload, pY_putOff_7, stp_aload_n, pY_putOff_8, stp_getfield, qfY_89, rp_8_2, pY_putOff_11, stp_if_icmp_ge, pY_putOff_14, pY_putOff_15, pY_putOff_17, stp_invokevirtual, qmY_92, cy_W_alleyAt, ss_C8 hS, pY_putOff_20, pY_putOff_22, pY_putOff_24, stp_ifCond_lt, pY_putOff_27, pY_putOff_29, pY_putOff_30, qfY_12, rp_1_0, ss_C1 hS, ss_R1_0 hS, ss_C2 hS, pY_putOff_33, qmY_57, cy_L_size, pY_putOff_36, pY_putOff_39, pY_putOff_40, pY_putOff_43, pY_putOff_45, qmY_69, cy_L_get, pY_putOff_48, stp_checkcast, qtY_39, pY_putOff_51, pY_putOff_52, pY_putOff_53, pY_putOff_55, qmY_95, cy_W_aheadOf, pY_putOff_58, stp_iadd, pY_putOff_59, qmY_98, cy_A_freeFrom, pY_putOff_62, pY_putOff_63, pY_putOff_65, pY_putOff_68, stp_isub, pY_putOff_69, pY_putOff_70, stp_iinc, pY_putOff_73, stp_goto, pY_putOff_76, pY_putOff_77, stp_ireturn, ic_0, ic_1, nv_Y_putOff, ml_Y_putOff]
    exact lpY_putOff (by decide) hC hE hx hW hB ht hBB ⟨rfl, rfl⟩ (wlN w x) 0 none (by omega)
  · cases h
theorem ruY_putOff {w : Wd} {E : List Ent} {x B t : Nat} (hC : Cpy w) (hx : x < 17) (hW : WyC w x (wkC w x) (wlN w x)) (hE : CpE w E) (hB : enB (grf w) E B) (ht : t ≤ B) (hBB : B < 4000000) : fsY_putOff [.inr (.inr (some (1, 0))), .inr (.inr (some (8, x))), .inl (nI t)] w = some (some (.inl (nI (poN (ffW w) (wkC w x) (aN (grf w) (wkC w x)) (wlN w x) t))), w) := by
  have : fsY_putOff [.inr (.inr (some (1, 0))), .inr (.inr (some (8, x))), .inl (nI t)] w = fsP (Cpy w ∧ x < 17 ∧ WyC w x (wkC w x) (wlN w x) ∧ ∃ E B z, CpE w E ∧ enB (grf w) E B ∧ z ≤ B ∧ B < 4000000 ∧ nI t = nI z) (some (.inl (nI (poN (ffW w) (wkC w x) (aN (grf w) (wkC w x)) (wlN w x) (nI t).toNatClampNeg))), w) := rfl
  rw [this, nI_clamp (by omega)]
  exact fsP_t ⟨hC, hx, hW, E, B, t, hE, hB, ht, hBB, rfl⟩
