/-! what rules say -/
def lstN (f : Nat → Bool) : Nat → Option Nat
  | 0 => none
  | n + 1 => if f n = true then some n else lstN f n
theorem lstN_s {f : Nat → Bool} {n j : Nat} (h : lstN f n = some j) : j < n ∧ f j = true := by
  induction n with
  | zero => cases h
  | succ n ih =>
    simp only [lstN] at h
    split at h
    · rename_i hf
      cases h
      exact ⟨by omega, hf⟩
    · obtain ⟨h1, h2⟩ := ih h
      exact ⟨by omega, h2⟩
theorem lstN_congr {f g : Nat → Bool} {n : Nat} (h : ∀ j, j < n → f j = g j) : lstN f n = lstN g n := by
  induction n with
  | zero => rfl
  | succ n ih => simp only [lstN, ih (fun j hj => h j (by omega)), h n (by omega)]
def sdF (w : Wd) (k : Int32) (j : Nat) (b : Int32) : Nat → Bool := fun r => decide (wI w 149 0 r = k) && hdB w r j b
def sdV (w : Wd) (k : Int32) : Option Nat → Int32
  | some r => wI w 150 0 r
  | none => if k = 3 then 1440 else 0
/-- what a key says -/
def sdI (w : Wd) (k : Int32) (j : Nat) (b : Int32) : Int32 := sdV w k (lstN (sdF w k j b) (cn w 48))
theorem nI_pr (n : Nat) : nI n + -1 = nI n - 1 := by rw [Int32.sub_eq_add_neg]
section
variable {l : Launch} {G : Gc} {n : Nat} {Q : Option AV → Wd → Prop} {w : Wd}
set_option maxRecDepth 100000 in
set_option maxHeartbeats 4000000 in
theorem lpM_saidBy {k v b : Int32} (hl1 : 4 < n) (hS : MSh w) (hR : okR w) (hv : vp_in v 24) : ∀ i, i ≤ cn w 48 → Q (some (.inl (sdV w k (lstN (sdF w k v.toNatClampNeg b) i)))) w → WP l G mM_saidBy n 0 0 Q 8 [some aM, some (.inl k), some (.inl v), some (.inl b), some (.inl (nI i - 1))] [] w 0 0
  | 0, hi, hQ => by
    have h1 : nI 0 - 1 < 0 := by decide
    refine wpn_ok (M := mM_saidBy) (C := cenM) (X := (alk [(308, lvM_holdsFor, fsM_holdsFor)])) (tb := tM_saidBy) (st := [8]) eoM (XOk_cons qmM_308 (okM_holdsFor l G) XOk_nil) kM_saidBy 60 _ _ _ _ _ _ ?_
    simp only [fv0, fv1, fv2, fv3, bI_0, bI_1, bft, MSh_sI_eq, fsP_T, inL_0, inL_s, pad_0, pad_n, pad_s, wpn_s, wp1_s, lg_0, lg_s, lset_0, lset_s, kil_0, kil_s, st1_s, st2_s, isL_i, isL_l, isL_r, isL_n, spl_0, spl_s, cll_n, cll_s, catS_0, catS_s, jmp_s, alk_0, alk_s, otl_n, otl_s, List.nil_append, List.cons_append, List.contains_cons, List.contains_nil, Nat.reduceBEq, Bool.or_false, Bool.false_or, Bool.or_self, Bool.false_eq_true, Bool.true_or, Bool.or_true, if_true, if_false, ite_true, ite_false, ↓reduceIte, List.length_cons, List.length_nil, Nat.reduceAdd, Nat.reduceLT, Nat.reduceLeDiff, Nat.reduceEqDiff, Int.reduceAdd, Int.reduceLE, Int.toNat_natCast, Int.reduceToNat, Int.cast_ofNat_Int, true_and, and_true, true_implies, forall_const, eq_self, and_self, or_true, true_or, or_self, false_or, or_false, yI_sI, yR_sI, yC_sI, yN_sI, yI_sR, yR_sR, yC_sR, yN_sR, not_true_eq_false, not_false_eq_true, false_implies, implies_true, Nat.zero_add, Nat.add_zero, Nat.le_refl, Nat.reduceSub, Int.reduceSub, Int.reduceLT, Int.sub_zero, Int.sub_self, List.getElem?_toArray, List.getElem?_cons_zero, List.getElem?_cons_succ, Int.toNat_zero, Int.toNat_one, Int.lt_irrefl, pM_saidBy_0, stp_aload_n, pM_saidBy_1, stp_getfield, qfM_288, rp_13_48, ms_C13 hS, pM_saidBy_4, stp_iconst, pM_saidBy_5, stp_isub, pM_saidBy_6, stp_istore, pM_saidBy_8, stp_iload, pM_saidBy_10, stp_ifCond_lt, pM_saidBy_13, pM_saidBy_14, qfM_123, rp_13_49, ms_R49 hS, ms_C149 hS, ms_N149 hS, pM_saidBy_17, pM_saidBy_19, stp_iaload, pM_saidBy_20, stp_iload_n, pM_saidBy_21, stp_if_icmp_ne, pM_saidBy_24, pM_saidBy_25, pM_saidBy_27, pM_saidBy_28, pM_saidBy_29, stp_invokevirtual, qmM_308, cy_M_holdsFor, pM_saidBy_32, stp_ifCond_eq, pM_saidBy_35, pM_saidBy_36, qfM_126, rp_13_50, ms_R50 hS, ms_C150 hS, ms_N150 hS, pM_saidBy_39, pM_saidBy_41, pM_saidBy_42, stp_ireturn, pM_saidBy_43, stp_iinc, pM_saidBy_46, stp_goto, pM_saidBy_49, pM_saidBy_50, pM_saidBy_51, pM_saidBy_54, stp_sipush, pM_saidBy_57, pM_saidBy_60, pM_saidBy_61, ic_1, ic_m1, ic_3, sp_1440, ic_0, nv_M_saidBy, ml_M_saidBy, h1]
    by_cases e : k = 3
    · simp [e, sdV, lstN] at hQ ⊢
      exact hQ
    · simp [e, sdV, lstN] at hQ ⊢
      exact hQ
  | i + 1, hi, hQ => by
    have h10 := hR.1.2
    have ih := lpM_saidBy (k := k) (b := b) hl1 hS hR hv i (by omega)
    have h1 : ¬ nI i < 0 := nI_pos (by omega)
    have h2 : vp_in (nI i) 11 := vp_in_nI (by omega) (by omega)
    have h3 : (nI i).toNatClampNeg = i := nI_clamp (by omega)
    have ru := ruM_holdsFor (b := b) (r := i) hS hR (by omega) hv
    rw [nI_pred]
    refine wpn_ok (M := mM_saidBy) (C := cenM) (X := (alk [(308, lvM_holdsFor, fsM_holdsFor)])) (tb := tM_saidBy) (st := [8]) eoM (XOk_cons qmM_308 (okM_holdsFor l G) XOk_nil) kM_saidBy 60 _ _ _ _ _ _ ?_
    simp only [fv0, fv1, fv2, fv3, bI_0, bI_1, bft, MSh_sI_eq, fsP_T, inL_0, inL_s, pad_0, pad_n, pad_s, wpn_s, wp1_s, lg_0, lg_s, lset_0, lset_s, kil_0, kil_s, st1_s, st2_s, isL_i, isL_l, isL_r, isL_n, spl_0, spl_s, cll_n, cll_s, catS_0, catS_s, jmp_s, alk_0, alk_s, otl_n, otl_s, List.nil_append, List.cons_append, List.contains_cons, List.contains_nil, Nat.reduceBEq, Bool.or_false, Bool.false_or, Bool.or_self, Bool.false_eq_true, Bool.true_or, Bool.or_true, if_true, if_false, ite_true, ite_false, ↓reduceIte, List.length_cons, List.length_nil, Nat.reduceAdd, Nat.reduceLT, Nat.reduceLeDiff, Nat.reduceEqDiff, Int.reduceAdd, Int.reduceLE, Int.toNat_natCast, Int.reduceToNat, Int.cast_ofNat_Int, true_and, and_true, true_implies, forall_const, eq_self, and_self, or_true, true_or, or_self, false_or, or_false, yI_sI, yR_sI, yC_sI, yN_sI, yI_sR, yR_sR, yC_sR, yN_sR, not_true_eq_false, not_false_eq_true, false_implies, implies_true, Nat.zero_add, Nat.add_zero, Nat.le_refl, Nat.reduceSub, Int.reduceSub, Int.reduceLT, Int.sub_zero, Int.sub_self, List.getElem?_toArray, List.getElem?_cons_zero, List.getElem?_cons_succ, Int.toNat_zero, Int.toNat_one, Int.lt_irrefl, pM_saidBy_0, stp_aload_n, pM_saidBy_1, stp_getfield, qfM_288, rp_13_48, ms_C13 hS, pM_saidBy_4, stp_iconst, pM_saidBy_5, stp_isub, pM_saidBy_6, stp_istore, pM_saidBy_8, stp_iload, pM_saidBy_10, stp_ifCond_lt, pM_saidBy_13, pM_saidBy_14, qfM_123, rp_13_49, ms_R49 hS, ms_C149 hS, ms_N149 hS, pM_saidBy_17, pM_saidBy_19, stp_iaload, pM_saidBy_20, stp_iload_n, pM_saidBy_21, stp_if_icmp_ne, pM_saidBy_24, pM_saidBy_25, pM_saidBy_27, pM_saidBy_28, pM_saidBy_29, stp_invokevirtual, qmM_308, cy_M_holdsFor, pM_saidBy_32, stp_ifCond_eq, pM_saidBy_35, pM_saidBy_36, qfM_126, rp_13_50, ms_R50 hS, ms_C150 hS, ms_N150 hS, pM_saidBy_39, pM_saidBy_41, pM_saidBy_42, stp_ireturn, pM_saidBy_43, stp_iinc, pM_saidBy_46, stp_goto, pM_saidBy_49, pM_saidBy_50, pM_saidBy_51, pM_saidBy_54, stp_sipush, pM_saidBy_57, pM_saidBy_60, pM_saidBy_61, ic_1, ic_m1, ic_3, sp_1440, ic_0, nv_M_saidBy, ml_M_saidBy, h1, h2, h3, ru, lvM_holdsFor, hl1, nI_pr]
    by_cases hk : wI w 149 0 i = k
    · cases hh : hdB w i v.toNatClampNeg b
      · simp only [lstN, sdF, hk, hh] at hQ
        simp [hk]
        exact ih hQ
      · simp only [lstN, sdF, hk, hh] at hQ
        simp [hk]
        exact hQ
    · simp only [lstN, sdF, hk] at hQ
      simp [hk]
      exact ih hQ
end
abbrev lvM_saidBy : Nat := 5
noncomputable def fsM_saidBy : FS := fun as w => match as with
  | [.inr (.inr (some (13, 0))), .inl k, .inl v, .inl b] => fsP (MSh w ∧ okR w ∧ vp_in v 24) (some (.inl (sdI w k v.toNatClampNeg b)), w)
  | _ => none
set_option maxRecDepth 100000 in
set_option maxHeartbeats 4000000 in
theorem okM_saidBy (l : Launch) (G : Gc) : FsOk l G mM_saidBy lvM_saidBy fsM_saidBy := by
  intro as w r w' h
  simp only [fsM_saidBy] at h
  split at h
  · rename_i k v b
    obtain ⟨⟨hS, hR, hv⟩, h⟩ := fsP_s h
    cases h
    refine Sem_of (by decide) rfl (Nat.le_of_ble_eq_true rfl) ?_
    refine wpn_ok (M := mM_saidBy) (C := cenM) (X := (alk [(308, lvM_holdsFor, fsM_holdsFor)])) (tb := tM_saidBy) (st := [8]) eoM (XOk_cons qmM_308 (okM_holdsFor l G) XOk_nil) kM_saidBy 60 _ _ _ _ _ _ ?_
    simp only [fv0, fv1, fv2, fv3, bI_0, bI_1, bft, MSh_sI_eq, fsP_T, inL_0, inL_s, pad_0, pad_n, pad_s, wpn_s, wp1_s, lg_0, lg_s, lset_0, lset_s, kil_0, kil_s, st1_s, st2_s, isL_i, isL_l, isL_r, isL_n, spl_0, spl_s, cll_n, cll_s, catS_0, catS_s, jmp_s, alk_0, alk_s, otl_n, otl_s, List.nil_append, List.cons_append, List.contains_cons, List.contains_nil, Nat.reduceBEq, Bool.or_false, Bool.false_or, Bool.or_self, Bool.false_eq_true, Bool.true_or, Bool.or_true, if_true, if_false, ite_true, ite_false, ↓reduceIte, List.length_cons, List.length_nil, Nat.reduceAdd, Nat.reduceLT, Nat.reduceLeDiff, Nat.reduceEqDiff, Int.reduceAdd, Int.reduceLE, Int.toNat_natCast, Int.reduceToNat, Int.cast_ofNat_Int, true_and, and_true, true_implies, forall_const, eq_self, and_self, or_true, true_or, or_self, false_or, or_false, yI_sI, yR_sI, yC_sI, yN_sI, yI_sR, yR_sR, yC_sR, yN_sR, not_true_eq_false, not_false_eq_true, false_implies, implies_true, Nat.zero_add, Nat.add_zero, Nat.le_refl, Nat.reduceSub, Int.reduceSub, Int.reduceLT, Int.sub_zero, Int.sub_self, List.getElem?_toArray, List.getElem?_cons_zero, List.getElem?_cons_succ, Int.toNat_zero, Int.toNat_one, Int.lt_irrefl, pM_saidBy_0, stp_aload_n, pM_saidBy_1, stp_getfield, qfM_288, rp_13_48, ms_C13 hS, pM_saidBy_4, stp_iconst, pM_saidBy_5, stp_isub, pM_saidBy_6, stp_istore, pM_saidBy_8, stp_iload, pM_saidBy_10, stp_ifCond_lt, pM_saidBy_13, pM_saidBy_14, qfM_123, rp_13_49, ms_R49 hS, ms_C149 hS, ms_N149 hS, pM_saidBy_17, pM_saidBy_19, stp_iaload, pM_saidBy_20, stp_iload_n, pM_saidBy_21, stp_if_icmp_ne, pM_saidBy_24, pM_saidBy_25, pM_saidBy_27, pM_saidBy_28, pM_saidBy_29, stp_invokevirtual, qmM_308, cy_M_holdsFor, pM_saidBy_32, stp_ifCond_eq, pM_saidBy_35, pM_saidBy_36, qfM_126, rp_13_50, ms_R50 hS, ms_C150 hS, ms_N150 hS, pM_saidBy_39, pM_saidBy_41, pM_saidBy_42, stp_ireturn, pM_saidBy_43, stp_iinc, pM_saidBy_46, stp_goto, pM_saidBy_49, pM_saidBy_50, pM_saidBy_51, pM_saidBy_54, stp_sipush, pM_saidBy_57, pM_saidBy_60, pM_saidBy_61, ic_1, ic_m1, ic_3, sp_1440, ic_0, nv_M_saidBy, ml_M_saidBy, hR.1.1]
    exact lpM_saidBy (by decide) hS hR hv (cn w 48) (Nat.le_refl _) ⟨rfl, rfl⟩
  · cases h
theorem ruM_saidBy {w : Wd} {k v b : Int32} (hS : MSh w) (hR : okR w) (hv : vp_in v 24) : fsM_saidBy [.inr (.inr (some (13, 0))), .inl k, .inl v, .inl b] w = some (some (.inl (sdI w k v.toNatClampNeg b)), w) := fsP_t ⟨hS, hR, hv⟩
def brF (w : Wd) (b : Int32) (j : Nat) : Nat → Bool := fun r => decide (wI w 149 0 r = 2) && (decide (wI w 150 0 r = b) && hdB w r j b)
/-- the buyer is barred -/
def brB (w : Wd) (b : Int32) (j : Nat) : Bool := anyN (brF w b j) (cn w 48)
section
variable {l : Launch} {G : Gc} {n : Nat} {Q : Option AV → Wd → Prop} {w : Wd}
set_option maxRecDepth 100000 in
set_option maxHeartbeats 4000000 in
theorem lpM_isBarred {v b : Int32} (hl1 : 4 < n) (hS : MSh w) (hR : okR w) (hv : vp_in v 24) (hQ : Q (some (.inl (bI (brB w b v.toNatClampNeg)))) w) : ∀ k i, i + k = cn w 48 → WP l G mM_isBarred n 0 0 Q 5 [some aM, some (.inl b), some (.inl v), some (.inl (bI (anyN (brF w b v.toNatClampNeg) i))), some (.inl (nI i))] [] w 0 0
  | 0, i, hi => by
    have e : i = cn w 48 := hi
    subst e
    refine wpn_ok (M := mM_isBarred) (C := cenM) (X := (alk [(308, lvM_holdsFor, fsM_holdsFor)])) (tb := tM_isBarred) (st := [5]) eoM (XOk_cons qmM_308 (okM_holdsFor l G) XOk_nil) kM_isBarred 60 _ _ _ _ _ _ ?_
    simp only [fv0, fv1, fv2, fv3, bI_0, bI_1, bft, MSh_sI_eq, fsP_T, inL_0, inL_s, pad_0, pad_n, pad_s, wpn_s, wp1_s, lg_0, lg_s, lset_0, lset_s, kil_0, kil_s, st1_s, st2_s, isL_i, isL_l, isL_r, isL_n, spl_0, spl_s, cll_n, cll_s, catS_0, catS_s, jmp_s, alk_0, alk_s, otl_n, otl_s, List.nil_append, List.cons_append, List.contains_cons, List.contains_nil, Nat.reduceBEq, Bool.or_false, Bool.false_or, Bool.or_self, Bool.false_eq_true, Bool.true_or, Bool.or_true, if_true, if_false, ite_true, ite_false, ↓reduceIte, List.length_cons, List.length_nil, Nat.reduceAdd, Nat.reduceLT, Nat.reduceLeDiff, Nat.reduceEqDiff, Int.reduceAdd, Int.reduceLE, Int.toNat_natCast, Int.reduceToNat, Int.cast_ofNat_Int, true_and, and_true, true_implies, forall_const, eq_self, and_self, or_true, true_or, or_self, false_or, or_false, yI_sI, yR_sI, yC_sI, yN_sI, yI_sR, yR_sR, yC_sR, yN_sR, not_true_eq_false, not_false_eq_true, false_implies, implies_true, Nat.zero_add, Nat.add_zero, Nat.le_refl, Nat.reduceSub, Int.reduceSub, Int.reduceLT, Int.sub_zero, Int.sub_self, List.getElem?_toArray, List.getElem?_cons_zero, List.getElem?_cons_succ, Int.toNat_zero, Int.toNat_one, Int.lt_irrefl, pM_isBarred_0, stp_iconst, pM_isBarred_1, stp_istore_n, pM_isBarred_2, pM_isBarred_3, stp_istore, pM_isBarred_5, stp_iload, pM_isBarred_7, stp_aload_n, pM_isBarred_8, stp_getfield, qfM_288, rp_13_48, ms_C13 hS, pM_isBarred_11, stp_if_icmp_ge, pM_isBarred_14, stp_iload_n, pM_isBarred_15, stp_ifCond_ne, pM_isBarred_18, pM_isBarred_19, qfM_123, rp_13_49, ms_R49 hS, ms_C149 hS, ms_N149 hS, pM_isBarred_22, pM_isBarred_24, stp_iaload, pM_isBarred_25, pM_isBarred_26, stp_if_icmp_ne, pM_isBarred_29, pM_isBarred_30, qfM_126, rp_13_50, ms_R50 hS, ms_C150 hS, ms_N150 hS, pM_isBarred_33, pM_isBarred_35, pM_isBarred_36, pM_isBarred_37, pM_isBarred_40, pM_isBarred_41, pM_isBarred_43, pM_isBarred_44, pM_isBarred_45, stp_invokevirtual, qmM_308, cy_M_holdsFor, pM_isBarred_48, stp_ifCond_eq, pM_isBarred_51, pM_isBarred_52, stp_goto, pM_isBarred_55, pM_isBarred_56, pM_isBarred_57, stp_iinc, pM_isBarred_60, pM_isBarred_63, pM_isBarred_64, stp_ireturn, ic_0, ic_2, ic_1, nv_M_isBarred, ml_M_isBarred, ← hR.1.1, Int32.le_refl]
    exact hQ
  | k + 1, i, hi => by
    have ih := lpM_isBarred hl1 hS hR hv hQ k (i + 1) (by omega)
    have h10 := hR.1.2
    have hn := hR.1.1
    have h1 : ¬ wI w 13 0 48 ≤ nI i := by rw [hn]; exact nI_ge (by omega) (by omega)
    have h2 : vp_in (nI i) 11 := vp_in_nI (by omega) (by omega)
    have h3 : (nI i).toNatClampNeg = i := nI_clamp (by omega)
    have ru := ruM_holdsFor (b := b) (r := i) hS hR (by omega) hv
    refine wpn_ok (M := mM_isBarred) (C := cenM) (X := (alk [(308, lvM_holdsFor, fsM_holdsFor)])) (tb := tM_isBarred) (st := [5]) eoM (XOk_cons qmM_308 (okM_holdsFor l G) XOk_nil) kM_isBarred 60 _ _ _ _ _ _ ?_
    simp only [fv0, fv1, fv2, fv3, bI_0, bI_1, bft, MSh_sI_eq, fsP_T, inL_0, inL_s, pad_0, pad_n, pad_s, wpn_s, wp1_s, lg_0, lg_s, lset_0, lset_s, kil_0, kil_s, st1_s, st2_s, isL_i, isL_l, isL_r, isL_n, spl_0, spl_s, cll_n, cll_s, catS_0, catS_s, jmp_s, alk_0, alk_s, otl_n, otl_s, List.nil_append, List.cons_append, List.contains_cons, List.contains_nil, Nat.reduceBEq, Bool.or_false, Bool.false_or, Bool.or_self, Bool.false_eq_true, Bool.true_or, Bool.or_true, if_true, if_false, ite_true, ite_false, ↓reduceIte, List.length_cons, List.length_nil, Nat.reduceAdd, Nat.reduceLT, Nat.reduceLeDiff, Nat.reduceEqDiff, Int.reduceAdd, Int.reduceLE, Int.toNat_natCast, Int.reduceToNat, Int.cast_ofNat_Int, true_and, and_true, true_implies, forall_const, eq_self, and_self, or_true, true_or, or_self, false_or, or_false, yI_sI, yR_sI, yC_sI, yN_sI, yI_sR, yR_sR, yC_sR, yN_sR, not_true_eq_false, not_false_eq_true, false_implies, implies_true, Nat.zero_add, Nat.add_zero, Nat.le_refl, Nat.reduceSub, Int.reduceSub, Int.reduceLT, Int.sub_zero, Int.sub_self, List.getElem?_toArray, List.getElem?_cons_zero, List.getElem?_cons_succ, Int.toNat_zero, Int.toNat_one, Int.lt_irrefl, pM_isBarred_0, stp_iconst, pM_isBarred_1, stp_istore_n, pM_isBarred_2, pM_isBarred_3, stp_istore, pM_isBarred_5, stp_iload, pM_isBarred_7, stp_aload_n, pM_isBarred_8, stp_getfield, qfM_288, rp_13_48, ms_C13 hS, pM_isBarred_11, stp_if_icmp_ge, pM_isBarred_14, stp_iload_n, pM_isBarred_15, stp_ifCond_ne, pM_isBarred_18, pM_isBarred_19, qfM_123, rp_13_49, ms_R49 hS, ms_C149 hS, ms_N149 hS, pM_isBarred_22, pM_isBarred_24, stp_iaload, pM_isBarred_25, pM_isBarred_26, stp_if_icmp_ne, pM_isBarred_29, pM_isBarred_30, qfM_126, rp_13_50, ms_R50 hS, ms_C150 hS, ms_N150 hS, pM_isBarred_33, pM_isBarred_35, pM_isBarred_36, pM_isBarred_37, pM_isBarred_40, pM_isBarred_41, pM_isBarred_43, pM_isBarred_44, pM_isBarred_45, stp_invokevirtual, qmM_308, cy_M_holdsFor, pM_isBarred_48, stp_ifCond_eq, pM_isBarred_51, pM_isBarred_52, stp_goto, pM_isBarred_55, pM_isBarred_56, pM_isBarred_57, stp_iinc, pM_isBarred_60, pM_isBarred_63, pM_isBarred_64, stp_ireturn, ic_0, ic_2, ic_1, nv_M_isBarred, ml_M_isBarred, h1, h2, h3, ru, lvM_holdsFor, hl1, nI_1]
    cases ha : anyN (brF w b v.toNatClampNeg) i <;> by_cases hb : wI w 149 0 i = 2 <;> by_cases hc : wI w 150 0 i = b <;> cases hd : hdB w i v.toNatClampNeg b <;> simp only [anyN, ha] at ih <;> simp [brF, hb, hc, hd, bI] at ih ⊢ <;> exact ih
end
abbrev lvM_isBarred : Nat := 5
noncomputable def fsM_isBarred : FS := fun as w => match as with
  | [.inr (.inr (some (13, 0))), .inl b, .inl v] => fsP (MSh w ∧ okR w ∧ vp_in v 24) (some (.inl (bI (brB w b v.toNatClampNeg))), w)
  | _ => none
set_option maxRecDepth 100000 in
set_option maxHeartbeats 4000000 in
theorem okM_isBarred (l : Launch) (G : Gc) : FsOk l G mM_isBarred lvM_isBarred fsM_isBarred := by
  intro as w r w' h
  simp only [fsM_isBarred] at h
  split at h
  · rename_i b v
    obtain ⟨⟨hS, hR, hv⟩, h⟩ := fsP_s h
    cases h
    refine Sem_of (by decide) rfl (Nat.le_of_ble_eq_true rfl) ?_
    refine wpn_ok (M := mM_isBarred) (C := cenM) (X := (alk [(308, lvM_holdsFor, fsM_holdsFor)])) (tb := tM_isBarred) (st := [5]) eoM (XOk_cons qmM_308 (okM_holdsFor l G) XOk_nil) kM_isBarred 60 _ _ _ _ _ _ ?_
    simp only [fv0, fv1, fv2, fv3, bI_0, bI_1, bft, MSh_sI_eq, fsP_T, inL_0, inL_s, pad_0, pad_n, pad_s, wpn_s, wp1_s, lg_0, lg_s, lset_0, lset_s, kil_0, kil_s, st1_s, st2_s, isL_i, isL_l, isL_r, isL_n, spl_0, spl_s, cll_n, cll_s, catS_0, catS_s, jmp_s, alk_0, alk_s, otl_n, otl_s, List.nil_append, List.cons_append, List.contains_cons, List.contains_nil, Nat.reduceBEq, Bool.or_false, Bool.false_or, Bool.or_self, Bool.false_eq_true, Bool.true_or, Bool.or_true, if_true, if_false, ite_true, ite_false, ↓reduceIte, List.length_cons, List.length_nil, Nat.reduceAdd, Nat.reduceLT, Nat.reduceLeDiff, Nat.reduceEqDiff, Int.reduceAdd, Int.reduceLE, Int.toNat_natCast, Int.reduceToNat, Int.cast_ofNat_Int, true_and, and_true, true_implies, forall_const, eq_self, and_self, or_true, true_or, or_self, false_or, or_false, yI_sI, yR_sI, yC_sI, yN_sI, yI_sR, yR_sR, yC_sR, yN_sR, not_true_eq_false, not_false_eq_true, false_implies, implies_true, Nat.zero_add, Nat.add_zero, Nat.le_refl, Nat.reduceSub, Int.reduceSub, Int.reduceLT, Int.sub_zero, Int.sub_self, List.getElem?_toArray, List.getElem?_cons_zero, List.getElem?_cons_succ, Int.toNat_zero, Int.toNat_one, Int.lt_irrefl, pM_isBarred_0, stp_iconst, pM_isBarred_1, stp_istore_n, pM_isBarred_2, pM_isBarred_3, stp_istore, pM_isBarred_5, stp_iload, pM_isBarred_7, stp_aload_n, pM_isBarred_8, stp_getfield, qfM_288, rp_13_48, ms_C13 hS, pM_isBarred_11, stp_if_icmp_ge, pM_isBarred_14, stp_iload_n, pM_isBarred_15, stp_ifCond_ne, pM_isBarred_18, pM_isBarred_19, qfM_123, rp_13_49, ms_R49 hS, ms_C149 hS, ms_N149 hS, pM_isBarred_22, pM_isBarred_24, stp_iaload, pM_isBarred_25, pM_isBarred_26, stp_if_icmp_ne, pM_isBarred_29, pM_isBarred_30, qfM_126, rp_13_50, ms_R50 hS, ms_C150 hS, ms_N150 hS, pM_isBarred_33, pM_isBarred_35, pM_isBarred_36, pM_isBarred_37, pM_isBarred_40, pM_isBarred_41, pM_isBarred_43, pM_isBarred_44, pM_isBarred_45, stp_invokevirtual, qmM_308, cy_M_holdsFor, pM_isBarred_48, stp_ifCond_eq, pM_isBarred_51, pM_isBarred_52, stp_goto, pM_isBarred_55, pM_isBarred_56, pM_isBarred_57, stp_iinc, pM_isBarred_60, pM_isBarred_63, pM_isBarred_64, stp_ireturn, ic_0, ic_2, ic_1, nv_M_isBarred, ml_M_isBarred]
    exact lpM_isBarred (by decide) hS hR hv ⟨rfl, rfl⟩ (cn w 48) 0 (by omega)
  · cases h
theorem ruM_isBarred {w : Wd} {v b : Int32} (hS : MSh w) (hR : okR w) (hv : vp_in v 24) : fsM_isBarred [.inr (.inr (some (13, 0))), .inl b, .inl v] w = some (some (.inl (bI (brB w b v.toNatClampNeg))), w) := fsP_t ⟨hS, hR, hv⟩
/-- thirst of a lot -/
def thI (w : Wd) (j : Nat) : Int32 := wI w 13 0 2 - wI w 126 0 j
def dryB (w : Wd) (j : Nat) : Bool := !decide (thI w j ≤ sdI w 3 j (-1))
abbrev lvM_isDry : Nat := 6
noncomputable def fsM_isDry : FS := fun as w => match as with
  | [.inr (.inr (some (13, 0))), .inl v] => fsP (MSh w ∧ okR w ∧ vp_in v 24) (some (.inl (bI (dryB w v.toNatClampNeg))), w)
  | _ => none
set_option maxRecDepth 100000 in
set_option maxHeartbeats 4000000 in
theorem okM_isDry (l : Launch) (G : Gc) : FsOk l G mM_isDry lvM_isDry fsM_isDry := by
  intro as w r w' h
  simp only [fsM_isDry] at h
  split at h
  · rename_i v
    obtain ⟨⟨hS, hR, hv⟩, h⟩ := fsP_s h
    cases h
    refine Sem_of (by decide) rfl (Nat.le_of_ble_eq_true rfl) ?_
    refine wpn_ok (M := mM_isDry) (C := cenM) (X := (alk [(224, lvM_thirst, fsM_thirst), (311, lvM_saidBy, fsM_saidBy)])) (tb := tM_isDry) (st := []) eoM (XOk_cons qmM_224 (okM_thirst l G) (XOk_cons qmM_311 (okM_saidBy l G) XOk_nil)) kM_isDry 200 _ _ _ _ _ _ ?_
    simp only [fv0, fv1, fv2, fv3, bI_0, bI_1, bft, MSh_sI_eq, fsP_T, inL_0, inL_s, pad_0, pad_n, pad_s, wpn_s, wp1_s, lg_0, lg_s, lset_0, lset_s, kil_0, kil_s, st1_s, st2_s, isL_i, isL_l, isL_r, isL_n, spl_0, spl_s, cll_n, cll_s, catS_0, catS_s, jmp_s, alk_0, alk_s, otl_n, otl_s, List.nil_append, List.cons_append, List.contains_cons, List.contains_nil, Nat.reduceBEq, Bool.or_false, Bool.false_or, Bool.or_self, Bool.false_eq_true, Bool.true_or, Bool.or_true, if_true, if_false, ite_true, ite_false, ↓reduceIte, List.length_cons, List.length_nil, Nat.reduceAdd, Nat.reduceLT, Nat.reduceLeDiff, Nat.reduceEqDiff, Int.reduceAdd, Int.reduceLE, Int.toNat_natCast, Int.reduceToNat, Int.cast_ofNat_Int, true_and, and_true, true_implies, forall_const, eq_self, and_self, or_true, true_or, or_self, false_or, or_false, yI_sI, yR_sI, yC_sI, yN_sI, yI_sR, yR_sR, yC_sR, yN_sR, not_true_eq_false, not_false_eq_true, false_implies, implies_true, Nat.zero_add, Nat.add_zero, Nat.le_refl, Nat.reduceSub, Int.reduceSub, Int.reduceLT, Int.sub_zero, Int.sub_self, List.getElem?_toArray, List.getElem?_cons_zero, List.getElem?_cons_succ, Int.toNat_zero, Int.toNat_one, Int.lt_irrefl, pM_isDry_0, stp_aload_n, pM_isDry_1, stp_iload_n, pM_isDry_2, stp_invokevirtual, qmM_224, cy_M_thirst, ms_C13 hS, pM_isDry_5, pM_isDry_6, stp_iconst, pM_isDry_7, pM_isDry_8, pM_isDry_9, qmM_311, cy_M_saidBy, pM_isDry_12, stp_if_icmp_le, pM_isDry_15, pM_isDry_16, stp_goto, pM_isDry_19, pM_isDry_20, stp_ireturn, ic_3, ic_m1, ic_1, ic_0, nv_M_isDry, ml_M_isDry, lvM_thirst, lvM_saidBy, lvM_isDry, ruM_thirst hS hv, ruM_saidBy hS hR hv]
    simp +contextual [dryB, thI, bI, -Int32.not_le]
  · cases h
theorem ruM_isDry {w : Wd} {v : Int32} (hS : MSh w) (hR : okR w) (hv : vp_in v 24) : fsM_isDry [.inr (.inr (some (13, 0))), .inl v] w = some (some (.inl (bI (dryB w v.toNatClampNeg))), w) := fsP_t ⟨hS, hR, hv⟩
