/-! loops of the reference -/
def anyN (f : Nat → Bool) : Nat → Bool
  | 0 => false
  | n + 1 => anyN f n || f n
theorem anyN_iff (f : Nat → Bool) (n : Nat) : anyN f n = true ↔ ∃ j, j < n ∧ f j = true := by
  induction n with
  | zero => simp [anyN]
  | succ n ih =>
    simp only [anyN, Bool.or_eq_true, ih]
    constructor
    · rintro (⟨j, h1, h2⟩ | h)
      · exact ⟨j, by omega, h2⟩
      · exact ⟨n, by omega, h⟩
    · rintro ⟨j, h1, h2⟩
      by_cases e : j = n
      · subst e; exact Or.inr h2
      · exact Or.inl ⟨j, by omega, h2⟩
theorem anyN_congr {f g : Nat → Bool} {n : Nat} (h : ∀ j, j < n → f j = g j) : anyN f n = anyN g n := by
  induction n with
  | zero => rfl
  | succ n ih => simp only [anyN, ih (fun j hj => h j (by omega)), h n (by omega)]
/-- a counter of the reference -/
def cn (w : Wd) (k : Nat) : Nat := (wI w 13 0 k).toNatClampNeg
def okc (w : Wd) (k b : Nat) : Prop := wI w 13 0 k = nI (cn w k) ∧ cn w k ≤ b
def tkF (w : Wd) (p : Int32) : Nat → Bool := fun j => decide (wI w 123 0 j = p) || decide (wI w 124 0 j = p)
/-- the place has a lot, or one on its way -/
def isTkn (w : Wd) (p : Int32) : Bool := !decide (wI w 104 0 p.toNatClampNeg = 3) && anyN (tkF w p) (cn w 17)
section
variable {l : Launch} {G : Gc} {n : Nat} {Q : Option AV → Wd → Prop} {w : Wd}
set_option maxRecDepth 100000 in
set_option maxHeartbeats 4000000 in
theorem lpM_isTaken {p : Int32} {nl : Nat} (hS : MSh w) (hn : wI w 13 0 17 = nI nl) (h24 : nl ≤ 24) (hp : vp_in p 14) (hk : ¬ wI w 104 0 p.toNatClampNeg = 3) (hQ : Q (some (.inl (bI (anyN (tkF w p) nl)))) w) : ∀ k i, i + k = nl → WP l G mM_isTaken n 0 0 Q 4 [some aM, some (.inl p), some (.inl (bI (anyN (tkF w p) i))), some (.inl (nI i))] [] w 0 0
  | 0, i, hi => by
    have e : i = nl := hi
    subst e
    refine wpn_ok (M := mM_isTaken) (C := cenM) (X := (alk [])) (tb := tM_isTaken) (st := [4]) eoM XOk_nil kM_isTaken 60 _ _ _ _ _ _ ?_
    simp only [fv0, fv1, fv2, fv3, bI_0, bI_1, bft, MSh_sI_eq, fsP_T, inL_0, inL_s, pad_0, pad_n, pad_s, wpn_s, wp1_s, lg_0, lg_s, lset_0, lset_s, kil_0, kil_s, st1_s, st2_s, isL_i, isL_l, isL_r, isL_n, spl_0, spl_s, cll_n, cll_s, catS_0, catS_s, jmp_s, alk_0, alk_s, otl_n, otl_s, List.nil_append, List.cons_append, List.contains_cons, List.contains_nil, Nat.reduceBEq, Bool.or_false, Bool.false_or, Bool.or_self, Bool.false_eq_true, Bool.true_or, Bool.or_true, if_true, if_false, ite_true, ite_false, ↓reduceIte, List.length_cons, List.length_nil, Nat.reduceAdd, Nat.reduceLT, Nat.reduceLeDiff, Nat.reduceEqDiff, Int.reduceAdd, Int.reduceLE, Int.toNat_natCast, Int.reduceToNat, Int.cast_ofNat_Int, true_and, and_true, true_implies, forall_const, eq_self, and_self, or_true, true_or, or_self, false_or, or_false, yI_sI, yR_sI, yC_sI, yN_sI, yI_sR, yR_sR, yC_sR, yN_sR, not_true_eq_false, not_false_eq_true, false_implies, implies_true, Nat.zero_add, Nat.add_zero, Nat.le_refl, Nat.reduceSub, pM_isTaken_0, stp_iconst, pM_isTaken_1, stp_istore_n, pM_isTaken_2, pM_isTaken_3, pM_isTaken_4, stp_iload_n, pM_isTaken_5, stp_aload_n, pM_isTaken_6, stp_getfield, qfM_206, rp_13_17, ms_C13 hS, pM_isTaken_9, stp_if_icmp_ge, pM_isTaken_12, pM_isTaken_13, qfM_13, rp_13_4, ms_R4 hS, ms_C104 hS, ms_N104 hS, pM_isTaken_16, pM_isTaken_17, stp_iaload, pM_isTaken_18, pM_isTaken_19, stp_if_icmp_eq, pM_isTaken_22, pM_isTaken_23, stp_ifCond_ne, pM_isTaken_26, pM_isTaken_27, qfM_58, rp_13_23, ms_R23 hS, ms_C123 hS, ms_N123 hS, pM_isTaken_30, pM_isTaken_31, pM_isTaken_32, pM_isTaken_33, pM_isTaken_36, pM_isTaken_37, qfM_61, rp_13_24, ms_R24 hS, ms_C124 hS, ms_N124 hS, pM_isTaken_40, pM_isTaken_41, pM_isTaken_42, pM_isTaken_43, stp_if_icmp_ne, pM_isTaken_46, pM_isTaken_47, stp_goto, pM_isTaken_50, pM_isTaken_51, pM_isTaken_52, stp_iinc, pM_isTaken_55, pM_isTaken_58, pM_isTaken_59, stp_ireturn, ic_0, ic_3, ic_1, nv_M_isTaken, ml_M_isTaken, hn, Int32.le_refl]
    exact hQ
  | k + 1, i, hi => by
    have ih := lpM_isTaken hS hn h24 hp hk hQ k (i + 1) (by omega)
    have h1 : ¬ nI nl ≤ nI i := nI_ge (by omega) (by omega)
    have h2 : vp_in (nI i) 24 := vp_in_nI (by omega) (by omega)
    have h3 : (nI i).toNatClampNeg = i := nI_clamp (by omega)
    refine wpn_ok (M := mM_isTaken) (C := cenM) (X := (alk [])) (tb := tM_isTaken) (st := [4]) eoM XOk_nil kM_isTaken 60 _ _ _ _ _ _ ?_
    simp only [fv0, fv1, fv2, fv3, bI_0, bI_1, bft, MSh_sI_eq, fsP_T, inL_0, inL_s, pad_0, pad_n, pad_s, wpn_s, wp1_s, lg_0, lg_s, lset_0, lset_s, kil_0, kil_s, st1_s, st2_s, isL_i, isL_l, isL_r, isL_n, spl_0, spl_s, cll_n, cll_s, catS_0, catS_s, jmp_s, alk_0, alk_s, otl_n, otl_s, List.nil_append, List.cons_append, List.contains_cons, List.contains_nil, Nat.reduceBEq, Bool.or_false, Bool.false_or, Bool.or_self, Bool.false_eq_true, Bool.true_or, Bool.or_true, if_true, if_false, ite_true, ite_false, ↓reduceIte, List.length_cons, List.length_nil, Nat.reduceAdd, Nat.reduceLT, Nat.reduceLeDiff, Nat.reduceEqDiff, Int.reduceAdd, Int.reduceLE, Int.toNat_natCast, Int.reduceToNat, Int.cast_ofNat_Int, true_and, and_true, true_implies, forall_const, eq_self, and_self, or_true, true_or, or_self, false_or, or_false, yI_sI, yR_sI, yC_sI, yN_sI, yI_sR, yR_sR, yC_sR, yN_sR, not_true_eq_false, not_false_eq_true, false_implies, implies_true, Nat.zero_add, Nat.add_zero, Nat.le_refl, Nat.reduceSub, pM_isTaken_0, stp_iconst, pM_isTaken_1, stp_istore_n, pM_isTaken_2, pM_isTaken_3, pM_isTaken_4, stp_iload_n, pM_isTaken_5, stp_aload_n, pM_isTaken_6, stp_getfield, qfM_206, rp_13_17, ms_C13 hS, pM_isTaken_9, stp_if_icmp_ge, pM_isTaken_12, pM_isTaken_13, qfM_13, rp_13_4, ms_R4 hS, ms_C104 hS, ms_N104 hS, pM_isTaken_16, pM_isTaken_17, stp_iaload, pM_isTaken_18, pM_isTaken_19, stp_if_icmp_eq, pM_isTaken_22, pM_isTaken_23, stp_ifCond_ne, pM_isTaken_26, pM_isTaken_27, qfM_58, rp_13_23, ms_R23 hS, ms_C123 hS, ms_N123 hS, pM_isTaken_30, pM_isTaken_31, pM_isTaken_32, pM_isTaken_33, pM_isTaken_36, pM_isTaken_37, qfM_61, rp_13_24, ms_R24 hS, ms_C124 hS, ms_N124 hS, pM_isTaken_40, pM_isTaken_41, pM_isTaken_42, pM_isTaken_43, stp_if_icmp_ne, pM_isTaken_46, pM_isTaken_47, stp_goto, pM_isTaken_50, pM_isTaken_51, pM_isTaken_52, stp_iinc, pM_isTaken_55, pM_isTaken_58, pM_isTaken_59, stp_ireturn, ic_0, ic_3, ic_1, nv_M_isTaken, ml_M_isTaken, hn, h1, h2, h3, hk, hp, nI_1]
    cases ha : anyN (tkF w p) i <;> by_cases hb : wI w 123 0 i = p <;> by_cases hc : wI w 124 0 i = p <;> simp [anyN, tkF, ha, hb, hc, bI] at ih ⊢ <;> exact ih
end
abbrev lvM_isTaken : Nat := 1
noncomputable def fsM_isTaken : FS := fun as w => match as with
  | [.inr (.inr (some (13, 0))), .inl p] => fsP (MSh w ∧ vp_in p 14 ∧ okc w 17 24) (some (.inl (bI (isTkn w p))), w)
  | _ => none
set_option maxRecDepth 100000 in
set_option maxHeartbeats 4000000 in
theorem okM_isTaken (l : Launch) (G : Gc) : FsOk l G mM_isTaken lvM_isTaken fsM_isTaken := by
  intro as w r w' h
  simp only [fsM_isTaken] at h
  split at h
  · rename_i p
    obtain ⟨⟨hS, hp, hn, h24⟩, h⟩ := fsP_s h
    cases h
    refine Sem_of (by decide) rfl (Nat.le_of_ble_eq_true rfl) ?_
    by_cases hk : wI w 104 0 p.toNatClampNeg = 3
    · refine wpn_ok (M := mM_isTaken) (C := cenM) (X := (alk [])) (tb := tM_isTaken) (st := [4]) eoM XOk_nil kM_isTaken 60 _ _ _ _ _ _ ?_
      simp only [fv0, fv1, fv2, fv3, bI_0, bI_1, bft, MSh_sI_eq, fsP_T, inL_0, inL_s, pad_0, pad_n, pad_s, wpn_s, wp1_s, lg_0, lg_s, lset_0, lset_s, kil_0, kil_s, st1_s, st2_s, isL_i, isL_l, isL_r, isL_n, spl_0, spl_s, cll_n, cll_s, catS_0, catS_s, jmp_s, alk_0, alk_s, otl_n, otl_s, List.nil_append, List.cons_append, List.contains_cons, List.contains_nil, Nat.reduceBEq, Bool.or_false, Bool.false_or, Bool.or_self, Bool.false_eq_true, Bool.true_or, Bool.or_true, if_true, if_false, ite_true, ite_false, ↓reduceIte, List.length_cons, List.length_nil, Nat.reduceAdd, Nat.reduceLT, Nat.reduceLeDiff, Nat.reduceEqDiff, Int.reduceAdd, Int.reduceLE, Int.toNat_natCast, Int.reduceToNat, Int.cast_ofNat_Int, true_and, and_true, true_implies, forall_const, eq_self, and_self, or_true, true_or, or_self, false_or, or_false, yI_sI, yR_sI, yC_sI, yN_sI, yI_sR, yR_sR, yC_sR, yN_sR, not_true_eq_false, not_false_eq_true, false_implies, implies_true, Nat.zero_add, Nat.add_zero, Nat.le_refl, Nat.reduceSub, pM_isTaken_0, stp_iconst, pM_isTaken_1, stp_istore_n, pM_isTaken_2, pM_isTaken_3, pM_isTaken_4, stp_iload_n, pM_isTaken_5, stp_aload_n, pM_isTaken_6, stp_getfield, qfM_206, rp_13_17, ms_C13 hS, pM_isTaken_9, stp_if_icmp_ge, pM_isTaken_12, pM_isTaken_13, qfM_13, rp_13_4, ms_R4 hS, ms_C104 hS, ms_N104 hS, pM_isTaken_16, pM_isTaken_17, stp_iaload, pM_isTaken_18, pM_isTaken_19, stp_if_icmp_eq, pM_isTaken_22, pM_isTaken_23, stp_ifCond_ne, pM_isTaken_26, pM_isTaken_27, qfM_58, rp_13_23, ms_R23 hS, ms_C123 hS, ms_N123 hS, pM_isTaken_30, pM_isTaken_31, pM_isTaken_32, pM_isTaken_33, pM_isTaken_36, pM_isTaken_37, qfM_61, rp_13_24, ms_R24 hS, ms_C124 hS, ms_N124 hS, pM_isTaken_40, pM_isTaken_41, pM_isTaken_42, pM_isTaken_43, stp_if_icmp_ne, pM_isTaken_46, pM_isTaken_47, stp_goto, pM_isTaken_50, pM_isTaken_51, pM_isTaken_52, stp_iinc, pM_isTaken_55, pM_isTaken_58, pM_isTaken_59, stp_ireturn, ic_0, ic_3, ic_1, nv_M_isTaken, ml_M_isTaken]
      refine wpn_ok (M := mM_isTaken) (C := cenM) (X := (alk [])) (tb := tM_isTaken) (st := []) eoM XOk_nil kM_isTaken 60 _ _ _ _ _ _ ?_
      simp only [fv0, fv1, fv2, fv3, bI_0, bI_1, bft, MSh_sI_eq, fsP_T, inL_0, inL_s, pad_0, pad_n, pad_s, wpn_s, wp1_s, lg_0, lg_s, lset_0, lset_s, kil_0, kil_s, st1_s, st2_s, isL_i, isL_l, isL_r, isL_n, spl_0, spl_s, cll_n, cll_s, catS_0, catS_s, jmp_s, alk_0, alk_s, otl_n, otl_s, List.nil_append, List.cons_append, List.contains_cons, List.contains_nil, Nat.reduceBEq, Bool.or_false, Bool.false_or, Bool.or_self, Bool.false_eq_true, Bool.true_or, Bool.or_true, if_true, if_false, ite_true, ite_false, ↓reduceIte, List.length_cons, List.length_nil, Nat.reduceAdd, Nat.reduceLT, Nat.reduceLeDiff, Nat.reduceEqDiff, Int.reduceAdd, Int.reduceLE, Int.toNat_natCast, Int.reduceToNat, Int.cast_ofNat_Int, true_and, and_true, true_implies, forall_const, eq_self, and_self, or_true, true_or, or_self, false_or, or_false, yI_sI, yR_sI, yC_sI, yN_sI, yI_sR, yR_sR, yC_sR, yN_sR, not_true_eq_false, not_false_eq_true, false_implies, implies_true, Nat.zero_add, Nat.add_zero, Nat.le_refl, Nat.reduceSub, pM_isTaken_0, stp_iconst, pM_isTaken_1, stp_istore_n, pM_isTaken_2, pM_isTaken_3, pM_isTaken_4, stp_iload_n, pM_isTaken_5, stp_aload_n, pM_isTaken_6, stp_getfield, qfM_206, rp_13_17, ms_C13 hS, pM_isTaken_9, stp_if_icmp_ge, pM_isTaken_12, pM_isTaken_13, qfM_13, rp_13_4, ms_R4 hS, ms_C104 hS, ms_N104 hS, pM_isTaken_16, pM_isTaken_17, stp_iaload, pM_isTaken_18, pM_isTaken_19, stp_if_icmp_eq, pM_isTaken_22, pM_isTaken_23, stp_ifCond_ne, pM_isTaken_26, pM_isTaken_27, qfM_58, rp_13_23, ms_R23 hS, ms_C123 hS, ms_N123 hS, pM_isTaken_30, pM_isTaken_31, pM_isTaken_32, pM_isTaken_33, pM_isTaken_36, pM_isTaken_37, qfM_61, rp_13_24, ms_R24 hS, ms_C124 hS, ms_N124 hS, pM_isTaken_40, pM_isTaken_41, pM_isTaken_42, pM_isTaken_43, stp_if_icmp_ne, pM_isTaken_46, pM_isTaken_47, stp_goto, pM_isTaken_50, pM_isTaken_51, pM_isTaken_52, stp_iinc, pM_isTaken_55, pM_isTaken_58, pM_isTaken_59, stp_ireturn, ic_0, ic_3, ic_1, nv_M_isTaken, ml_M_isTaken, hp, hk]
      simp [isTkn, hk, bI]
    · refine wpn_ok (M := mM_isTaken) (C := cenM) (X := (alk [])) (tb := tM_isTaken) (st := [4]) eoM XOk_nil kM_isTaken 60 _ _ _ _ _ _ ?_
      simp only [fv0, fv1, fv2, fv3, bI_0, bI_1, bft, MSh_sI_eq, fsP_T, inL_0, inL_s, pad_0, pad_n, pad_s, wpn_s, wp1_s, lg_0, lg_s, lset_0, lset_s, kil_0, kil_s, st1_s, st2_s, isL_i, isL_l, isL_r, isL_n, spl_0, spl_s, cll_n, cll_s, catS_0, catS_s, jmp_s, alk_0, alk_s, otl_n, otl_s, List.nil_append, List.cons_append, List.contains_cons, List.contains_nil, Nat.reduceBEq, Bool.or_false, Bool.false_or, Bool.or_self, Bool.false_eq_true, Bool.true_or, Bool.or_true, if_true, if_false, ite_true, ite_false, ↓reduceIte, List.length_cons, List.length_nil, Nat.reduceAdd, Nat.reduceLT, Nat.reduceLeDiff, Nat.reduceEqDiff, Int.reduceAdd, Int.reduceLE, Int.toNat_natCast, Int.reduceToNat, Int.cast_ofNat_Int, true_and, and_true, true_implies, forall_const, eq_self, and_self, or_true, true_or, or_self, false_or, or_false, yI_sI, yR_sI, yC_sI, yN_sI, yI_sR, yR_sR, yC_sR, yN_sR, not_true_eq_false, not_false_eq_true, false_implies, implies_true, Nat.zero_add, Nat.add_zero, Nat.le_refl, Nat.reduceSub, pM_isTaken_0, stp_iconst, pM_isTaken_1, stp_istore_n, pM_isTaken_2, pM_isTaken_3, pM_isTaken_4, stp_iload_n, pM_isTaken_5, stp_aload_n, pM_isTaken_6, stp_getfield, qfM_206, rp_13_17, ms_C13 hS, pM_isTaken_9, stp_if_icmp_ge, pM_isTaken_12, pM_isTaken_13, qfM_13, rp_13_4, ms_R4 hS, ms_C104 hS, ms_N104 hS, pM_isTaken_16, pM_isTaken_17, stp_iaload, pM_isTaken_18, pM_isTaken_19, stp_if_icmp_eq, pM_isTaken_22, pM_isTaken_23, stp_ifCond_ne, pM_isTaken_26, pM_isTaken_27, qfM_58, rp_13_23, ms_R23 hS, ms_C123 hS, ms_N123 hS, pM_isTaken_30, pM_isTaken_31, pM_isTaken_32, pM_isTaken_33, pM_isTaken_36, pM_isTaken_37, qfM_61, rp_13_24, ms_R24 hS, ms_C124 hS, ms_N124 hS, pM_isTaken_40, pM_isTaken_41, pM_isTaken_42, pM_isTaken_43, stp_if_icmp_ne, pM_isTaken_46, pM_isTaken_47, stp_goto, pM_isTaken_50, pM_isTaken_51, pM_isTaken_52, stp_iinc, pM_isTaken_55, pM_isTaken_58, pM_isTaken_59, stp_ireturn, ic_0, ic_3, ic_1, nv_M_isTaken, ml_M_isTaken]
      refine lpM_isTaken hS hn h24 hp hk ?_ (cn w 17) 0 (by omega)
      simp [isTkn, hk]
  · cases h
