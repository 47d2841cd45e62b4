/-! calls -/
/-- the reference's cells alone -/
def isC (t : Nat) : Bool := decide (t ≤ 12) || (decide (170 ≤ t) && decide (t ≤ 199)) || decide (270 ≤ t)
def msk (w : Wd) : Wd := (fun t k i => if isC t = true then 0 else w.1 t k i, w.2)
theorem msk_ag {w w' : Wd} (h2 : w'.2 = w.2) (hI : ∀ t k i, isC t = false → wI w' t k i = wI w t k i) : msk w' = msk w := by
  refine Wd_eq (fun t k i => ?_) h2
  have e : ∀ v : Wd, wI (msk v) t k i = if isC t = true then 0 else wI v t k i := fun _ => rfl
  rw [e, e]
  cases hc : isC t with
  | true => rfl
  | false => rw [hI t k i hc]
theorem msk_sI {w : Wd} {t k i : Nat} {v : Int32} (h : isC t = true) : msk (sI w t k i v) = msk w := msk_ag rfl fun t' k' i' hc => by
  rw [yI_sI, if_neg]
  rintro ⟨rfl, -⟩
  rw [h] at hc
  cases hc
theorem isC_10 : isC 10 = true := rfl
theorem isC_11 : isC 11 = true := rfl
theorem isC_187 : isC 187 = true := rfl
theorem isC_188 : isC 188 = true := rfl
theorem mskE {α : Sort _} {f : Wd → α} {w w' : Wd} (hf : ∀ w, f (msk w) = f w) (hm : msk w' = msk w) : f w' = f w := by rw [← hf w', hm, hf]
theorem MOk_m {w w' : Wd} (hm : msk w' = msk w) (h : MOk w) : MOk w' := by
  have e : MOk w' = MOk w := mskE (f := MOk) (fun _ => rfl) hm
  rw [e]
  exact h
theorem Pst_ok2 {l : Launch} {G : Gc} {c lv : Nat} {mM : MI} {as : List AV} {fs : FS} {w w1 : Wd} {d v : Wd → Int32} {W : Wd → Wd} {x : Int32} (ok : FsOk l G mM lv fs) (hlv : lv ≤ 12) (hfs : ∀ w, fs (.inr (.inr (some (13, 0))) :: as) w = fsP (MOk w) (some (.inl (rfV (d w) (v w))), rfO w (d w) (W w))) (hd0 : ∀ w, d (msk w) = d w) (hv0 : ∀ w, v (msk w) = v w) (hm : msk w1 = msk w) (hM : MOk w) (hd : d w = 0) (hx : x = v w) (h : Inv (c + 1) (W w1)) (hty : ∀ z : Int32, tyM mM (.inl z) := by exact fun z => tyI rfl) : Pst l G c mM as (some (.inl x)) w1 :=
  Pst_ok ok hlv hfs (MOk_m hm hM) ((mskE hd0 hm).trans hd) (hx.trans (mskE hv0 hm).symm) h hty
section
variable {l : Launch} {G : Gc} {c : Nat} {w : Wd}
set_option maxRecDepth 100000 in
set_option maxHeartbeats 4000000 in
theorem ca_whose (h : Inv c w) (k : Int32) : Cok l G c w mS_whose mM_whose [.inl k] := by
  have hS := iv_S h
  have hM := iv_M h
  have r1 := ruK_ownerOf (m := k) (iv_l h)
  refine ⟨8, by decide, Sem_of (by decide) rfl (Nat.le_of_ble_eq_true rfl) ?_⟩
  refine wpn_ok (M := mS_whose) (C := cenS) (X := (alk [(126, lvS_isMark, fsS_isMark), (79, lvS_refuse, fsS_refuse), (331, lvK_ownerOf, fsK_ownerOf)])) (tb := tS_whose) (st := []) eoS (XOk_cons qmS_126 (okS_isMark l G) (XOk_cons qmS_79 (okS_refuse l G) (XOk_cons qmS_331 (okK_ownerOf l G) XOk_nil))) kS_whose 60 _ _ _ _ _ _ ?_
  cases hk : inR k 0 9999 with
  | false =>
    simp only [reduceCtorEq, fv0, fv1, fv2, fv3, bI_0, bI_1, bft, MSh_sI_eq, fsP_T, inL_0, inL_s, pad_0, pad_n, pad_s, wpn_s, wp1_s, lg_0, lg_s, lset_0, lset_s, kil_0, kil_s, st1_s, st2_s, isL_i, isL_l, isL_r, isL_n, spl_0, spl_s, cll_n, cll_s, catS_0, catS_s, jmp_s, alk_0, alk_s, otl_n, otl_s, List.nil_append, List.cons_append, List.contains_cons, List.contains_nil, Nat.reduceBEq, Bool.or_false, Bool.false_or, Bool.or_self, Bool.false_eq_true, Bool.true_or, Bool.or_true, if_true, if_false, ite_true, ite_false, ↓reduceIte, List.length_cons, List.length_nil, Nat.reduceAdd, Nat.reduceLT, Nat.reduceLeDiff, Nat.reduceEqDiff, Int.reduceAdd, Int.reduceLE, Int.toNat_natCast, Int.reduceToNat, Int.cast_ofNat_Int, true_and, and_true, false_and, and_false, true_implies, forall_const, eq_self, and_self, or_true, true_or, or_self, false_or, or_false, yI_sI, yR_sI, yC_sI, yN_sI, yI_sR, yR_sR, yC_sR, yN_sR, not_true_eq_false, not_false_eq_true, false_implies, implies_true, Nat.zero_add, Nat.add_zero, Nat.le_refl, Nat.reduceSub, Int.reduceSub, Int.reduceLT, Int.sub_zero, Int.sub_self, List.getElem?_toArray, List.getElem?_cons_zero, List.getElem?_cons_succ, Int.toNat_zero, Int.toNat_one, Int.lt_irrefl, yI_sB, yR_sB, yC_sB, yN_sB, MSh_sB_eq, pS_whose_0, stp_iload_n, pS_whose_1, stp_invokestatic, qmS_126, cy_S_isMark, pS_whose_4, stp_ifCond_eq, pS_whose_7, stp_aload_n, pS_whose_8, stp_getfield, qfS_40, rp_0_4, ss_C0 hS, ss_R0_4 hS, ss_C5 hS, pS_whose_11, pS_whose_12, stp_invokevirtual, qmS_331, cy_K_ownerOf, pS_whose_15, stp_goto, pS_whose_18, pS_whose_19, stp_bipush, pS_whose_21, qmS_79, cy_S_refuse, pS_whose_24, stp_ireturn, bp_m7, nv_S_whose, ml_S_whose, fsS_isMark, hk, rfS_7 hS, lvS_isMark, lvS_refuse, lvK_ownerOf]
    have e : ∀ w, fsM_whose [.inr (.inr (some (13, 0))), .inl k] w = fsP (MOk w) (some (.inl (if inR k 0 9999 = false then -7 else whI w k)), if inR k 0 9999 = false then rfz w 7 else w) := fun _ => rfl
    have e2 : fsM_whose [.inr (.inr (some (13, 0))), .inl k] (rfs w 7) = some (some (.inl (-7)), rfz (rfs w 7) 7) := by
      rw [e, fsP_t (rfs_M hM)]
      simp only [hk, if_true]
    have e3 : Inv (c + 1) (rfz (rfs w 7) 7) := Inv_rf (b := 7) h
    exact Pst_fs (okM_whose l G) (by decide) e2 e3
  | true =>
    simp only [reduceCtorEq, fv0, fv1, fv2, fv3, bI_0, bI_1, bft, MSh_sI_eq, fsP_T, inL_0, inL_s, pad_0, pad_n, pad_s, wpn_s, wp1_s, lg_0, lg_s, lset_0, lset_s, kil_0, kil_s, st1_s, st2_s, isL_i, isL_l, isL_r, isL_n, spl_0, spl_s, cll_n, cll_s, catS_0, catS_s, jmp_s, alk_0, alk_s, otl_n, otl_s, List.nil_append, List.cons_append, List.contains_cons, List.contains_nil, Nat.reduceBEq, Bool.or_false, Bool.false_or, Bool.or_self, Bool.false_eq_true, Bool.true_or, Bool.or_true, if_true, if_false, ite_true, ite_false, ↓reduceIte, List.length_cons, List.length_nil, Nat.reduceAdd, Nat.reduceLT, Nat.reduceLeDiff, Nat.reduceEqDiff, Int.reduceAdd, Int.reduceLE, Int.toNat_natCast, Int.reduceToNat, Int.cast_ofNat_Int, true_and, and_true, false_and, and_false, true_implies, forall_const, eq_self, and_self, or_true, true_or, or_self, false_or, or_false, yI_sI, yR_sI, yC_sI, yN_sI, yI_sR, yR_sR, yC_sR, yN_sR, not_true_eq_false, not_false_eq_true, false_implies, implies_true, Nat.zero_add, Nat.add_zero, Nat.le_refl, Nat.reduceSub, Int.reduceSub, Int.reduceLT, Int.sub_zero, Int.sub_self, List.getElem?_toArray, List.getElem?_cons_zero, List.getElem?_cons_succ, Int.toNat_zero, Int.toNat_one, Int.lt_irrefl, yI_sB, yR_sB, yC_sB, yN_sB, MSh_sB_eq, pS_whose_0, stp_iload_n, pS_whose_1, stp_invokestatic, qmS_126, cy_S_isMark, pS_whose_4, stp_ifCond_eq, pS_whose_7, stp_aload_n, pS_whose_8, stp_getfield, qfS_40, rp_0_4, ss_C0 hS, ss_R0_4 hS, ss_C5 hS, pS_whose_11, pS_whose_12, stp_invokevirtual, qmS_331, cy_K_ownerOf, pS_whose_15, stp_goto, pS_whose_18, pS_whose_19, stp_bipush, pS_whose_21, qmS_79, cy_S_refuse, pS_whose_24, stp_ireturn, bp_m7, nv_S_whose, ml_S_whose, fsS_isMark, hk, r1, lvS_isMark, lvS_refuse, lvK_ownerOf]
    refine Pst_fs (okM_whose l G) (by decide) ?_ (Inv_up h)
    have e : ∀ w, fsM_whose [.inr (.inr (some (13, 0))), .inl k] w = fsP (MOk w) (some (.inl (if inR k 0 9999 = false then -7 else whI w k)), if inR k 0 9999 = false then rfz w 7 else w) := fun _ => rfl
    rw [e, fsP_t hM, if_neg (by rw [hk]; decide), if_neg (by rw [hk]; decide)]
theorem up38 (h : Inv c w) : okc w 38 (c + 1) := okc_up (iv_T h).2 (Nat.le_succ c)
theorem LtI_mk {j : Nat} {w' : Wd} (h : LtI c w j) (h2 : w'.2 = w.2) (h3 : wI w' 13 0 3 = wI w 13 0 3) (h38 : wI w' 13 0 38 = wI w 13 0 38) (hC : LtC w' j) (hK : inR (wI w' 118 0 j) 0 3 = true) (hG : WgC w' j) (hB : ∀ t k i, (t = 11 ∧ i = 2) ∨ t = 188 ∨ t = 136 ∨ t = 137 ∨ t = 124 ∨ t = 125 → wI w' t k i = wI w t k i) : LtI (c + 1) w' j := by
  obtain ⟨a1, a2, ⟨T, b1, b2, x, y, b3⟩, a4⟩ := h
  refine ⟨LtS_e (Exw_2 h2) a1, hC, ⟨T, by rw [hB _ _ _ (by omega)]; exact b1, by omega, x, y, fun b hb hn => ?_⟩, GoC_cg (Nat.le_succ c) (by rw [cn_cg h3]; exact Nat.le_refl _) (hB _ _ _ (by omega)) (hB _ _ _ (by omega)) hK hG a4⟩
  rw [hB _ _ _ (by omega)] at hn
  obtain ⟨q1, q2, q3, q4, q5⟩ := b3 b hb hn
  refine ⟨by rw [hB _ _ _ (by omega)]; exact q1, by rw [hB _ _ _ (by omega)]; exact q2, q3, by rw [cn_cg h38]; exact q4, fun b' hb' hn' => ?_⟩
  rw [hB _ _ _ (by omega)] at hn'
  exact q5 b' hb' hn'
theorem jd_inv {j : Nat} {o : Int32} (h : Inv c w) (hj : j < cn w 17) (ho : inR o 0 5 = true) : Inv (c + 1) (jdW (sI (sI w 10 j 4 o) 10 j 10 1) j o) := by
  have hL := iv_L h hj
  obtain ⟨a1, a2, a3, a4, a5, a6, a7, a8, a9, b1, b2, b3, b4, b5, b6, b7, b8, b9, d1, d2, d3, d4, d5⟩ := hL.2.1
  have g : ∀ t k i, ¬ (t = 10 ∧ k = j ∧ (i = 4 ∨ i = 10)) → ¬ ((t = 119 ∨ t = 227) ∧ i = j) → wI (jdW (sI (sI w 10 j 4 o) 10 j 10 1) j o) t k i = wI w t k i := fun t k i n1 n2 => by
    unfold jdW
    rw [yI_sI, yI_sI, yI_sI, yI_sI, if_neg (by omega), if_neg (by omega), if_neg (by omega), if_neg (by omega)]
  refine Inv_lot (w := w) (j := j) rfl (LtI_mk hL rfl (g _ _ _ (by omega) (by omega)) (g _ _ _ (by omega) (by omega)) ?_ (by rw [g _ _ _ (by omega) (by omega)]; exact hL.2.2.2.2.2.1) (WgC_cg (fun t ht => g t 0 j (by omega) (by omega)) hL.2.2.2.2.2.2) (fun t k i ht => g t k i (by omega) (by omega))) (okc_cg (g _ _ _ (by omega) (by omega)) (up38 h)) (by rw [cn_cg (g 13 0 38 (by omega) (by omega))]; exact Nat.le_refl _) (fun t k i hn hn2 => ?_) h
  · unfold LtC jdW
    refine ⟨?_, ?_, ?_, ?_, ?_, ?_, ?_, ?_, ?_, ?_, ?_, ?_, ?_, ?_, ?_, ?_, ?_, ?_, ?_, ?_, ?_, ?_, ?_⟩ <;> (try simp only [yI_sI, Nat.reduceEqDiff, Nat.reduceAdd, Nat.reduceMul, reduceCtorEq, false_and, and_false, true_and, and_true, if_false, if_true, ite_false, ite_true, ↓reduceIte, eq_self, and_self, or_true, true_or, not_true_eq_false, false_implies, implies_true]) <;> (try assumption)
  · exact g t k i (fun z => hn (by unfold LtK; omega)) (fun z => hn (by unfold LtK; omega))
set_option maxRecDepth 100000 in
set_option maxHeartbeats 4000000 in
theorem ca_judge (h : Inv c w) (hc : c < 1000) (v o : Int32) : Cok l G c w mS_judge mM_judge [.inl v, .inl o] := by
  have hS := iv_S h
  have hM := iv_M h
  have hl := iv_l h
  have hr := iv_r h
  have hy := iv_y h
  have h0 := iv_0 h
  obtain ⟨-, h3, h6, h17, hR, h63, h58, -⟩ := id hM
  refine ⟨18, by decide, Sem_of (by decide) rfl (Nat.le_of_ble_eq_true rfl) ?_⟩
  refine wpn_ok (M := mS_judge) (C := cenS) (X := (alk [(141, lvS_lotAt, fsS_lotAt), (328, lvS_isOwner, fsS_isOwner), (182, lvS_isInDoubt, fsS_isInDoubt), (79, lvS_refuse, fsS_refuse)])) (tb := tS_judge) (st := []) eoS (XOk_cons qmS_141 (okS_lotAt l G) (XOk_cons qmS_328 (okS_isOwner l G) (XOk_cons qmS_182 (okS_isInDoubt l G) (XOk_cons qmS_79 (okS_refuse l G) XOk_nil)))) kS_judge 250 _ _ _ _ _ _ ?_
  cases h1 : inR v 0 (wI w 13 0 17 - 1)
  case false =>
    simp only [reduceCtorEq, fv0, fv1, fv2, fv3, bI_0, bI_1, bft, MSh_sI_eq, fsP_T, inL_0, inL_s, pad_0, pad_n, pad_s, wpn_s, wp1_s, lg_0, lg_s, lset_0, lset_s, kil_0, kil_s, st1_s, st2_s, isL_i, isL_l, isL_r, isL_n, spl_0, spl_s, cll_n, cll_s, catS_0, catS_s, jmp_s, alk_0, alk_s, otl_n, otl_s, List.nil_append, List.cons_append, List.contains_cons, List.contains_nil, Nat.reduceBEq, Bool.or_false, Bool.false_or, Bool.or_self, Bool.false_eq_true, Bool.true_or, Bool.or_true, if_true, if_false, ite_true, ite_false, ↓reduceIte, List.length_cons, List.length_nil, Nat.reduceAdd, Nat.reduceLT, Nat.reduceLeDiff, Nat.reduceEqDiff, Int.reduceAdd, Int.reduceLE, Int.toNat_natCast, Int.reduceToNat, Int.cast_ofNat_Int, true_and, and_true, false_and, and_false, true_implies, forall_const, eq_self, and_self, or_true, true_or, or_self, false_or, or_false, yI_sI, yR_sI, yC_sI, yN_sI, yI_sR, yR_sR, yC_sR, yN_sR, not_true_eq_false, not_false_eq_true, false_implies, implies_true, Nat.zero_add, Nat.add_zero, Nat.le_refl, Nat.reduceSub, Int.reduceSub, Int.reduceLT, Int.sub_zero, Int.sub_self, List.getElem?_toArray, List.getElem?_cons_zero, List.getElem?_cons_succ, Int.toNat_zero, Int.toNat_one, Int.lt_irrefl, yI_sB, yR_sB, yC_sB, yN_sB, MSh_sB_eq, pS_judge_0, stp_aload_n, pS_judge_1, stp_iload_n, pS_judge_2, stp_invokevirtual, qmS_141, cy_S_lotAt, ss_C0 hS, pS_judge_5, stp_astore_n, pS_judge_6, pS_judge_7, stp_ifnull, pS_judge_10, pS_judge_11, stp_invokestatic, qmS_328, cy_S_isOwner, pS_judge_14, stp_ifCond_ne, pS_judge_17, pS_judge_18, stp_bipush, pS_judge_20, qmS_79, cy_S_refuse, pS_judge_23, stp_ireturn, pS_judge_24, pS_judge_25, pS_judge_26, qmS_182, cy_S_isInDoubt, pS_judge_29, stp_ifCond_eq, pS_judge_32, stp_iconst, pS_judge_33, stp_goto, pS_judge_36, pS_judge_37, stp_istore, pS_judge_39, pS_judge_40, pS_judge_41, stp_putfield, qfS_161, rp_10_4, fi_10_4, nr_10_4, pS_judge_44, pS_judge_45, pS_judge_46, qfS_340, rp_10_10, fi_10_10, nr_10_10, pS_judge_49, stp_iload, pS_judge_51, bp_m3, ic_1, ic_0, nv_S_judge, ml_S_judge, ruS_lotAt hl, h1, rfS_3 hS, lvS_lotAt, lvS_isOwner, lvS_isInDoubt, lvS_refuse]
    refine Pst_rf (d := fun w => jdD w v o) (v := fun w => bI (dbt w v.toNatClampNeg)) (W := fun w => jdW w v.toNatClampNeg o) (okM_judge l G) (by decide) (fun _ => rfl) h (b := 3) (by decide) rfl ?_
    show jdD w v o = _
    simp only [jdD, h1, if_true, if_false, ite_true, ite_false, ↓reduceIte, Bool.false_eq_true, Bool.true_eq_false, reduceCtorEq, not_true_eq_false, not_false_eq_true, eq_self]
    rfl
  case true =>
    obtain ⟨j, hj, ev⟩ := okc_in h17 (by omega) h1
    have ej : v.toNatClampNeg = j := by rw [ev]; exact nI_clamp (by have := h17.2; omega)
    have c10 := (iv_L h hj).1.1
    cases h2 : inR o 0 5
    case false =>
      simp only [reduceCtorEq, fv0, fv1, fv2, fv3, bI_0, bI_1, bft, MSh_sI_eq, fsP_T, inL_0, inL_s, pad_0, pad_n, pad_s, wpn_s, wp1_s, lg_0, lg_s, lset_0, lset_s, kil_0, kil_s, st1_s, st2_s, isL_i, isL_l, isL_r, isL_n, spl_0, spl_s, cll_n, cll_s, catS_0, catS_s, jmp_s, alk_0, alk_s, otl_n, otl_s, List.nil_append, List.cons_append, List.contains_cons, List.contains_nil, Nat.reduceBEq, Bool.or_false, Bool.false_or, Bool.or_self, Bool.false_eq_true, Bool.true_or, Bool.or_true, if_true, if_false, ite_true, ite_false, ↓reduceIte, List.length_cons, List.length_nil, Nat.reduceAdd, Nat.reduceLT, Nat.reduceLeDiff, Nat.reduceEqDiff, Int.reduceAdd, Int.reduceLE, Int.toNat_natCast, Int.reduceToNat, Int.cast_ofNat_Int, true_and, and_true, false_and, and_false, true_implies, forall_const, eq_self, and_self, or_true, true_or, or_self, false_or, or_false, yI_sI, yR_sI, yC_sI, yN_sI, yI_sR, yR_sR, yC_sR, yN_sR, not_true_eq_false, not_false_eq_true, false_implies, implies_true, Nat.zero_add, Nat.add_zero, Nat.le_refl, Nat.reduceSub, Int.reduceSub, Int.reduceLT, Int.sub_zero, Int.sub_self, List.getElem?_toArray, List.getElem?_cons_zero, List.getElem?_cons_succ, Int.toNat_zero, Int.toNat_one, Int.lt_irrefl, yI_sB, yR_sB, yC_sB, yN_sB, MSh_sB_eq, pS_judge_0, stp_aload_n, pS_judge_1, stp_iload_n, pS_judge_2, stp_invokevirtual, qmS_141, cy_S_lotAt, ss_C0 hS, pS_judge_5, stp_astore_n, pS_judge_6, pS_judge_7, stp_ifnull, pS_judge_10, pS_judge_11, stp_invokestatic, qmS_328, cy_S_isOwner, pS_judge_14, stp_ifCond_ne, pS_judge_17, pS_judge_18, stp_bipush, pS_judge_20, qmS_79, cy_S_refuse, pS_judge_23, stp_ireturn, pS_judge_24, pS_judge_25, pS_judge_26, qmS_182, cy_S_isInDoubt, pS_judge_29, stp_ifCond_eq, pS_judge_32, stp_iconst, pS_judge_33, stp_goto, pS_judge_36, pS_judge_37, stp_istore, pS_judge_39, pS_judge_40, pS_judge_41, stp_putfield, qfS_161, rp_10_4, fi_10_4, nr_10_4, pS_judge_44, pS_judge_45, pS_judge_46, qfS_340, rp_10_10, fi_10_10, nr_10_10, pS_judge_49, stp_iload, pS_judge_51, bp_m3, ic_1, ic_0, nv_S_judge, ml_S_judge, ruS_lotAt hl, fsS_isOwner, ej, h1, h2, rfS_3 hS, lvS_lotAt, lvS_isOwner, lvS_isInDoubt, lvS_refuse]
      refine Pst_rf (d := fun w => jdD w v o) (v := fun w => bI (dbt w v.toNatClampNeg)) (W := fun w => jdW w v.toNatClampNeg o) (okM_judge l G) (by decide) (fun _ => rfl) h (b := 3) (by decide) rfl ?_
      show jdD w v o = _
      simp only [jdD, h1, h2, if_true, if_false, ite_true, ite_false, ↓reduceIte, Bool.false_eq_true, Bool.true_eq_false, reduceCtorEq, not_true_eq_false, not_false_eq_true, eq_self]
      rfl
    case true =>
      cases hd : dbt w j
      all_goals simp only [reduceCtorEq, fv0, fv1, fv2, fv3, bI_0, bI_1, bft, MSh_sI_eq, fsP_T, inL_0, inL_s, pad_0, pad_n, pad_s, wpn_s, wp1_s, lg_0, lg_s, lset_0, lset_s, kil_0, kil_s, st1_s, st2_s, isL_i, isL_l, isL_r, isL_n, spl_0, spl_s, cll_n, cll_s, catS_0, catS_s, jmp_s, alk_0, alk_s, otl_n, otl_s, List.nil_append, List.cons_append, List.contains_cons, List.contains_nil, Nat.reduceBEq, Bool.or_false, Bool.false_or, Bool.or_self, Bool.false_eq_true, Bool.true_or, Bool.or_true, if_true, if_false, ite_true, ite_false, ↓reduceIte, List.length_cons, List.length_nil, Nat.reduceAdd, Nat.reduceLT, Nat.reduceLeDiff, Nat.reduceEqDiff, Int.reduceAdd, Int.reduceLE, Int.toNat_natCast, Int.reduceToNat, Int.cast_ofNat_Int, true_and, and_true, false_and, and_false, true_implies, forall_const, eq_self, and_self, or_true, true_or, or_self, false_or, or_false, yI_sI, yR_sI, yC_sI, yN_sI, yI_sR, yR_sR, yC_sR, yN_sR, not_true_eq_false, not_false_eq_true, false_implies, implies_true, Nat.zero_add, Nat.add_zero, Nat.le_refl, Nat.reduceSub, Int.reduceSub, Int.reduceLT, Int.sub_zero, Int.sub_self, List.getElem?_toArray, List.getElem?_cons_zero, List.getElem?_cons_succ, Int.toNat_zero, Int.toNat_one, Int.lt_irrefl, yI_sB, yR_sB, yC_sB, yN_sB, MSh_sB_eq, pS_judge_0, stp_aload_n, pS_judge_1, stp_iload_n, pS_judge_2, stp_invokevirtual, qmS_141, cy_S_lotAt, ss_C0 hS, pS_judge_5, stp_astore_n, pS_judge_6, pS_judge_7, stp_ifnull, pS_judge_10, pS_judge_11, stp_invokestatic, qmS_328, cy_S_isOwner, pS_judge_14, stp_ifCond_ne, pS_judge_17, pS_judge_18, stp_bipush, pS_judge_20, qmS_79, cy_S_refuse, pS_judge_23, stp_ireturn, pS_judge_24, pS_judge_25, pS_judge_26, qmS_182, cy_S_isInDoubt, pS_judge_29, stp_ifCond_eq, pS_judge_32, stp_iconst, pS_judge_33, stp_goto, pS_judge_36, pS_judge_37, stp_istore, pS_judge_39, pS_judge_40, pS_judge_41, stp_putfield, qfS_161, rp_10_4, fi_10_4, nr_10_4, pS_judge_44, pS_judge_45, pS_judge_46, qfS_340, rp_10_10, fi_10_10, nr_10_10, pS_judge_49, stp_iload, pS_judge_51, bp_m3, ic_1, ic_0, nv_S_judge, ml_S_judge, ruS_lotAt hl, fsS_isOwner, ej, h1, h2, c10, ruS_isInDoubt hl hj, lvS_lotAt, lvS_isOwner, lvS_isInDoubt, lvS_refuse, hd, show ¬ (1 : Int32) = 0 by decide]
      all_goals exact Pst_ok2 (d := fun w => jdD w v o) (v := fun w => bI (dbt w v.toNatClampNeg)) (W := fun w => jdW w v.toNatClampNeg o) (okM_judge l G) (by decide) (fun _ => rfl) (fun _ => rfl) (fun _ => rfl) ((msk_sI rfl).trans (msk_sI rfl)) hM (by simp only [jdD, h1, h2, if_true, if_false, ite_true, ite_false, ↓reduceIte, Bool.false_eq_true, Bool.true_eq_false, reduceCtorEq, not_true_eq_false, not_false_eq_true, eq_self]) (by rw [ej, hd]; rfl) (by rw [ej]; exact jd_inv h hj h2)
end
