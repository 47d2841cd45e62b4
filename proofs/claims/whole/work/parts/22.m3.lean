/-! marks, doubt, rules of the reference -/
def rem10 (x : Int32) : Int32 := x - x / 10 * 10
def nrS (s : Int32 × Int32 × Int32) : Int32 × Int32 × Int32 := (s.1 + (if rem10 s.2.1 = rem10 s.2.2 then 0 else 1), s.2.1 / 10, s.2.2 / 10)
/-- two marks differ in just one of four digits -/
def nearB (a b : Int32) : Bool := decide ((nrS (nrS (nrS (nrS (0, a, b))))).1 = 1)
section
variable {l : Launch} {G : Gc} {n : Nat} {Q : Option AV → Wd → Prop} {w : Wd}
set_option maxRecDepth 100000 in
set_option maxHeartbeats 4000000 in
theorem stM_isNear {a b : Int32} {s : Int32 × Int32 × Int32} {k : Nat} (hk : k < 4) (h : WP l G mM_isNear n 0 0 Q 10 [some (.inl a), some (.inl b), some (.inl (nrS s).1), some (.inl (nrS s).2.1), some (.inl (nrS s).2.2), some (.inl (nI (k + 1)))] [] w 0 0) : WP l G mM_isNear n 0 0 Q 10 [some (.inl a), some (.inl b), some (.inl s.1), some (.inl s.2.1), some (.inl s.2.2), some (.inl (nI k))] [] w 0 0 := by
  have h1 : ¬ (4 : Int32) ≤ nI k := nI_ge (b := 4) hk (by omega)
  have h2 : ¬ (10 : Int32) = 0 := by decide
  refine wpn_ok (M := mM_isNear) (C := cenM) (X := (alk [])) (tb := tM_isNear) (st := [10]) eoM XOk_nil kM_isNear 60 _ _ _ _ _ _ ?_
  simp only [fv0, fv1, fv2, fv3, bI_0, bI_1, bft, MSh_sI_eq, fsP_T, inL_0, inL_s, pad_0, pad_n, pad_s, wpn_s, wp1_s, lg_0, lg_s, lset_0, lset_s, kil_0, kil_s, st1_s, st2_s, isL_i, isL_l, isL_r, isL_n, spl_0, spl_s, cll_n, cll_s, catS_0, catS_s, jmp_s, alk_0, alk_s, otl_n, otl_s, List.nil_append, List.cons_append, List.contains_cons, List.contains_nil, Nat.reduceBEq, Bool.or_false, Bool.false_or, Bool.or_self, Bool.false_eq_true, Bool.true_or, Bool.or_true, if_true, if_false, ite_true, ite_false, ↓reduceIte, List.length_cons, List.length_nil, Nat.reduceAdd, Nat.reduceLT, Nat.reduceLeDiff, Nat.reduceEqDiff, Int.reduceAdd, Int.reduceLE, Int.toNat_natCast, Int.reduceToNat, Int.cast_ofNat_Int, true_and, and_true, true_implies, forall_const, eq_self, and_self, or_true, true_or, or_self, false_or, or_false, yI_sI, yR_sI, yC_sI, yN_sI, yI_sR, yR_sR, yC_sR, yN_sR, not_true_eq_false, not_false_eq_true, false_implies, implies_true, Nat.zero_add, Nat.add_zero, Nat.le_refl, Nat.reduceSub, pM_isNear_0, stp_iconst, pM_isNear_1, stp_istore_n, pM_isNear_2, stp_iload_n, pM_isNear_3, pM_isNear_4, pM_isNear_5, stp_istore, pM_isNear_7, pM_isNear_8, pM_isNear_10, stp_iload, pM_isNear_12, pM_isNear_13, stp_if_icmp_ge, pM_isNear_16, pM_isNear_17, pM_isNear_18, stp_bipush, pM_isNear_20, stp_irem, pM_isNear_21, pM_isNear_23, pM_isNear_25, pM_isNear_26, stp_if_icmp_eq, pM_isNear_29, pM_isNear_30, stp_goto, pM_isNear_33, pM_isNear_34, stp_iadd, pM_isNear_35, pM_isNear_36, pM_isNear_37, pM_isNear_39, stp_idiv, pM_isNear_40, pM_isNear_41, pM_isNear_43, pM_isNear_45, pM_isNear_46, pM_isNear_48, stp_iinc, pM_isNear_51, pM_isNear_54, pM_isNear_55, pM_isNear_56, stp_if_icmp_ne, pM_isNear_59, pM_isNear_60, pM_isNear_63, pM_isNear_64, stp_ireturn, ic_0, ic_4, bp_10, ic_1, nv_M_isNear, ml_M_isNear, h1, h2, nI_1]
  by_cases e : rem10 s.2.1 = rem10 s.2.2
  · simp only [nrS, e, rem10] at h e ⊢
    simp only [e, if_true, not_true_eq_false, false_implies, and_true, forall_const] at h ⊢
    exact h
  · simp only [nrS, e, if_false] at h
    simp only [rem10] at e
    simp only [e, not_false_eq_true, forall_const, false_implies, true_and]
    exact h
end
abbrev lvM_isNear : Nat := 1
def fsM_isNear : FS := fun as w => match as with
  | [.inl a, .inl b] => some (some (.inl (bI (nearB a b))), w)
  | _ => none
set_option maxRecDepth 100000 in
set_option maxHeartbeats 4000000 in
theorem okM_isNear (l : Launch) (G : Gc) : FsOk l G mM_isNear lvM_isNear fsM_isNear := by
  intro as w r w' h
  simp only [fsM_isNear] at h
  split at h
  · rename_i a b
    cases h
    refine Sem_of (by decide) rfl (Nat.le_of_ble_eq_true rfl) ?_
    refine wpn_ok (M := mM_isNear) (C := cenM) (X := (alk [])) (tb := tM_isNear) (st := [10]) eoM XOk_nil kM_isNear 60 _ _ _ _ _ _ ?_
    simp only [fv0, fv1, fv2, fv3, bI_0, bI_1, bft, MSh_sI_eq, fsP_T, inL_0, inL_s, pad_0, pad_n, pad_s, wpn_s, wp1_s, lg_0, lg_s, lset_0, lset_s, kil_0, kil_s, st1_s, st2_s, isL_i, isL_l, isL_r, isL_n, spl_0, spl_s, cll_n, cll_s, catS_0, catS_s, jmp_s, alk_0, alk_s, otl_n, otl_s, List.nil_append, List.cons_append, List.contains_cons, List.contains_nil, Nat.reduceBEq, Bool.or_false, Bool.false_or, Bool.or_self, Bool.false_eq_true, Bool.true_or, Bool.or_true, if_true, if_false, ite_true, ite_false, ↓reduceIte, List.length_cons, List.length_nil, Nat.reduceAdd, Nat.reduceLT, Nat.reduceLeDiff, Nat.reduceEqDiff, Int.reduceAdd, Int.reduceLE, Int.toNat_natCast, Int.reduceToNat, Int.cast_ofNat_Int, true_and, and_true, true_implies, forall_const, eq_self, and_self, or_true, true_or, or_self, false_or, or_false, yI_sI, yR_sI, yC_sI, yN_sI, yI_sR, yR_sR, yC_sR, yN_sR, not_true_eq_false, not_false_eq_true, false_implies, implies_true, Nat.zero_add, Nat.add_zero, Nat.le_refl, Nat.reduceSub, pM_isNear_0, stp_iconst, pM_isNear_1, stp_istore_n, pM_isNear_2, stp_iload_n, pM_isNear_3, pM_isNear_4, pM_isNear_5, stp_istore, pM_isNear_7, pM_isNear_8, pM_isNear_10, stp_iload, pM_isNear_12, pM_isNear_13, stp_if_icmp_ge, pM_isNear_16, pM_isNear_17, pM_isNear_18, stp_bipush, pM_isNear_20, stp_irem, pM_isNear_21, pM_isNear_23, pM_isNear_25, pM_isNear_26, stp_if_icmp_eq, pM_isNear_29, pM_isNear_30, stp_goto, pM_isNear_33, pM_isNear_34, stp_iadd, pM_isNear_35, pM_isNear_36, pM_isNear_37, pM_isNear_39, stp_idiv, pM_isNear_40, pM_isNear_41, pM_isNear_43, pM_isNear_45, pM_isNear_46, pM_isNear_48, stp_iinc, pM_isNear_51, pM_isNear_54, pM_isNear_55, pM_isNear_56, stp_if_icmp_ne, pM_isNear_59, pM_isNear_60, pM_isNear_63, pM_isNear_64, stp_ireturn, ic_0, ic_4, bp_10, ic_1, nv_M_isNear, ml_M_isNear]
    refine stM_isNear (s := (0, a, b)) (k := 0) (by omega) (stM_isNear (k := 1) (by omega) (stM_isNear (k := 2) (by omega) (stM_isNear (k := 3) (by omega) ?_)))
    have h1 : (4 : Int32) ≤ nI (3 + 1) := by decide
    refine wpn_ok (M := mM_isNear) (C := cenM) (X := (alk [])) (tb := tM_isNear) (st := []) eoM XOk_nil kM_isNear 60 _ _ _ _ _ _ ?_
    simp only [fv0, fv1, fv2, fv3, bI_0, bI_1, bft, MSh_sI_eq, fsP_T, inL_0, inL_s, pad_0, pad_n, pad_s, wpn_s, wp1_s, lg_0, lg_s, lset_0, lset_s, kil_0, kil_s, st1_s, st2_s, isL_i, isL_l, isL_r, isL_n, spl_0, spl_s, cll_n, cll_s, catS_0, catS_s, jmp_s, alk_0, alk_s, otl_n, otl_s, List.nil_append, List.cons_append, List.contains_cons, List.contains_nil, Nat.reduceBEq, Bool.or_false, Bool.false_or, Bool.or_self, Bool.false_eq_true, Bool.true_or, Bool.or_true, if_true, if_false, ite_true, ite_false, ↓reduceIte, List.length_cons, List.length_nil, Nat.reduceAdd, Nat.reduceLT, Nat.reduceLeDiff, Nat.reduceEqDiff, Int.reduceAdd, Int.reduceLE, Int.toNat_natCast, Int.reduceToNat, Int.cast_ofNat_Int, true_and, and_true, true_implies, forall_const, eq_self, and_self, or_true, true_or, or_self, false_or, or_false, yI_sI, yR_sI, yC_sI, yN_sI, yI_sR, yR_sR, yC_sR, yN_sR, not_true_eq_false, not_false_eq_true, false_implies, implies_true, Nat.zero_add, Nat.add_zero, Nat.le_refl, Nat.reduceSub, pM_isNear_0, stp_iconst, pM_isNear_1, stp_istore_n, pM_isNear_2, stp_iload_n, pM_isNear_3, pM_isNear_4, pM_isNear_5, stp_istore, pM_isNear_7, pM_isNear_8, pM_isNear_10, stp_iload, pM_isNear_12, pM_isNear_13, stp_if_icmp_ge, pM_isNear_16, pM_isNear_17, pM_isNear_18, stp_bipush, pM_isNear_20, stp_irem, pM_isNear_21, pM_isNear_23, pM_isNear_25, pM_isNear_26, stp_if_icmp_eq, pM_isNear_29, pM_isNear_30, stp_goto, pM_isNear_33, pM_isNear_34, stp_iadd, pM_isNear_35, pM_isNear_36, pM_isNear_37, pM_isNear_39, stp_idiv, pM_isNear_40, pM_isNear_41, pM_isNear_43, pM_isNear_45, pM_isNear_46, pM_isNear_48, stp_iinc, pM_isNear_51, pM_isNear_54, pM_isNear_55, pM_isNear_56, stp_if_icmp_ne, pM_isNear_59, pM_isNear_60, pM_isNear_63, pM_isNear_64, stp_ireturn, ic_0, ic_4, bp_10, ic_1, nv_M_isNear, ml_M_isNear, h1]
    simp +contextual [nearB, bI]
  · cases h
def fstN (f : Nat → Bool) : Nat → Option Nat
  | 0 => none
  | n + 1 => match fstN f n with
    | some j => some j
    | none => if f n = true then some n else none
theorem fstN_at {f : Nat → Bool} {i : Nat} (h : fstN f i = none) (hf : f i = true) : ∀ k, fstN f (i + 1 + k) = some i
  | 0 => by simp [fstN, h, hf]
  | k + 1 => by
    have := fstN_at h hf k
    rw [← Nat.add_assoc]
    simp only [fstN, this]
theorem fstN_s {f : Nat → Bool} {n j : Nat} (h : fstN f n = some j) : j < n ∧ f j = true := by
  induction n with
  | zero => cases h
  | succ n ih =>
    simp only [fstN] at h
    split at h
    · rename_i k hk
      cases h
      obtain ⟨h1, h2⟩ := ih hk
      exact ⟨by omega, h2⟩
    · split at h
      · rename_i hf
        cases h
        exact ⟨by omega, hf⟩
      · cases h
theorem fstN_congr {f g : Nat → Bool} {n : Nat} (h : ∀ j, j < n → f j = g j) : fstN f n = fstN g n := by
  induction n with
  | zero => rfl
  | succ n ih => simp only [fstN, ih (fun j hj => h j (by omega)), h n (by omega)]
/-- a place, or none, as a number -/
def oI : Option Nat → Int32
  | none => -1
  | some j => nI j
def fnF (w : Wd) (m : Int32) : Nat → Bool := fun j => decide (wI w 164 0 j = m)
def fnd (w : Wd) (m : Int32) : Option Nat := fstN (fnF w m) (cn w 63)
section
variable {l : Launch} {G : Gc} {n : Nat} {Q : Option AV → Wd → Prop} {w : Wd}
set_option maxRecDepth 100000 in
set_option maxHeartbeats 4000000 in
theorem lpM_find {m : Int32} {nl : Nat} (hS : MSh w) (hn : wI w 13 0 63 = nI nl) (h24 : nl ≤ 20) (hQ : Q (some (.inl (oI (fstN (fnF w m) nl)))) w) : ∀ k i, i + k = nl → fstN (fnF w m) i = none → WP l G mM_find n 0 0 Q 2 [some aM, some (.inl m), some (.inl (nI i))] [] w 0 0
  | 0, i, hi, hf => by
    have e : i = nl := hi
    subst e
    rw [hf] at hQ
    refine wpn_ok (M := mM_find) (C := cenM) (X := (alk [])) (tb := tM_find) (st := [2]) eoM XOk_nil kM_find 60 _ _ _ _ _ _ ?_
    simp only [fv0, fv1, fv2, fv3, bI_0, bI_1, bft, MSh_sI_eq, fsP_T, inL_0, inL_s, pad_0, pad_n, pad_s, wpn_s, wp1_s, lg_0, lg_s, lset_0, lset_s, kil_0, kil_s, st1_s, st2_s, isL_i, isL_l, isL_r, isL_n, spl_0, spl_s, cll_n, cll_s, catS_0, catS_s, jmp_s, alk_0, alk_s, otl_n, otl_s, List.nil_append, List.cons_append, List.contains_cons, List.contains_nil, Nat.reduceBEq, Bool.or_false, Bool.false_or, Bool.or_self, Bool.false_eq_true, Bool.true_or, Bool.or_true, if_true, if_false, ite_true, ite_false, ↓reduceIte, List.length_cons, List.length_nil, Nat.reduceAdd, Nat.reduceLT, Nat.reduceLeDiff, Nat.reduceEqDiff, Int.reduceAdd, Int.reduceLE, Int.toNat_natCast, Int.reduceToNat, Int.cast_ofNat_Int, true_and, and_true, true_implies, forall_const, eq_self, and_self, or_true, true_or, or_self, false_or, or_false, yI_sI, yR_sI, yC_sI, yN_sI, yI_sR, yR_sR, yC_sR, yN_sR, not_true_eq_false, not_false_eq_true, false_implies, implies_true, Nat.zero_add, Nat.add_zero, Nat.le_refl, Nat.reduceSub, pM_find_0, stp_iconst, pM_find_1, stp_istore_n, pM_find_2, stp_iload_n, pM_find_3, stp_aload_n, pM_find_4, stp_getfield, qfM_332, rp_13_63, ms_C13 hS, pM_find_7, stp_if_icmp_ge, pM_find_10, pM_find_11, qfM_153, rp_13_64, ms_R64 hS, ms_C164 hS, ms_N164 hS, pM_find_14, pM_find_15, stp_iaload, pM_find_16, pM_find_17, stp_if_icmp_ne, pM_find_20, pM_find_21, stp_ireturn, pM_find_22, stp_iinc, pM_find_25, stp_goto, pM_find_28, pM_find_29, ic_0, ic_1, ic_m1, nv_M_find, ml_M_find, hn, Int32.le_refl]
    exact hQ
  | k + 1, i, hi, hf => by
    have ih := lpM_find hS hn h24 hQ k (i + 1) (by omega)
    have h1 : ¬ nI nl ≤ nI i := nI_ge (by omega) (by omega)
    have h2 : vp_in (nI i) 20 := vp_in_nI (by omega) (by omega)
    have h3 : (nI i).toNatClampNeg = i := nI_clamp (by omega)
    refine wpn_ok (M := mM_find) (C := cenM) (X := (alk [])) (tb := tM_find) (st := [2]) eoM XOk_nil kM_find 60 _ _ _ _ _ _ ?_
    simp only [fv0, fv1, fv2, fv3, bI_0, bI_1, bft, MSh_sI_eq, fsP_T, inL_0, inL_s, pad_0, pad_n, pad_s, wpn_s, wp1_s, lg_0, lg_s, lset_0, lset_s, kil_0, kil_s, st1_s, st2_s, isL_i, isL_l, isL_r, isL_n, spl_0, spl_s, cll_n, cll_s, catS_0, catS_s, jmp_s, alk_0, alk_s, otl_n, otl_s, List.nil_append, List.cons_append, List.contains_cons, List.contains_nil, Nat.reduceBEq, Bool.or_false, Bool.false_or, Bool.or_self, Bool.false_eq_true, Bool.true_or, Bool.or_true, if_true, if_false, ite_true, ite_false, ↓reduceIte, List.length_cons, List.length_nil, Nat.reduceAdd, Nat.reduceLT, Nat.reduceLeDiff, Nat.reduceEqDiff, Int.reduceAdd, Int.reduceLE, Int.toNat_natCast, Int.reduceToNat, Int.cast_ofNat_Int, true_and, and_true, true_implies, forall_const, eq_self, and_self, or_true, true_or, or_self, false_or, or_false, yI_sI, yR_sI, yC_sI, yN_sI, yI_sR, yR_sR, yC_sR, yN_sR, not_true_eq_false, not_false_eq_true, false_implies, implies_true, Nat.zero_add, Nat.add_zero, Nat.le_refl, Nat.reduceSub, pM_find_0, stp_iconst, pM_find_1, stp_istore_n, pM_find_2, stp_iload_n, pM_find_3, stp_aload_n, pM_find_4, stp_getfield, qfM_332, rp_13_63, ms_C13 hS, pM_find_7, stp_if_icmp_ge, pM_find_10, pM_find_11, qfM_153, rp_13_64, ms_R64 hS, ms_C164 hS, ms_N164 hS, pM_find_14, pM_find_15, stp_iaload, pM_find_16, pM_find_17, stp_if_icmp_ne, pM_find_20, pM_find_21, stp_ireturn, pM_find_22, stp_iinc, pM_find_25, stp_goto, pM_find_28, pM_find_29, ic_0, ic_1, ic_m1, nv_M_find, ml_M_find, hn, h1, h2, h3, nI_1]
    refine ⟨fun e => ih (by simp [fstN, hf, fnF, e]), fun e => ?_⟩
    have := fstN_at (f := fnF w m) hf (by simp [fnF, e]) k
    rw [show i + 1 + k = nl by omega] at this
    rw [this] at hQ
    exact hQ
end
abbrev lvM_find : Nat := 1
noncomputable def fsM_find : FS := fun as w => match as with
  | [.inr (.inr (some (13, 0))), .inl m] => fsP (MSh w ∧ okc w 63 20) (some (.inl (oI (fnd w m))), w)
  | _ => none
set_option maxRecDepth 100000 in
set_option maxHeartbeats 4000000 in
theorem okM_find (l : Launch) (G : Gc) : FsOk l G mM_find lvM_find fsM_find := by
  intro as w r w' h
  simp only [fsM_find] at h
  split at h
  · rename_i m
    obtain ⟨⟨hS, hn, h20⟩, h⟩ := fsP_s h
    cases h
    refine Sem_of (by decide) rfl (Nat.le_of_ble_eq_true rfl) ?_
    refine wpn_ok (M := mM_find) (C := cenM) (X := (alk [])) (tb := tM_find) (st := [2]) eoM XOk_nil kM_find 60 _ _ _ _ _ _ ?_
    simp only [fv0, fv1, fv2, fv3, bI_0, bI_1, bft, MSh_sI_eq, fsP_T, inL_0, inL_s, pad_0, pad_n, pad_s, wpn_s, wp1_s, lg_0, lg_s, lset_0, lset_s, kil_0, kil_s, st1_s, st2_s, isL_i, isL_l, isL_r, isL_n, spl_0, spl_s, cll_n, cll_s, catS_0, catS_s, jmp_s, alk_0, alk_s, otl_n, otl_s, List.nil_append, List.cons_append, List.contains_cons, List.contains_nil, Nat.reduceBEq, Bool.or_false, Bool.false_or, Bool.or_self, Bool.false_eq_true, Bool.true_or, Bool.or_true, if_true, if_false, ite_true, ite_false, ↓reduceIte, List.length_cons, List.length_nil, Nat.reduceAdd, Nat.reduceLT, Nat.reduceLeDiff, Nat.reduceEqDiff, Int.reduceAdd, Int.reduceLE, Int.toNat_natCast, Int.reduceToNat, Int.cast_ofNat_Int, true_and, and_true, true_implies, forall_const, eq_self, and_self, or_true, true_or, or_self, false_or, or_false, yI_sI, yR_sI, yC_sI, yN_sI, yI_sR, yR_sR, yC_sR, yN_sR, not_true_eq_false, not_false_eq_true, false_implies, implies_true, Nat.zero_add, Nat.add_zero, Nat.le_refl, Nat.reduceSub, pM_find_0, stp_iconst, pM_find_1, stp_istore_n, pM_find_2, stp_iload_n, pM_find_3, stp_aload_n, pM_find_4, stp_getfield, qfM_332, rp_13_63, ms_C13 hS, pM_find_7, stp_if_icmp_ge, pM_find_10, pM_find_11, qfM_153, rp_13_64, ms_R64 hS, ms_C164 hS, ms_N164 hS, pM_find_14, pM_find_15, stp_iaload, pM_find_16, pM_find_17, stp_if_icmp_ne, pM_find_20, pM_find_21, stp_ireturn, pM_find_22, stp_iinc, pM_find_25, stp_goto, pM_find_28, pM_find_29, ic_0, ic_1, ic_m1, nv_M_find, ml_M_find]
    exact lpM_find hS hn h20 ⟨rfl, rfl⟩ (cn w 63) 0 (by omega) rfl
  · cases h
