/-! functional workings -/
def FsOk (l : Launch) (G : Gc) (M : MI) (n : Nat) (f : FS) : Prop := ∀ as w r w', f as w = some (r, w') → Sem l G M n 0 0 as w (fun r2 w2 => r2 = r ∧ w2 = w')
theorem XOk_nil {l : Launch} {G : Gc} {C : CE} : XOk l G C (alk []) := fun idx n' f c h => by cases h
theorem XOk_cons {l : Launch} {G : Gc} {C : CE} {idx n' : Nat} {f : FS} {c : Cal} {rest : List (Nat × (Nat × FS))} (hc : ceM C idx = some c) (hf : FsOk l G c.1 n' f) (hX : XOk l G C (alk rest)) : XOk l G C (alk ((idx, n', f) :: rest)) := by
  intro i m g d h hd
  simp only [alk] at h
  split at h
  · rename_i e
    cases h
    subst e
    cases hc.symm.trans hd
    exact hf
  · exact hX i m g d h hd
/-- only where P -/
noncomputable def fsP (P : Prop) (x : Option AV × Wd) : Option (Option AV × Wd) := @ite _ P (Classical.propDecidable P) (some x) none
theorem fsP_t {P : Prop} {x : Option AV × Wd} (h : P) : fsP P x = some x := by unfold fsP; exact if_pos h
theorem fsP_T {x : Option AV × Wd} : fsP True x = some x := fsP_t trivial
theorem fsP_s {P : Prop} {x : Option AV × Wd} {r : Option AV} {w : Wd} (h : fsP P x = some (r, w)) : P ∧ x = (r, w) := by
  unfold fsP at h
  split at h
  · rename_i hp
    exact ⟨hp, Option.some.inj h⟩
  · cases h
/-- a truth as a number -/
def bI (b : Bool) : Int32 := if b = true then 1 else 0
theorem bI_0 (b : Bool) : (bI b = 0) = (b = false) := by cases b <;> decide
theorem bI_1 (b : Bool) : (bI b = 1) = (b = true) := by cases b <;> decide
theorem bft (b : Bool) : (b = false ∨ b = true) = True := by cases b <;> simp
def inR (v a b : Int32) : Bool := !decide (v < a) && !decide (b < v)
theorem inR_t {v a b : Int32} (h : ¬ v < a) (h2 : ¬ b < v) : inR v a b = true := by simp [inR, -Int32.not_lt, h, h2]
theorem inR_1 {v a b : Int32} (h : v < a) : inR v a b = false := by simp [inR, h]
theorem inR_2 {v a b : Int32} (h : b < v) : inR v a b = false := by simp [inR, h]
theorem inR_spec {v a b : Int32} (h : inR v a b = true) : ¬ v < a ∧ ¬ b < v := by simpa [inR, -Int32.not_lt] using h
theorem fv0 : ((0 : Fin 4) : Nat) = 0 := (rfl)
theorem fv1 : ((1 : Fin 4) : Nat) = 1 := (rfl)
theorem fv2 : ((2 : Fin 4) : Nat) = 2 := (rfl)
theorem fv3 : ((3 : Fin 4) : Nat) = 3 := (rfl)
theorem MSh_sI_eq {w : Wd} {t k i : Nat} {v : Int32} : MSh (sI w t k i v) = MSh w := (rfl)
abbrev aM : AV := .inr (.inr (some (13, 0)))
abbrev lvM_in : Nat := 1
def fsM_in : FS := fun as w => match as with
  | [.inl v, .inl a, .inl b] => some (some (.inl (bI (inR v a (b)))), w)
  | _ => none
theorem okM_in (l : Launch) (G : Gc) : FsOk l G mM_in lvM_in fsM_in := by
  intro as w r w' h
  simp only [fsM_in] at h
  split at h
  · rename_i v a b
    cases h
    refine Sem_of (by decide) rfl (Nat.le_of_ble_eq_true rfl) ?_
    refine wpn_ok (M := mM_in) (C := cenM) (X := (alk [])) (tb := tM_in) (st := []) eoM XOk_nil kM_in 30 _ _ _ _ _ _ ?_
    simp only [fv0, fv1, fv2, fv3, bI_0, bI_1, bft, MSh_sI_eq, fsP_T, inL_0, inL_s, pad_0, pad_n, pad_s, wpn_s, wp1_s, lg_0, lg_s, lset_0, lset_s, kil_0, kil_s, st1_s, st2_s, isL_i, isL_l, isL_r, isL_n, spl_0, spl_s, cll_n, cll_s, catS_0, catS_s, jmp_s, alk_0, alk_s, otl_n, otl_s, List.nil_append, List.cons_append, List.contains_cons, List.contains_nil, Nat.reduceBEq, Bool.or_false, Bool.false_or, Bool.or_self, Bool.false_eq_true, Bool.true_or, Bool.or_true, if_true, if_false, ite_true, ite_false, ↓reduceIte, List.length_cons, List.length_nil, Nat.reduceAdd, Nat.reduceLT, Nat.reduceLeDiff, Nat.reduceEqDiff, Int.reduceAdd, Int.reduceLE, Int.toNat_natCast, Int.reduceToNat, Int.cast_ofNat_Int, true_and, and_true, true_implies, forall_const, eq_self, and_self, or_true, true_or, or_self, false_or, or_false, yI_sI, yR_sI, yC_sI, yN_sI, yI_sR, yR_sR, yC_sR, yN_sR, not_true_eq_false, not_false_eq_true, false_implies, implies_true, Nat.zero_add, Nat.add_zero, Nat.le_refl, Nat.reduceSub, pM_in_0, stp_iload_n, pM_in_1, pM_in_2, stp_if_icmp_lt, pM_in_5, pM_in_6, pM_in_7, stp_if_icmp_gt, pM_in_10, stp_iconst, pM_in_11, stp_goto, pM_in_14, pM_in_15, stp_ireturn, ic_1, ic_0, nv_M_in, ml_M_in]
    refine ⟨fun h => by rw [inR_1 h]; rfl, fun h => ⟨fun h2 => by rw [inR_2 h2]; rfl, fun h2 => by rw [inR_t h h2]; rfl⟩⟩
  · cases h
abbrev lvM_refused : Nat := 1
/-- one refusal more, in the reference -/
def rfz (w : Wd) (b : Nat) : Wd := sI w 101 0 b (wI w 101 0 b + 1)
noncomputable def fsM_refused : FS := fun as w => match as with
  | [.inr (.inr (some (13, 0))), .inl v] => fsP (MSh w ∧ vp_in (-v) 9) (some (.inl v), rfz w (-v).toNatClampNeg)
  | _ => none
set_option maxRecDepth 100000 in
set_option maxHeartbeats 4000000 in
theorem okM_refused (l : Launch) (G : Gc) : FsOk l G mM_refused lvM_refused fsM_refused := by
  intro as w r w' h
  simp only [fsM_refused] at h
  split at h
  · rename_i v
    obtain ⟨⟨hS, hv⟩, h⟩ := fsP_s h
    cases h
    refine Sem_of (by decide) rfl (Nat.le_of_ble_eq_true rfl) ?_
    refine wpn_ok (M := mM_refused) (C := cenM) (X := (alk [])) (tb := tM_refused) (st := []) eoM XOk_nil kM_refused 200 _ _ _ _ _ _ ?_
    simp only [fv0, fv1, fv2, fv3, bI_0, bI_1, bft, MSh_sI_eq, fsP_T, inL_0, inL_s, pad_0, pad_n, pad_s, wpn_s, wp1_s, lg_0, lg_s, lset_0, lset_s, kil_0, kil_s, st1_s, st2_s, isL_i, isL_l, isL_r, isL_n, spl_0, spl_s, cll_n, cll_s, catS_0, catS_s, jmp_s, alk_0, alk_s, otl_n, otl_s, List.nil_append, List.cons_append, List.contains_cons, List.contains_nil, Nat.reduceBEq, Bool.or_false, Bool.false_or, Bool.or_self, Bool.false_eq_true, Bool.true_or, Bool.or_true, if_true, if_false, ite_true, ite_false, ↓reduceIte, List.length_cons, List.length_nil, Nat.reduceAdd, Nat.reduceLT, Nat.reduceLeDiff, Nat.reduceEqDiff, Int.reduceAdd, Int.reduceLE, Int.toNat_natCast, Int.reduceToNat, Int.cast_ofNat_Int, true_and, and_true, true_implies, forall_const, eq_self, and_self, or_true, true_or, or_self, false_or, or_false, yI_sI, yR_sI, yC_sI, yN_sI, yI_sR, yR_sR, yC_sR, yN_sR, not_true_eq_false, not_false_eq_true, false_implies, implies_true, Nat.zero_add, Nat.add_zero, Nat.le_refl, Nat.reduceSub, pM_refused_0, stp_aload_n, pM_refused_1, stp_getfield, qfM_7, rp_13_1, ms_R1 hS, ms_C101 hS, ms_N101 hS, ms_C13 hS, pM_refused_4, stp_iload_n, pM_refused_5, stp_ineg, pM_refused_6, stp_dup2, pM_refused_7, stp_iaload, pM_refused_8, stp_iconst, pM_refused_9, stp_iadd, pM_refused_10, stp_iastore, pM_refused_11, pM_refused_12, stp_ireturn, ic_1, nv_M_refused, ml_M_refused, lvM_refused, hv]
    rfl
  · cases h
theorem rfM (b : Nat) (hb : b < 9) {w : Wd} (h : MSh w) : fsM_refused [.inr (.inr (some (13, 0))), .inl (-nI b)] w = some (some (.inl (-nI b)), rfz w b) := by
  have e : - -nI b = nI b := by simp
  rw [show fsM_refused [.inr (.inr (some (13, 0))), .inl (-nI b)] w = fsP (MSh w ∧ vp_in (- -nI b) 9) (some (.inl (-nI b)), rfz w (- -nI b).toNatClampNeg) from rfl, e, nI_clamp (by omega)]
  exact fsP_t ⟨h, vp_in_nI hb (by omega)⟩
theorem rfM_2 {w : Wd} (h : MSh w) : fsM_refused [.inr (.inr (some (13, 0))), .inl (-2)] w = some (some (.inl (-2)), rfz w 2) := rfM 2 (by omega) h
theorem rfM_3 {w : Wd} (h : MSh w) : fsM_refused [.inr (.inr (some (13, 0))), .inl (-3)] w = some (some (.inl (-3)), rfz w 3) := rfM 3 (by omega) h
theorem rfM_4 {w : Wd} (h : MSh w) : fsM_refused [.inr (.inr (some (13, 0))), .inl (-4)] w = some (some (.inl (-4)), rfz w 4) := rfM 4 (by omega) h
theorem rfM_5 {w : Wd} (h : MSh w) : fsM_refused [.inr (.inr (some (13, 0))), .inl (-5)] w = some (some (.inl (-5)), rfz w 5) := rfM 5 (by omega) h
theorem rfM_6 {w : Wd} (h : MSh w) : fsM_refused [.inr (.inr (some (13, 0))), .inl (-6)] w = some (some (.inl (-6)), rfz w 6) := rfM 6 (by omega) h
theorem rfM_7 {w : Wd} (h : MSh w) : fsM_refused [.inr (.inr (some (13, 0))), .inl (-7)] w = some (some (.inl (-7)), rfz w 7) := rfM 7 (by omega) h
theorem rfM_8 {w : Wd} (h : MSh w) : fsM_refused [.inr (.inr (some (13, 0))), .inl (-8)] w = some (some (.inl (-8)), rfz w 8) := rfM 8 (by omega) h
abbrev lvM_isMark : Nat := 2
def fsM_isMark : FS := fun as w => match as with
  | [.inl v] => some (some (.inl (bI (inR v 0 (9999)))), w)
  | _ => none
set_option maxRecDepth 100000 in
set_option maxHeartbeats 4000000 in
theorem okM_isMark (l : Launch) (G : Gc) : FsOk l G mM_isMark lvM_isMark fsM_isMark := by
  intro as w r w' h
  simp only [fsM_isMark] at h
  split at h
  · rename_i v
    cases h
    refine Sem_of (by decide) rfl (Nat.le_of_ble_eq_true rfl) ?_
    refine wpn_ok (M := mM_isMark) (C := cenM) (X := (alk [(165, lvM_in, fsM_in)])) (tb := tM_isMark) (st := []) eoM (XOk_cons qmM_165 (okM_in l G) XOk_nil) kM_isMark 200 _ _ _ _ _ _ ?_
    simp only [fv0, fv1, fv2, fv3, bI_0, bI_1, bft, MSh_sI_eq, fsP_T, inL_0, inL_s, pad_0, pad_n, pad_s, wpn_s, wp1_s, lg_0, lg_s, lset_0, lset_s, kil_0, kil_s, st1_s, st2_s, isL_i, isL_l, isL_r, isL_n, spl_0, spl_s, cll_n, cll_s, catS_0, catS_s, jmp_s, alk_0, alk_s, otl_n, otl_s, List.nil_append, List.cons_append, List.contains_cons, List.contains_nil, Nat.reduceBEq, Bool.or_false, Bool.false_or, Bool.or_self, Bool.false_eq_true, Bool.true_or, Bool.or_true, if_true, if_false, ite_true, ite_false, ↓reduceIte, List.length_cons, List.length_nil, Nat.reduceAdd, Nat.reduceLT, Nat.reduceLeDiff, Nat.reduceEqDiff, Int.reduceAdd, Int.reduceLE, Int.toNat_natCast, Int.reduceToNat, Int.cast_ofNat_Int, true_and, and_true, true_implies, forall_const, eq_self, and_self, or_true, true_or, or_self, false_or, or_false, yI_sI, yR_sI, yC_sI, yN_sI, yI_sR, yR_sR, yC_sR, yN_sR, not_true_eq_false, not_false_eq_true, false_implies, implies_true, Nat.zero_add, Nat.add_zero, Nat.le_refl, Nat.reduceSub, pM_isMark_0, stp_iload_n, pM_isMark_1, stp_iconst, pM_isMark_2, stp_sipush, pM_isMark_5, stp_invokestatic, qmM_165, cy_M_in, pM_isMark_8, stp_ireturn, ic_0, sp_9999, nv_M_isMark, ml_M_isMark, fsM_in, lvM_in, lvM_isMark]
  · cases h
abbrev lvM_isBuyer : Nat := 2
def fsM_isBuyer : FS := fun as w => match as with
  | [.inl v] => some (some (.inl (bI (inR v 0 (4)))), w)
  | _ => none
set_option maxRecDepth 100000 in
set_option maxHeartbeats 4000000 in
theorem okM_isBuyer (l : Launch) (G : Gc) : FsOk l G mM_isBuyer lvM_isBuyer fsM_isBuyer := by
  intro as w r w' h
  simp only [fsM_isBuyer] at h
  split at h
  · rename_i v
    cases h
    refine Sem_of (by decide) rfl (Nat.le_of_ble_eq_true rfl) ?_
    refine wpn_ok (M := mM_isBuyer) (C := cenM) (X := (alk [(165, lvM_in, fsM_in)])) (tb := tM_isBuyer) (st := []) eoM (XOk_cons qmM_165 (okM_in l G) XOk_nil) kM_isBuyer 200 _ _ _ _ _ _ ?_
    simp only [fv0, fv1, fv2, fv3, bI_0, bI_1, bft, MSh_sI_eq, fsP_T, inL_0, inL_s, pad_0, pad_n, pad_s, wpn_s, wp1_s, lg_0, lg_s, lset_0, lset_s, kil_0, kil_s, st1_s, st2_s, isL_i, isL_l, isL_r, isL_n, spl_0, spl_s, cll_n, cll_s, catS_0, catS_s, jmp_s, alk_0, alk_s, otl_n, otl_s, List.nil_append, List.cons_append, List.contains_cons, List.contains_nil, Nat.reduceBEq, Bool.or_false, Bool.false_or, Bool.or_self, Bool.false_eq_true, Bool.true_or, Bool.or_true, if_true, if_false, ite_true, ite_false, ↓reduceIte, List.length_cons, List.length_nil, Nat.reduceAdd, Nat.reduceLT, Nat.reduceLeDiff, Nat.reduceEqDiff, Int.reduceAdd, Int.reduceLE, Int.toNat_natCast, Int.reduceToNat, Int.cast_ofNat_Int, true_and, and_true, true_implies, forall_const, eq_self, and_self, or_true, true_or, or_self, false_or, or_false, yI_sI, yR_sI, yC_sI, yN_sI, yI_sR, yR_sR, yC_sR, yN_sR, not_true_eq_false, not_false_eq_true, false_implies, implies_true, Nat.zero_add, Nat.add_zero, Nat.le_refl, Nat.reduceSub, pM_isBuyer_0, stp_iload_n, pM_isBuyer_1, stp_iconst, pM_isBuyer_2, pM_isBuyer_3, stp_invokestatic, qmM_165, cy_M_in, pM_isBuyer_6, stp_ireturn, ic_0, ic_4, nv_M_isBuyer, ml_M_isBuyer, fsM_in, lvM_in, lvM_isBuyer]
  · cases h
abbrev lvM_isPlace : Nat := 2
noncomputable def fsM_isPlace : FS := fun as w => match as with
  | [.inr (.inr (some (13, 0))), .inl v] => fsP (MSh w) (some (.inl (bI (inR v 0 (wI w 13 0 3 - 1)))), w)
  | _ => none
set_option maxRecDepth 100000 in
set_option maxHeartbeats 4000000 in
theorem okM_isPlace (l : Launch) (G : Gc) : FsOk l G mM_isPlace lvM_isPlace fsM_isPlace := by
  intro as w r w' h
  simp only [fsM_isPlace] at h
  split at h
  · rename_i v
    obtain ⟨hS, h⟩ := fsP_s h
    cases h
    refine Sem_of (by decide) rfl (Nat.le_of_ble_eq_true rfl) ?_
    refine wpn_ok (M := mM_isPlace) (C := cenM) (X := (alk [(165, lvM_in, fsM_in)])) (tb := tM_isPlace) (st := []) eoM (XOk_cons qmM_165 (okM_in l G) XOk_nil) kM_isPlace 200 _ _ _ _ _ _ ?_
    simp only [fv0, fv1, fv2, fv3, bI_0, bI_1, bft, MSh_sI_eq, fsP_T, inL_0, inL_s, pad_0, pad_n, pad_s, wpn_s, wp1_s, lg_0, lg_s, lset_0, lset_s, kil_0, kil_s, st1_s, st2_s, isL_i, isL_l, isL_r, isL_n, spl_0, spl_s, cll_n, cll_s, catS_0, catS_s, jmp_s, alk_0, alk_s, otl_n, otl_s, List.nil_append, List.cons_append, List.contains_cons, List.contains_nil, Nat.reduceBEq, Bool.or_false, Bool.false_or, Bool.or_self, Bool.false_eq_true, Bool.true_or, Bool.or_true, if_true, if_false, ite_true, ite_false, ↓reduceIte, List.length_cons, List.length_nil, Nat.reduceAdd, Nat.reduceLT, Nat.reduceLeDiff, Nat.reduceEqDiff, Int.reduceAdd, Int.reduceLE, Int.toNat_natCast, Int.reduceToNat, Int.cast_ofNat_Int, true_and, and_true, true_implies, forall_const, eq_self, and_self, or_true, true_or, or_self, false_or, or_false, yI_sI, yR_sI, yC_sI, yN_sI, yI_sR, yR_sR, yC_sR, yN_sR, not_true_eq_false, not_false_eq_true, false_implies, implies_true, Nat.zero_add, Nat.add_zero, Nat.le_refl, Nat.reduceSub, pM_isPlace_0, stp_iload_n, pM_isPlace_1, stp_iconst, pM_isPlace_2, stp_aload_n, pM_isPlace_3, stp_getfield, qfM_173, rp_13_3, ms_C13 hS, pM_isPlace_6, pM_isPlace_7, stp_isub, pM_isPlace_8, stp_invokestatic, qmM_165, cy_M_in, pM_isPlace_11, stp_ireturn, ic_0, ic_1, nv_M_isPlace, ml_M_isPlace, fsM_in, lvM_in, lvM_isPlace]
  · cases h
abbrev lvM_isLot : Nat := 2
noncomputable def fsM_isLot : FS := fun as w => match as with
  | [.inr (.inr (some (13, 0))), .inl v] => fsP (MSh w) (some (.inl (bI (inR v 0 (wI w 13 0 17 - 1)))), w)
  | _ => none
set_option maxRecDepth 100000 in
set_option maxHeartbeats 4000000 in
theorem okM_isLot (l : Launch) (G : Gc) : FsOk l G mM_isLot lvM_isLot fsM_isLot := by
  intro as w r w' h
  simp only [fsM_isLot] at h
  split at h
  · rename_i v
    obtain ⟨hS, h⟩ := fsP_s h
    cases h
    refine Sem_of (by decide) rfl (Nat.le_of_ble_eq_true rfl) ?_
    refine wpn_ok (M := mM_isLot) (C := cenM) (X := (alk [(165, lvM_in, fsM_in)])) (tb := tM_isLot) (st := []) eoM (XOk_cons qmM_165 (okM_in l G) XOk_nil) kM_isLot 200 _ _ _ _ _ _ ?_
    simp only [fv0, fv1, fv2, fv3, bI_0, bI_1, bft, MSh_sI_eq, fsP_T, inL_0, inL_s, pad_0, pad_n, pad_s, wpn_s, wp1_s, lg_0, lg_s, lset_0, lset_s, kil_0, kil_s, st1_s, st2_s, isL_i, isL_l, isL_r, isL_n, spl_0, spl_s, cll_n, cll_s, catS_0, catS_s, jmp_s, alk_0, alk_s, otl_n, otl_s, List.nil_append, List.cons_append, List.contains_cons, List.contains_nil, Nat.reduceBEq, Bool.or_false, Bool.false_or, Bool.or_self, Bool.false_eq_true, Bool.true_or, Bool.or_true, if_true, if_false, ite_true, ite_false, ↓reduceIte, List.length_cons, List.length_nil, Nat.reduceAdd, Nat.reduceLT, Nat.reduceLeDiff, Nat.reduceEqDiff, Int.reduceAdd, Int.reduceLE, Int.toNat_natCast, Int.reduceToNat, Int.cast_ofNat_Int, true_and, and_true, true_implies, forall_const, eq_self, and_self, or_true, true_or, or_self, false_or, or_false, yI_sI, yR_sI, yC_sI, yN_sI, yI_sR, yR_sR, yC_sR, yN_sR, not_true_eq_false, not_false_eq_true, false_implies, implies_true, Nat.zero_add, Nat.add_zero, Nat.le_refl, Nat.reduceSub, pM_isLot_0, stp_iload_n, pM_isLot_1, stp_iconst, pM_isLot_2, stp_aload_n, pM_isLot_3, stp_getfield, qfM_206, rp_13_17, ms_C13 hS, pM_isLot_6, pM_isLot_7, stp_isub, pM_isLot_8, stp_invokestatic, qmM_165, cy_M_in, pM_isLot_11, stp_ireturn, ic_0, ic_1, nv_M_isLot, ml_M_isLot, fsM_in, lvM_in, lvM_isLot]
  · cases h
abbrev lvM_thirst : Nat := 1
noncomputable def fsM_thirst : FS := fun as w => match as with
  | [.inr (.inr (some (13, 0))), .inl v] => fsP (MSh w ∧ vp_in v 24) (some (.inl (wI w 13 0 2 - wI w 126 0 v.toNatClampNeg)), w)
  | _ => none
set_option maxRecDepth 100000 in
set_option maxHeartbeats 4000000 in
theorem okM_thirst (l : Launch) (G : Gc) : FsOk l G mM_thirst lvM_thirst fsM_thirst := by
  intro as w r w' h
  simp only [fsM_thirst] at h
  split at h
  · rename_i v
    obtain ⟨⟨hS, hv⟩, h⟩ := fsP_s h
    cases h
    refine Sem_of (by decide) rfl (Nat.le_of_ble_eq_true rfl) ?_
    refine wpn_ok (M := mM_thirst) (C := cenM) (X := (alk [])) (tb := tM_thirst) (st := []) eoM XOk_nil kM_thirst 200 _ _ _ _ _ _ ?_
    simp only [fv0, fv1, fv2, fv3, bI_0, bI_1, bft, MSh_sI_eq, fsP_T, inL_0, inL_s, pad_0, pad_n, pad_s, wpn_s, wp1_s, lg_0, lg_s, lset_0, lset_s, kil_0, kil_s, st1_s, st2_s, isL_i, isL_l, isL_r, isL_n, spl_0, spl_s, cll_n, cll_s, catS_0, catS_s, jmp_s, alk_0, alk_s, otl_n, otl_s, List.nil_append, List.cons_append, List.contains_cons, List.contains_nil, Nat.reduceBEq, Bool.or_false, Bool.false_or, Bool.or_self, Bool.false_eq_true, Bool.true_or, Bool.or_true, if_true, if_false, ite_true, ite_false, ↓reduceIte, List.length_cons, List.length_nil, Nat.reduceAdd, Nat.reduceLT, Nat.reduceLeDiff, Nat.reduceEqDiff, Int.reduceAdd, Int.reduceLE, Int.toNat_natCast, Int.reduceToNat, Int.cast_ofNat_Int, true_and, and_true, true_implies, forall_const, eq_self, and_self, or_true, true_or, or_self, false_or, or_false, yI_sI, yR_sI, yC_sI, yN_sI, yI_sR, yR_sR, yC_sR, yN_sR, not_true_eq_false, not_false_eq_true, false_implies, implies_true, Nat.zero_add, Nat.add_zero, Nat.le_refl, Nat.reduceSub, pM_thirst_0, stp_aload_n, pM_thirst_1, stp_getfield, qfM_200, rp_13_2, ms_C13 hS, pM_thirst_4, pM_thirst_5, qfM_67, rp_13_26, ms_R26 hS, ms_C126 hS, ms_N126 hS, pM_thirst_8, stp_iload_n, pM_thirst_9, stp_iaload, pM_thirst_10, stp_isub, pM_thirst_11, stp_ireturn, nv_M_thirst, ml_M_thirst, lvM_thirst, hv]
  · cases h
abbrev lvM_other : Nat := 1
noncomputable def fsM_other : FS := fun as w => match as with
  | [.inr (.inr (some (13, 0))), .inl k, .inl p] => fsP (MSh w ∧ vp_in k 20) (some (.inl (if wI w 107 0 k.toNatClampNeg = p then wI w 108 0 k.toNatClampNeg else if wI w 108 0 k.toNatClampNeg = p then wI w 107 0 k.toNatClampNeg else -1)), w)
  | _ => none
set_option maxRecDepth 100000 in
set_option maxHeartbeats 4000000 in
theorem okM_other (l : Launch) (G : Gc) : FsOk l G mM_other lvM_other fsM_other := by
  intro as w r w' h
  simp only [fsM_other] at h
  split at h
  · rename_i k p
    obtain ⟨⟨hS, hv⟩, h⟩ := fsP_s h
    cases h
    refine Sem_of (by decide) rfl (Nat.le_of_ble_eq_true rfl) ?_
    refine wpn_ok (M := mM_other) (C := cenM) (X := (alk [])) (tb := tM_other) (st := []) eoM XOk_nil kM_other 200 _ _ _ _ _ _ ?_
    simp only [fv0, fv1, fv2, fv3, bI_0, bI_1, bft, MSh_sI_eq, fsP_T, inL_0, inL_s, pad_0, pad_n, pad_s, wpn_s, wp1_s, lg_0, lg_s, lset_0, lset_s, kil_0, kil_s, st1_s, st2_s, isL_i, isL_l, isL_r, isL_n, spl_0, spl_s, cll_n, cll_s, catS_0, catS_s, jmp_s, alk_0, alk_s, otl_n, otl_s, List.nil_append, List.cons_append, List.contains_cons, List.contains_nil, Nat.reduceBEq, Bool.or_false, Bool.false_or, Bool.or_self, Bool.false_eq_true, Bool.true_or, Bool.or_true, if_true, if_false, ite_true, ite_false, ↓reduceIte, List.length_cons, List.length_nil, Nat.reduceAdd, Nat.reduceLT, Nat.reduceLeDiff, Nat.reduceEqDiff, Int.reduceAdd, Int.reduceLE, Int.toNat_natCast, Int.reduceToNat, Int.cast_ofNat_Int, true_and, and_true, true_implies, forall_const, eq_self, and_self, or_true, true_or, or_self, false_or, or_false, yI_sI, yR_sI, yC_sI, yN_sI, yI_sR, yR_sR, yC_sR, yN_sR, not_true_eq_false, not_false_eq_true, false_implies, implies_true, Nat.zero_add, Nat.add_zero, Nat.le_refl, Nat.reduceSub, pM_other_0, stp_aload_n, pM_other_1, stp_getfield, qfM_19, rp_13_7, ms_R7 hS, ms_C107 hS, ms_N107 hS, ms_C13 hS, pM_other_4, stp_iload_n, pM_other_5, stp_iaload, pM_other_6, pM_other_7, stp_if_icmp_ne, pM_other_10, pM_other_11, qfM_22, rp_13_8, ms_R8 hS, ms_C108 hS, ms_N108 hS, pM_other_14, pM_other_15, pM_other_16, stp_goto, pM_other_19, pM_other_20, pM_other_23, pM_other_24, pM_other_25, pM_other_26, pM_other_29, pM_other_30, pM_other_33, pM_other_34, pM_other_35, pM_other_38, stp_iconst, pM_other_39, stp_ireturn, ic_m1, nv_M_other, ml_M_other, lvM_other, hv]
    simp +contextual
  · cases h
abbrev lvM_isInPen : Nat := 1
noncomputable def fsM_isInPen : FS := fun as w => match as with
  | [.inr (.inr (some (13, 0))), .inl v] => fsP (MSh w ∧ vp_in v 24 ∧ (¬ wI w 123 0 v.toNatClampNeg = -1 → vp_in (wI w 123 0 v.toNatClampNeg) 14)) (some (.inl (bI (!decide (wI w 123 0 v.toNatClampNeg = -1) && decide (wI w 104 0 (wI w 123 0 v.toNatClampNeg).toNatClampNeg = 1)))), w)
  | _ => none
set_option maxRecDepth 100000 in
set_option maxHeartbeats 4000000 in
theorem okM_isInPen (l : Launch) (G : Gc) : FsOk l G mM_isInPen lvM_isInPen fsM_isInPen := by
  intro as w r w' h
  simp only [fsM_isInPen] at h
  split at h
  · rename_i v
    obtain ⟨⟨hS, hv, hp⟩, h⟩ := fsP_s h
    cases h
    refine Sem_of (by decide) rfl (Nat.le_of_ble_eq_true rfl) ?_
    refine wpn_ok (M := mM_isInPen) (C := cenM) (X := (alk [])) (tb := tM_isInPen) (st := []) eoM XOk_nil kM_isInPen 200 _ _ _ _ _ _ ?_
    simp only [fv0, fv1, fv2, fv3, bI_0, bI_1, bft, MSh_sI_eq, fsP_T, inL_0, inL_s, pad_0, pad_n, pad_s, wpn_s, wp1_s, lg_0, lg_s, lset_0, lset_s, kil_0, kil_s, st1_s, st2_s, isL_i, isL_l, isL_r, isL_n, spl_0, spl_s, cll_n, cll_s, catS_0, catS_s, jmp_s, alk_0, alk_s, otl_n, otl_s, List.nil_append, List.cons_append, List.contains_cons, List.contains_nil, Nat.reduceBEq, Bool.or_false, Bool.false_or, Bool.or_self, Bool.false_eq_true, Bool.true_or, Bool.or_true, if_true, if_false, ite_true, ite_false, ↓reduceIte, List.length_cons, List.length_nil, Nat.reduceAdd, Nat.reduceLT, Nat.reduceLeDiff, Nat.reduceEqDiff, Int.reduceAdd, Int.reduceLE, Int.toNat_natCast, Int.reduceToNat, Int.cast_ofNat_Int, true_and, and_true, true_implies, forall_const, eq_self, and_self, or_true, true_or, or_self, false_or, or_false, yI_sI, yR_sI, yC_sI, yN_sI, yI_sR, yR_sR, yC_sR, yN_sR, not_true_eq_false, not_false_eq_true, false_implies, implies_true, Nat.zero_add, Nat.add_zero, Nat.le_refl, Nat.reduceSub, pM_isInPen_0, stp_aload_n, pM_isInPen_1, stp_getfield, qfM_58, rp_13_23, ms_R23 hS, ms_C123 hS, ms_N123 hS, ms_C13 hS, pM_isInPen_4, stp_iload_n, pM_isInPen_5, stp_iaload, pM_isInPen_6, stp_iconst, pM_isInPen_7, stp_if_icmp_eq, pM_isInPen_10, pM_isInPen_11, qfM_13, rp_13_4, ms_R4 hS, ms_C104 hS, ms_N104 hS, pM_isInPen_14, pM_isInPen_15, pM_isInPen_18, pM_isInPen_19, pM_isInPen_20, pM_isInPen_21, pM_isInPen_22, stp_if_icmp_ne, pM_isInPen_25, pM_isInPen_26, stp_goto, pM_isInPen_29, pM_isInPen_30, stp_ireturn, ic_m1, ic_1, ic_0, nv_M_isInPen, ml_M_isInPen, lvM_isInPen, hv]
    simp +contextual [bI, hp]
  · cases h
abbrev lvM_here : Nat := 1
noncomputable def fsM_here : FS := fun as w => match as with
  | [.inr (.inr (some (13, 0)))] => fsP (MSh w ∧ (wI w 13 0 61 < wI w 13 0 58 → vp_in (wI w 13 0 61) 80)) (some (.inl (if wI w 13 0 61 < wI w 13 0 58 then wI w 159 0 (wI w 13 0 61).toNatClampNeg else -1)), w)
  | _ => none
set_option maxRecDepth 100000 in
set_option maxHeartbeats 4000000 in
theorem okM_here (l : Launch) (G : Gc) : FsOk l G mM_here lvM_here fsM_here := by
  intro as w r w' h
  simp only [fsM_here] at h
  split at h
  ·
    obtain ⟨⟨hS, hv⟩, h⟩ := fsP_s h
    cases h
    refine Sem_of (by decide) rfl (Nat.le_of_ble_eq_true rfl) ?_
    refine wpn_ok (M := mM_here) (C := cenM) (X := (alk [])) (tb := tM_here) (st := []) eoM XOk_nil kM_here 200 _ _ _ _ _ _ ?_
    simp only [fv0, fv1, fv2, fv3, bI_0, bI_1, bft, MSh_sI_eq, fsP_T, inL_0, inL_s, pad_0, pad_n, pad_s, wpn_s, wp1_s, lg_0, lg_s, lset_0, lset_s, kil_0, kil_s, st1_s, st2_s, isL_i, isL_l, isL_r, isL_n, spl_0, spl_s, cll_n, cll_s, catS_0, catS_s, jmp_s, alk_0, alk_s, otl_n, otl_s, List.nil_append, List.cons_append, List.contains_cons, List.contains_nil, Nat.reduceBEq, Bool.or_false, Bool.false_or, Bool.or_self, Bool.false_eq_true, Bool.true_or, Bool.or_true, if_true, if_false, ite_true, ite_false, ↓reduceIte, List.length_cons, List.length_nil, Nat.reduceAdd, Nat.reduceLT, Nat.reduceLeDiff, Nat.reduceEqDiff, Int.reduceAdd, Int.reduceLE, Int.toNat_natCast, Int.reduceToNat, Int.cast_ofNat_Int, true_and, and_true, true_implies, forall_const, eq_self, and_self, or_true, true_or, or_self, false_or, or_false, yI_sI, yR_sI, yC_sI, yN_sI, yI_sR, yR_sR, yC_sR, yN_sR, not_true_eq_false, not_false_eq_true, false_implies, implies_true, Nat.zero_add, Nat.add_zero, Nat.le_refl, Nat.reduceSub, pM_here_0, stp_aload_n, pM_here_1, stp_getfield, qfM_253, rp_13_61, ms_C13 hS, pM_here_4, pM_here_5, qfM_250, rp_13_58, pM_here_8, stp_if_icmp_ge, pM_here_11, pM_here_12, qfM_150, rp_13_59, ms_R59 hS, ms_C159 hS, ms_N159 hS, pM_here_15, pM_here_16, pM_here_19, stp_iaload, pM_here_20, stp_goto, pM_here_23, stp_iconst, pM_here_24, stp_ireturn, ic_m1, nv_M_here, ml_M_here, lvM_here]
    simp +contextual [hv, ← Int32.not_lt]
  · cases h
abbrev lvM_status : Nat := 2
noncomputable def fsM_status : FS := fun as w => match as with
  | [.inr (.inr (some (13, 0))), .inl v] => fsP (MSh w) (some (.inl (if inR v (-8) (-2) = true then wI w 101 0 (-v).toNatClampNeg else -7)), if inR v (-8) (-2) = true then w else rfz w 7)
  | _ => none
theorem neg_in {v : Int32} (h0 : inR v (-8) (-2) = true) : vp_in (-v) 9 := by
  obtain ⟨h, h2⟩ := inR_spec h0
  rw [vp_in_iff]
  have e1 : ¬ v.toInt < -8 := fun q => h (Int32.lt_iff_toInt_lt.mpr q)
  have e2 : ¬ -2 < v.toInt := fun q => h2 (Int32.lt_iff_toInt_lt.mpr q)
  rw [Int32.toInt_neg]
  simp [Int.bmod]
  omega
set_option maxRecDepth 100000 in
set_option maxHeartbeats 4000000 in
theorem okM_status (l : Launch) (G : Gc) : FsOk l G mM_status lvM_status fsM_status := by
  intro as w r w' h
  simp only [fsM_status] at h
  split at h
  · rename_i v
    obtain ⟨hS, h⟩ := fsP_s h
    cases h
    refine Sem_of (by decide) rfl (Nat.le_of_ble_eq_true rfl) ?_
    refine wpn_ok (M := mM_status) (C := cenM) (X := (alk [(165, lvM_in, fsM_in), (169, lvM_refused, fsM_refused)])) (tb := tM_status) (st := []) eoM (XOk_cons qmM_165 (okM_in l G) (XOk_cons qmM_169 (okM_refused l G) XOk_nil)) kM_status 200 _ _ _ _ _ _ ?_
    simp only [fv0, fv1, fv2, fv3, bI_0, bI_1, bft, MSh_sI_eq, fsP_T, inL_0, inL_s, pad_0, pad_n, pad_s, wpn_s, wp1_s, lg_0, lg_s, lset_0, lset_s, kil_0, kil_s, st1_s, st2_s, isL_i, isL_l, isL_r, isL_n, spl_0, spl_s, cll_n, cll_s, catS_0, catS_s, jmp_s, alk_0, alk_s, otl_n, otl_s, List.nil_append, List.cons_append, List.contains_cons, List.contains_nil, Nat.reduceBEq, Bool.or_false, Bool.false_or, Bool.or_self, Bool.false_eq_true, Bool.true_or, Bool.or_true, if_true, if_false, ite_true, ite_false, ↓reduceIte, List.length_cons, List.length_nil, Nat.reduceAdd, Nat.reduceLT, Nat.reduceLeDiff, Nat.reduceEqDiff, Int.reduceAdd, Int.reduceLE, Int.toNat_natCast, Int.reduceToNat, Int.cast_ofNat_Int, true_and, and_true, true_implies, forall_const, eq_self, and_self, or_true, true_or, or_self, false_or, or_false, yI_sI, yR_sI, yC_sI, yN_sI, yI_sR, yR_sR, yC_sR, yN_sR, not_true_eq_false, not_false_eq_true, false_implies, implies_true, Nat.zero_add, Nat.add_zero, Nat.le_refl, Nat.reduceSub, pM_status_0, stp_iload_n, pM_status_1, stp_bipush, pM_status_3, pM_status_5, stp_invokestatic, qmM_165, cy_M_in, pM_status_8, stp_ifCond_eq, pM_status_11, stp_aload_n, pM_status_12, stp_getfield, qfM_7, rp_13_1, ms_R1 hS, ms_C101 hS, ms_N101 hS, ms_C13 hS, pM_status_15, pM_status_16, stp_ineg, pM_status_17, stp_iaload, pM_status_18, stp_goto, pM_status_21, pM_status_22, pM_status_24, stp_invokevirtual, qmM_169, cy_M_refused, pM_status_27, stp_ireturn, bp_m8, bp_m2, bp_m7, nv_M_status, ml_M_status, fsM_in, lvM_in, lvM_refused, lvM_status, rfM_7 hS]
    cases hv : inR v (-8) (-2)
    · simp
    · simp [neg_in hv]
  · cases h
abbrev lvM_noScale : Nat := 3
noncomputable def fsM_noScale : FS := fun as w => match as with
  | [.inr (.inr (some (13, 0))), .inl p, .inl v] => fsP (MSh w ∧ (inR p 0 (wI w 13 0 3 - 1) = true → vp_in p 14)) (some (.inl (if inR p 0 (wI w 13 0 3 - 1) = false then -3 else if ¬ wI w 104 0 p.toNatClampNeg = 2 then -5 else if inR v (-99) 99 = false then -7 else 0)), w)
  | _ => none
set_option maxRecDepth 100000 in
set_option maxHeartbeats 4000000 in
theorem okM_noScale (l : Launch) (G : Gc) : FsOk l G mM_noScale lvM_noScale fsM_noScale := by
  intro as w r w' h
  simp only [fsM_noScale] at h
  split at h
  · rename_i p v
    obtain ⟨⟨hS, hv⟩, h⟩ := fsP_s h
    cases h
    refine Sem_of (by decide) rfl (Nat.le_of_ble_eq_true rfl) ?_
    refine wpn_ok (M := mM_noScale) (C := cenM) (X := (alk [(165, lvM_in, fsM_in), (176, lvM_isPlace, fsM_isPlace)])) (tb := tM_noScale) (st := []) eoM (XOk_cons qmM_165 (okM_in l G) (XOk_cons qmM_176 (okM_isPlace l G) XOk_nil)) kM_noScale 200 _ _ _ _ _ _ ?_
    simp only [fv0, fv1, fv2, fv3, bI_0, bI_1, bft, MSh_sI_eq, fsP_T, inL_0, inL_s, pad_0, pad_n, pad_s, wpn_s, wp1_s, lg_0, lg_s, lset_0, lset_s, kil_0, kil_s, st1_s, st2_s, isL_i, isL_l, isL_r, isL_n, spl_0, spl_s, cll_n, cll_s, catS_0, catS_s, jmp_s, alk_0, alk_s, otl_n, otl_s, List.nil_append, List.cons_append, List.contains_cons, List.contains_nil, Nat.reduceBEq, Bool.or_false, Bool.false_or, Bool.or_self, Bool.false_eq_true, Bool.true_or, Bool.or_true, if_true, if_false, ite_true, ite_false, ↓reduceIte, List.length_cons, List.length_nil, Nat.reduceAdd, Nat.reduceLT, Nat.reduceLeDiff, Nat.reduceEqDiff, Int.reduceAdd, Int.reduceLE, Int.toNat_natCast, Int.reduceToNat, Int.cast_ofNat_Int, true_and, and_true, true_implies, forall_const, eq_self, and_self, or_true, true_or, or_self, false_or, or_false, yI_sI, yR_sI, yC_sI, yN_sI, yI_sR, yR_sR, yC_sR, yN_sR, not_true_eq_false, not_false_eq_true, false_implies, implies_true, Nat.zero_add, Nat.add_zero, Nat.le_refl, Nat.reduceSub, pM_noScale_0, stp_aload_n, pM_noScale_1, stp_iload_n, pM_noScale_2, stp_invokevirtual, qmM_176, cy_M_isPlace, ms_C13 hS, pM_noScale_5, stp_ifCond_ne, pM_noScale_8, stp_bipush, pM_noScale_10, stp_goto, pM_noScale_13, pM_noScale_14, stp_getfield, qfM_13, rp_13_4, ms_R4 hS, ms_C104 hS, ms_N104 hS, pM_noScale_17, pM_noScale_18, stp_iaload, pM_noScale_19, stp_iconst, pM_noScale_20, stp_if_icmp_eq, pM_noScale_23, pM_noScale_25, pM_noScale_28, pM_noScale_29, pM_noScale_31, pM_noScale_33, stp_invokestatic, qmM_165, cy_M_in, pM_noScale_36, pM_noScale_39, pM_noScale_41, pM_noScale_44, pM_noScale_45, stp_ireturn, bp_m3, ic_2, bp_m5, bp_m99, bp_99, bp_m7, ic_0, nv_M_noScale, ml_M_noScale, fsM_in, fsM_isPlace, lvM_in, lvM_isPlace, lvM_noScale, hS]
    cases h1 : inR p 0 (wI w 13 0 3 - 1)
    · simp
    · have hv := hv h1
      cases h3 : inR v (-99) 99 <;> simp +contextual [hv]
  · cases h
