/-! reading of the tape, in the reference -/
/-- the sign at a place of the tape, or -1 -/
def hrN (w : Wd) (p : Nat) : Int32 := if p < cn w 58 then wI w 159 0 p else -1
abbrev RS : Type := Nat × Bool
def oneS (h : Nat → Int32) (c : Int32) (s : RS) : RS := if s.2 = true then s else if h s.1 = c then (s.1 + 1, false) else (s.1, true)
def wdS (h : Nat → Int32) : List Int32 → RS → RS
  | [], s => s
  | c :: l, s => wdS h l (oneS h c s)
def rdW (w : Wd) (s : RS) : Wd := sI (sI w 13 0 61 (nI s.1)) 13 0 62 (bI s.2)
def RdA (w : Wd) (s : RS) : Prop := MSh w ∧ okc w 58 80 ∧ wI w 13 0 61 = nI s.1 ∧ s.1 ≤ cn w 58 ∧ wI w 13 0 62 = bI s.2
theorem rdW_rdW (w : Wd) (s t : RS) : rdW (rdW w s) t = rdW w t := by
  refine Wd_eq (fun a b c => ?_) rfl
  simp only [rdW, yI_sI]
  by_cases c1 : a = 13 ∧ b = 0 ∧ c = 62
  · simp [c1]
  · by_cases c2 : a = 13 ∧ b = 0 ∧ c = 61
    · simp [c2]
    · simp [c1, c2]
theorem rdW_self {w : Wd} {s : RS} (h : RdA w s) : rdW w s = w := by
  refine Wd_eq (fun a b c => ?_) rfl
  simp only [rdW, yI_sI]
  split
  · rename_i e; rw [e.1, e.2.1, e.2.2]; exact h.2.2.2.2.symm
  · split
    · rename_i e; rw [e.1, e.2.1, e.2.2]; exact h.2.2.1.symm
    · rfl
theorem rdW_I (w : Wd) (s : RS) (a b c : Nat) : wI (rdW w s) a b c = if a = 13 ∧ b = 0 ∧ c = 62 then bI s.2 else if a = 13 ∧ b = 0 ∧ c = 61 then nI s.1 else wI w a b c := (rfl)
theorem rdW_n {w : Wd} {s : RS} {a b c : Nat} (h : ¬ (a = 13 ∧ (c = 61 ∨ c = 62))) : wI (rdW w s) a b c = wI w a b c := by rw [rdW_I, if_neg (by omega), if_neg (by omega)]
theorem rdW_c {w : Wd} {s : RS} {k : Nat} (h : ¬ (k = 61 ∨ k = 62)) : cn (rdW w s) k = cn w k := by unfold cn; rw [rdW_n (by omega)]
theorem rdW_S {w : Wd} {s : RS} (h : MSh w) : MSh (rdW w s) := h
theorem rdW_h (w : Wd) (s : RS) : hrN (rdW w s) = hrN w := by
  funext p
  unfold hrN
  rw [rdW_c (by omega), rdW_n (by omega)]
theorem rdW_A {w : Wd} {s t : RS} (h : RdA w s) (ht : t.1 ≤ cn w 58) : RdA (rdW w t) t := by
  obtain ⟨h1, h2, h3, h4, h5⟩ := h
  refine ⟨h1, ?_, by rw [rdW_I]; simp, by rw [rdW_c (by omega)]; exact ht, by rw [rdW_I]; simp⟩
  unfold okc at h2 ⊢
  rw [rdW_c (by omega), rdW_n (by omega)]
  exact h2
theorem hrN_lt {w : Wd} {p : Nat} {c : Int32} (hc : ¬ c = -1) (h : hrN w p = c) : p < cn w 58 := by
  unfold hrN at h
  split at h
  · assumption
  · exact absurd h.symm hc
theorem oneS_le {w : Wd} {c : Int32} {s : RS} (hc : ¬ c = -1) (h : s.1 ≤ cn w 58) : (oneS (hrN w) c s).1 ≤ cn w 58 := by
  unfold oneS
  split
  · exact h
  · split
    · rename_i e
      have := hrN_lt hc e
      exact this
    · exact h
theorem oneS_w {h : Nat → Int32} {c : Int32} {s : RS} (hs : s.2 = true) : oneS h c s = s := if_pos hs
theorem ruM_here {w : Wd} {s : RS} (h : RdA w s) : fsM_here [.inr (.inr (some (13, 0)))] w = some (some (.inl (hrN w s.1)), w) := by
  obtain ⟨h1, h2, h3, h4, h5⟩ := h
  have h80 := h2.2
  have e : (wI w 13 0 61 < wI w 13 0 58) = (s.1 < cn w 58) := by rw [h3, h2.1]; exact propext (nI_ltI (by omega) (by omega))
  have : fsM_here [.inr (.inr (some (13, 0)))] w = fsP (MSh w ∧ (wI w 13 0 61 < wI w 13 0 58 → vp_in (wI w 13 0 61) 80)) (some (.inl (if wI w 13 0 61 < wI w 13 0 58 then wI w 159 0 (wI w 13 0 61).toNatClampNeg else -1)), w) := rfl
  rw [this, fsP_t ⟨h1, fun q => by rw [e] at q; rw [h3]; exact vp_in_nI (by omega) (by omega)⟩]
  unfold hrN
  simp only [e]
  rw [h3, nI_clamp (by omega)]
abbrev lvM_one : Nat := 2
def rdP (w : Wd) : RS := ((wI w 13 0 61).toNatClampNeg, !decide (wI w 13 0 62 = 0))
theorem rdP_A {w : Wd} {s : RS} (h : RdA w s) : rdP w = s := by
  obtain ⟨h1, h2, h3, h4, h5⟩ := h
  have h80 := h2.2
  unfold rdP
  rw [h3, h5, nI_clamp (by omega)]
  obtain ⟨p, b⟩ := s
  cases b <;> rfl
noncomputable def fsM_one : FS := fun as w => match as with
  | [.inr (.inr (some (13, 0))), .inl c] => fsP (RdA w (rdP w)) (none, rdW w (oneS (hrN w) c (rdP w)))
  | _ => none
set_option maxRecDepth 100000 in
set_option maxHeartbeats 4000000 in
theorem okM_one (l : Launch) (G : Gc) : FsOk l G mM_one lvM_one fsM_one := by
  intro as w r w' h
  simp only [fsM_one] at h
  split at h
  · rename_i c
    obtain ⟨hA, h⟩ := fsP_s h
    cases h
    generalize rdP w = s at hA
    obtain ⟨p, b⟩ := s
    have ru := ruM_here hA
    have hz := rdW_self hA
    obtain ⟨hS, h2, h3, h4, h5⟩ := id hA
    simp only [] at h3 h4 h5 ru
    refine Sem_of (by decide) rfl (Nat.le_of_ble_eq_true rfl) ?_
    refine wpn_ok (M := mM_one) (C := cenM) (X := (alk [(260, lvM_here, fsM_here)])) (tb := tM_one) (st := []) eoM (XOk_cons qmM_260 (okM_here l G) XOk_nil) kM_one 60 _ _ _ _ _ _ ?_
    cases b with
    | true =>
      simp only [reduceCtorEq, fv0, fv1, fv2, fv3, bI_0, bI_1, bft, MSh_sI_eq, fsP_T, inL_0, inL_s, pad_0, pad_n, pad_s, wpn_s, wp1_s, lg_0, lg_s, lset_0, lset_s, kil_0, kil_s, st1_s, st2_s, isL_i, isL_l, isL_r, isL_n, spl_0, spl_s, cll_n, cll_s, catS_0, catS_s, jmp_s, alk_0, alk_s, otl_n, otl_s, List.nil_append, List.cons_append, List.contains_cons, List.contains_nil, Nat.reduceBEq, Bool.or_false, Bool.false_or, Bool.or_self, Bool.false_eq_true, Bool.true_or, Bool.or_true, if_true, if_false, ite_true, ite_false, ↓reduceIte, List.length_cons, List.length_nil, Nat.reduceAdd, Nat.reduceLT, Nat.reduceLeDiff, Nat.reduceEqDiff, Int.reduceAdd, Int.reduceLE, Int.toNat_natCast, Int.reduceToNat, Int.cast_ofNat_Int, true_and, and_true, false_and, and_false, true_implies, forall_const, eq_self, and_self, or_true, true_or, or_self, false_or, or_false, yI_sI, yR_sI, yC_sI, yN_sI, yI_sR, yR_sR, yC_sR, yN_sR, not_true_eq_false, not_false_eq_true, false_implies, implies_true, Nat.zero_add, Nat.add_zero, Nat.le_refl, Nat.reduceSub, Int.reduceSub, Int.reduceLT, Int.sub_zero, Int.sub_self, List.getElem?_toArray, List.getElem?_cons_zero, List.getElem?_cons_succ, Int.toNat_zero, Int.toNat_one, Int.lt_irrefl, yI_sB, yR_sB, yC_sB, yN_sB, MSh_sB_eq, pM_one_0, stp_aload_n, pM_one_1, stp_getfield, qfM_256, rp_13_62, ms_C13 hS, pM_one_4, stp_ifCond_eq, pM_one_7, stp_return_, pM_one_8, pM_one_9, stp_invokevirtual, qmM_260, cy_M_here, pM_one_12, stp_iload_n, pM_one_13, stp_if_icmp_ne, pM_one_16, pM_one_17, stp_dup, pM_one_18, qfM_253, rp_13_61, pM_one_21, stp_iconst, pM_one_22, stp_iadd, pM_one_23, stp_putfield, fi_13_61, nr_13_61, pM_one_26, stp_goto, pM_one_29, pM_one_30, pM_one_31, fi_13_62, nr_13_62, pM_one_34, ic_1, nv_M_one, ml_M_one, h5, oneS, hz]
    | false =>
      by_cases hc : hrN w p = c
      · have e : rdW w (p + 1, false) = sI w 13 0 61 (nI (p + 1)) := by
          rw [← rdW_rdW w (p, false), hz]
          refine Wd_eq (fun a b c => ?_) rfl
          rw [rdW_I, yI_sI]
          by_cases c1 : a = 13 ∧ b = 0 ∧ c = 62
          · simp [c1, h5]
          · simp [c1]
        simp only [reduceCtorEq, fv0, fv1, fv2, fv3, bI_0, bI_1, bft, MSh_sI_eq, fsP_T, inL_0, inL_s, pad_0, pad_n, pad_s, wpn_s, wp1_s, lg_0, lg_s, lset_0, lset_s, kil_0, kil_s, st1_s, st2_s, isL_i, isL_l, isL_r, isL_n, spl_0, spl_s, cll_n, cll_s, catS_0, catS_s, jmp_s, alk_0, alk_s, otl_n, otl_s, List.nil_append, List.cons_append, List.contains_cons, List.contains_nil, Nat.reduceBEq, Bool.or_false, Bool.false_or, Bool.or_self, Bool.false_eq_true, Bool.true_or, Bool.or_true, if_true, if_false, ite_true, ite_false, ↓reduceIte, List.length_cons, List.length_nil, Nat.reduceAdd, Nat.reduceLT, Nat.reduceLeDiff, Nat.reduceEqDiff, Int.reduceAdd, Int.reduceLE, Int.toNat_natCast, Int.reduceToNat, Int.cast_ofNat_Int, true_and, and_true, false_and, and_false, true_implies, forall_const, eq_self, and_self, or_true, true_or, or_self, false_or, or_false, yI_sI, yR_sI, yC_sI, yN_sI, yI_sR, yR_sR, yC_sR, yN_sR, not_true_eq_false, not_false_eq_true, false_implies, implies_true, Nat.zero_add, Nat.add_zero, Nat.le_refl, Nat.reduceSub, Int.reduceSub, Int.reduceLT, Int.sub_zero, Int.sub_self, List.getElem?_toArray, List.getElem?_cons_zero, List.getElem?_cons_succ, Int.toNat_zero, Int.toNat_one, Int.lt_irrefl, yI_sB, yR_sB, yC_sB, yN_sB, MSh_sB_eq, pM_one_0, stp_aload_n, pM_one_1, stp_getfield, qfM_256, rp_13_62, ms_C13 hS, pM_one_4, stp_ifCond_eq, pM_one_7, stp_return_, pM_one_8, pM_one_9, stp_invokevirtual, qmM_260, cy_M_here, pM_one_12, stp_iload_n, pM_one_13, stp_if_icmp_ne, pM_one_16, pM_one_17, stp_dup, pM_one_18, qfM_253, rp_13_61, pM_one_21, stp_iconst, pM_one_22, stp_iadd, pM_one_23, stp_putfield, fi_13_61, nr_13_61, pM_one_26, stp_goto, pM_one_29, pM_one_30, pM_one_31, fi_13_62, nr_13_62, pM_one_34, ic_1, nv_M_one, ml_M_one, h5, ru, hc, oneS, lvM_one, lvM_here, h3, nI_1, e]
      · have e : rdW w (p, true) = sI w 13 0 62 1 := by
          rw [← rdW_rdW w (p, false), hz]
          refine Wd_eq (fun a b c => ?_) rfl
          rw [rdW_I, yI_sI]
          by_cases c1 : a = 13 ∧ b = 0 ∧ c = 62
          · simp [c1, bI]
          · by_cases c2 : a = 13 ∧ b = 0 ∧ c = 61
            · simp [c2, h3]
            · simp [c1, c2]
        simp only [reduceCtorEq, fv0, fv1, fv2, fv3, bI_0, bI_1, bft, MSh_sI_eq, fsP_T, inL_0, inL_s, pad_0, pad_n, pad_s, wpn_s, wp1_s, lg_0, lg_s, lset_0, lset_s, kil_0, kil_s, st1_s, st2_s, isL_i, isL_l, isL_r, isL_n, spl_0, spl_s, cll_n, cll_s, catS_0, catS_s, jmp_s, alk_0, alk_s, otl_n, otl_s, List.nil_append, List.cons_append, List.contains_cons, List.contains_nil, Nat.reduceBEq, Bool.or_false, Bool.false_or, Bool.or_self, Bool.false_eq_true, Bool.true_or, Bool.or_true, if_true, if_false, ite_true, ite_false, ↓reduceIte, List.length_cons, List.length_nil, Nat.reduceAdd, Nat.reduceLT, Nat.reduceLeDiff, Nat.reduceEqDiff, Int.reduceAdd, Int.reduceLE, Int.toNat_natCast, Int.reduceToNat, Int.cast_ofNat_Int, true_and, and_true, false_and, and_false, true_implies, forall_const, eq_self, and_self, or_true, true_or, or_self, false_or, or_false, yI_sI, yR_sI, yC_sI, yN_sI, yI_sR, yR_sR, yC_sR, yN_sR, not_true_eq_false, not_false_eq_true, false_implies, implies_true, Nat.zero_add, Nat.add_zero, Nat.le_refl, Nat.reduceSub, Int.reduceSub, Int.reduceLT, Int.sub_zero, Int.sub_self, List.getElem?_toArray, List.getElem?_cons_zero, List.getElem?_cons_succ, Int.toNat_zero, Int.toNat_one, Int.lt_irrefl, yI_sB, yR_sB, yC_sB, yN_sB, MSh_sB_eq, pM_one_0, stp_aload_n, pM_one_1, stp_getfield, qfM_256, rp_13_62, ms_C13 hS, pM_one_4, stp_ifCond_eq, pM_one_7, stp_return_, pM_one_8, pM_one_9, stp_invokevirtual, qmM_260, cy_M_here, pM_one_12, stp_iload_n, pM_one_13, stp_if_icmp_ne, pM_one_16, pM_one_17, stp_dup, pM_one_18, qfM_253, rp_13_61, pM_one_21, stp_iconst, pM_one_22, stp_iadd, pM_one_23, stp_putfield, fi_13_61, nr_13_61, pM_one_26, stp_goto, pM_one_29, pM_one_30, pM_one_31, fi_13_62, nr_13_62, pM_one_34, ic_1, nv_M_one, ml_M_one, h5, ru, hc, oneS, lvM_one, lvM_here, e]
  · cases h
theorem ruM_one {w : Wd} {s : RS} {c : Int32} (h : RdA w s) : fsM_one [.inr (.inr (some (13, 0))), .inl c] w = some (none, rdW w (oneS (hrN w) c s)) := by
  have e := rdP_A h
  have : fsM_one [.inr (.inr (some (13, 0))), .inl c] w = fsP (RdA w (rdP w)) (none, rdW w (oneS (hrN w) c (rdP w))) := rfl
  rw [this, e]
  exact fsP_t h
/-! letters -/
def ltC (W : Int64) (k : Nat) : Int32 := ((W >>> ((nI k).toInt64 &&& 63)) &&& 31).toInt32
def ltD (c : Int32) : Int32 := if c = 27 then 32 else 97 + c - 1
def ltO (h : Nat → Int32) (c : Int32) (s : RS) : RS := if c ≤ 0 then s else oneS h (ltD c) s
def ltS (h : Nat → Int32) (W : Int64) (s : RS) : RS := ltO h (ltC W 0) (ltO h (ltC W 5) (ltO h (ltC W 10) (ltO h (ltC W 15) (ltO h (ltC W 20) (ltO h (ltC W 25) s)))))
def ltK (W : Int64) : Prop := ¬ ltD (ltC W 0) = -1 ∧ ¬ ltD (ltC W 5) = -1 ∧ ¬ ltD (ltC W 10) = -1 ∧ ¬ ltD (ltC W 15) = -1 ∧ ¬ ltD (ltC W 20) = -1 ∧ ¬ ltD (ltC W 25) = -1
theorem ltO_le {w : Wd} {c : Int32} {s : RS} (hc : ¬ ltD c = -1) (h : s.1 ≤ cn w 58) : (ltO (hrN w) c s).1 ≤ cn w 58 := by
  unfold ltO
  split
  · exact h
  · exact oneS_le hc h
abbrev lvM_letters : Nat := 3
noncomputable def fsM_letters : FS := fun as w => match as with
  | [.inr (.inr (some (13, 0))), .inr (.inl W)] => fsP (RdA w (rdP w) ∧ ltK W) (none, rdW w (ltS (hrN w) W (rdP w)))
  | _ => none
section
variable {l : Launch} {G : Gc} {n : Nat} {Q : Option AV → Wd → Prop} {w : Wd}
set_option maxRecDepth 100000 in
set_option maxHeartbeats 4000000 in
theorem stM_letters {W : Int64} {l4 : Option AV} {s : RS} {k : Nat} (hl : 2 < n) (hA : RdA w s) (hk : k ≤ 25) (hX : ∀ l4', WP l G mM_letters n 0 0 Q 3 [some aM, some (.inr (.inl W)), none, some (.inl (nI k + -5)), l4'] [] (rdW w (ltO (hrN w) (ltC W k) s)) 0 0) : WP l G mM_letters n 0 0 Q 3 [some aM, some (.inr (.inl W)), none, some (.inl (nI k)), l4] [] w 0 0 := by
  have ru := fun c => ruM_one (c := c) hA
  have hz := rdW_self hA
  have hS := hA.1
  have h1 : ¬ nI k < 0 := nI_pos (by omega)
  have hl2 : lvM_one < n := hl
  have e : (W >>> ((nI k).toInt64 &&& 63) &&& 31).toInt32 = ltC W k := rfl
  refine wpn_ok (M := mM_letters) (C := cenM) (X := (alk [(265, lvM_one, fsM_one)])) (tb := tM_letters) (st := [3]) eoM (XOk_cons qmM_265 (okM_one l G) XOk_nil) kM_letters 60 _ _ _ _ _ _ ?_
  by_cases c1 : ltC W k ≤ 0
  · have q := hX (some (.inl (ltC W k)))
    rw [ltO, if_pos c1, hz] at q
    simp only [reduceCtorEq, fv0, fv1, fv2, fv3, bI_0, bI_1, bft, MSh_sI_eq, fsP_T, inL_0, inL_s, pad_0, pad_n, pad_s, wpn_s, wp1_s, lg_0, lg_s, lset_0, lset_s, kil_0, kil_s, st1_s, st2_s, isL_i, isL_l, isL_r, isL_n, spl_0, spl_s, cll_n, cll_s, catS_0, catS_s, jmp_s, alk_0, alk_s, otl_n, otl_s, List.nil_append, List.cons_append, List.contains_cons, List.contains_nil, Nat.reduceBEq, Bool.or_false, Bool.false_or, Bool.or_self, Bool.false_eq_true, Bool.true_or, Bool.or_true, if_true, if_false, ite_true, ite_false, ↓reduceIte, List.length_cons, List.length_nil, Nat.reduceAdd, Nat.reduceLT, Nat.reduceLeDiff, Nat.reduceEqDiff, Int.reduceAdd, Int.reduceLE, Int.toNat_natCast, Int.reduceToNat, Int.cast_ofNat_Int, true_and, and_true, false_and, and_false, true_implies, forall_const, eq_self, and_self, or_true, true_or, or_self, false_or, or_false, yI_sI, yR_sI, yC_sI, yN_sI, yI_sR, yR_sR, yC_sR, yN_sR, not_true_eq_false, not_false_eq_true, false_implies, implies_true, Nat.zero_add, Nat.add_zero, Nat.le_refl, Nat.reduceSub, Int.reduceSub, Int.reduceLT, Int.sub_zero, Int.sub_self, List.getElem?_toArray, List.getElem?_cons_zero, List.getElem?_cons_succ, Int.toNat_zero, Int.toNat_one, Int.lt_irrefl, yI_sB, yR_sB, yC_sB, yN_sB, MSh_sB_eq, pM_letters_0, stp_bipush, pM_letters_2, stp_istore_n, pM_letters_3, stp_iload_n, pM_letters_4, stp_ifCond_lt, pM_letters_7, stp_lload_n, pM_letters_8, pM_letters_9, stp_lshr, pM_letters_10, stp_ldc2_w, qkM_263, pM_letters_13, stp_land, pM_letters_14, stp_l2i, pM_letters_15, stp_istore, pM_letters_17, stp_iload, pM_letters_19, stp_ifCond_le, pM_letters_22, stp_aload_n, pM_letters_23, pM_letters_25, pM_letters_27, stp_if_icmp_ne, pM_letters_30, pM_letters_32, stp_goto, pM_letters_35, pM_letters_37, pM_letters_39, stp_iadd, pM_letters_40, stp_iconst, pM_letters_41, stp_isub, pM_letters_42, stp_invokevirtual, qmM_265, cy_M_one, ms_C13 hS, pM_letters_45, stp_iinc, pM_letters_48, pM_letters_51, stp_return_, bp_25, bp_27, bp_32, bp_97, ic_1, ic_m5, nv_M_letters, ml_M_letters, h1, e, c1]
    exact q
  · have q := hX (some (.inl (ltC W k)))
    rw [ltO, if_neg c1] at q
    by_cases c2 : ltC W k = 27
    · rw [ltD, if_pos c2, c2] at q
      rw [c2] at c1
      simp only [reduceCtorEq, fv0, fv1, fv2, fv3, bI_0, bI_1, bft, MSh_sI_eq, fsP_T, inL_0, inL_s, pad_0, pad_n, pad_s, wpn_s, wp1_s, lg_0, lg_s, lset_0, lset_s, kil_0, kil_s, st1_s, st2_s, isL_i, isL_l, isL_r, isL_n, spl_0, spl_s, cll_n, cll_s, catS_0, catS_s, jmp_s, alk_0, alk_s, otl_n, otl_s, List.nil_append, List.cons_append, List.contains_cons, List.contains_nil, Nat.reduceBEq, Bool.or_false, Bool.false_or, Bool.or_self, Bool.false_eq_true, Bool.true_or, Bool.or_true, if_true, if_false, ite_true, ite_false, ↓reduceIte, List.length_cons, List.length_nil, Nat.reduceAdd, Nat.reduceLT, Nat.reduceLeDiff, Nat.reduceEqDiff, Int.reduceAdd, Int.reduceLE, Int.toNat_natCast, Int.reduceToNat, Int.cast_ofNat_Int, true_and, and_true, false_and, and_false, true_implies, forall_const, eq_self, and_self, or_true, true_or, or_self, false_or, or_false, yI_sI, yR_sI, yC_sI, yN_sI, yI_sR, yR_sR, yC_sR, yN_sR, not_true_eq_false, not_false_eq_true, false_implies, implies_true, Nat.zero_add, Nat.add_zero, Nat.le_refl, Nat.reduceSub, Int.reduceSub, Int.reduceLT, Int.sub_zero, Int.sub_self, List.getElem?_toArray, List.getElem?_cons_zero, List.getElem?_cons_succ, Int.toNat_zero, Int.toNat_one, Int.lt_irrefl, yI_sB, yR_sB, yC_sB, yN_sB, MSh_sB_eq, pM_letters_0, stp_bipush, pM_letters_2, stp_istore_n, pM_letters_3, stp_iload_n, pM_letters_4, stp_ifCond_lt, pM_letters_7, stp_lload_n, pM_letters_8, pM_letters_9, stp_lshr, pM_letters_10, stp_ldc2_w, qkM_263, pM_letters_13, stp_land, pM_letters_14, stp_l2i, pM_letters_15, stp_istore, pM_letters_17, stp_iload, pM_letters_19, stp_ifCond_le, pM_letters_22, stp_aload_n, pM_letters_23, pM_letters_25, pM_letters_27, stp_if_icmp_ne, pM_letters_30, pM_letters_32, stp_goto, pM_letters_35, pM_letters_37, pM_letters_39, stp_iadd, pM_letters_40, stp_iconst, pM_letters_41, stp_isub, pM_letters_42, stp_invokevirtual, qmM_265, cy_M_one, ms_C13 hS, pM_letters_45, stp_iinc, pM_letters_48, pM_letters_51, stp_return_, bp_25, bp_27, bp_32, bp_97, ic_1, ic_m5, nv_M_letters, ml_M_letters, h1, e, c1, c2, ru, hl2]
      exact q
    · rw [ltD, if_neg c2] at q
      simp only [reduceCtorEq, fv0, fv1, fv2, fv3, bI_0, bI_1, bft, MSh_sI_eq, fsP_T, inL_0, inL_s, pad_0, pad_n, pad_s, wpn_s, wp1_s, lg_0, lg_s, lset_0, lset_s, kil_0, kil_s, st1_s, st2_s, isL_i, isL_l, isL_r, isL_n, spl_0, spl_s, cll_n, cll_s, catS_0, catS_s, jmp_s, alk_0, alk_s, otl_n, otl_s, List.nil_append, List.cons_append, List.contains_cons, List.contains_nil, Nat.reduceBEq, Bool.or_false, Bool.false_or, Bool.or_self, Bool.false_eq_true, Bool.true_or, Bool.or_true, if_true, if_false, ite_true, ite_false, ↓reduceIte, List.length_cons, List.length_nil, Nat.reduceAdd, Nat.reduceLT, Nat.reduceLeDiff, Nat.reduceEqDiff, Int.reduceAdd, Int.reduceLE, Int.toNat_natCast, Int.reduceToNat, Int.cast_ofNat_Int, true_and, and_true, false_and, and_false, true_implies, forall_const, eq_self, and_self, or_true, true_or, or_self, false_or, or_false, yI_sI, yR_sI, yC_sI, yN_sI, yI_sR, yR_sR, yC_sR, yN_sR, not_true_eq_false, not_false_eq_true, false_implies, implies_true, Nat.zero_add, Nat.add_zero, Nat.le_refl, Nat.reduceSub, Int.reduceSub, Int.reduceLT, Int.sub_zero, Int.sub_self, List.getElem?_toArray, List.getElem?_cons_zero, List.getElem?_cons_succ, Int.toNat_zero, Int.toNat_one, Int.lt_irrefl, yI_sB, yR_sB, yC_sB, yN_sB, MSh_sB_eq, pM_letters_0, stp_bipush, pM_letters_2, stp_istore_n, pM_letters_3, stp_iload_n, pM_letters_4, stp_ifCond_lt, pM_letters_7, stp_lload_n, pM_letters_8, pM_letters_9, stp_lshr, pM_letters_10, stp_ldc2_w, qkM_263, pM_letters_13, stp_land, pM_letters_14, stp_l2i, pM_letters_15, stp_istore, pM_letters_17, stp_iload, pM_letters_19, stp_ifCond_le, pM_letters_22, stp_aload_n, pM_letters_23, pM_letters_25, pM_letters_27, stp_if_icmp_ne, pM_letters_30, pM_letters_32, stp_goto, pM_letters_35, pM_letters_37, pM_letters_39, stp_iadd, pM_letters_40, stp_iconst, pM_letters_41, stp_isub, pM_letters_42, stp_invokevirtual, qmM_265, cy_M_one, ms_C13 hS, pM_letters_45, stp_iinc, pM_letters_48, pM_letters_51, stp_return_, bp_25, bp_27, bp_32, bp_97, ic_1, ic_m5, nv_M_letters, ml_M_letters, h1, e, c1, c2, ru, hl2]
      exact q
end
theorem ltm5 : nI 25 + -5 = nI 20 ∧ nI 20 + -5 = nI 15 ∧ nI 15 + -5 = nI 10 ∧ nI 10 + -5 = nI 5 ∧ nI 5 + -5 = nI 0 ∧ nI 0 + -5 < 0 := by decide
set_option maxRecDepth 100000 in
set_option maxHeartbeats 4000000 in
theorem okM_letters (l : Launch) (G : Gc) : FsOk l G mM_letters lvM_letters fsM_letters := by
  intro as w r w' h
  simp only [fsM_letters] at h
  split at h
  · rename_i W
    obtain ⟨⟨hA, k0, k5, k10, k15, k20, k25⟩, h⟩ := fsP_s h
    cases h
    generalize rdP w = s at hA
    have hS := hA.1
    obtain ⟨m1, m2, m3, m4, m5, m6⟩ := ltm5
    refine Sem_of (by decide) rfl (Nat.le_of_ble_eq_true rfl) ?_
    have e25 : (25 : Int32) = nI 25 := rfl
    have b1 := ltO_le (s := s) k25 hA.2.2.2.1
    have b2 := ltO_le k20 b1
    have b3 := ltO_le k15 b2
    have b4 := ltO_le k10 b3
    have b5 := ltO_le k5 b4
    have b6 := ltO_le k0 b5
    refine wpn_ok (M := mM_letters) (C := cenM) (X := (alk [])) (tb := tM_letters) (st := [3]) eoM XOk_nil kM_letters 60 _ _ _ _ _ _ ?_
    simp only [reduceCtorEq, fv0, fv1, fv2, fv3, bI_0, bI_1, bft, MSh_sI_eq, fsP_T, inL_0, inL_s, pad_0, pad_n, pad_s, wpn_s, wp1_s, lg_0, lg_s, lset_0, lset_s, kil_0, kil_s, st1_s, st2_s, isL_i, isL_l, isL_r, isL_n, spl_0, spl_s, cll_n, cll_s, catS_0, catS_s, jmp_s, alk_0, alk_s, otl_n, otl_s, List.nil_append, List.cons_append, List.contains_cons, List.contains_nil, Nat.reduceBEq, Bool.or_false, Bool.false_or, Bool.or_self, Bool.false_eq_true, Bool.true_or, Bool.or_true, if_true, if_false, ite_true, ite_false, ↓reduceIte, List.length_cons, List.length_nil, Nat.reduceAdd, Nat.reduceLT, Nat.reduceLeDiff, Nat.reduceEqDiff, Int.reduceAdd, Int.reduceLE, Int.toNat_natCast, Int.reduceToNat, Int.cast_ofNat_Int, true_and, and_true, false_and, and_false, true_implies, forall_const, eq_self, and_self, or_true, true_or, or_self, false_or, or_false, yI_sI, yR_sI, yC_sI, yN_sI, yI_sR, yR_sR, yC_sR, yN_sR, not_true_eq_false, not_false_eq_true, false_implies, implies_true, Nat.zero_add, Nat.add_zero, Nat.le_refl, Nat.reduceSub, Int.reduceSub, Int.reduceLT, Int.sub_zero, Int.sub_self, List.getElem?_toArray, List.getElem?_cons_zero, List.getElem?_cons_succ, Int.toNat_zero, Int.toNat_one, Int.lt_irrefl, yI_sB, yR_sB, yC_sB, yN_sB, MSh_sB_eq, pM_letters_0, stp_bipush, pM_letters_2, stp_istore_n, pM_letters_3, stp_iload_n, pM_letters_4, stp_ifCond_lt, pM_letters_7, stp_lload_n, pM_letters_8, pM_letters_9, stp_lshr, pM_letters_10, stp_ldc2_w, qkM_263, pM_letters_13, stp_land, pM_letters_14, stp_l2i, pM_letters_15, stp_istore, pM_letters_17, stp_iload, pM_letters_19, stp_ifCond_le, pM_letters_22, stp_aload_n, pM_letters_23, pM_letters_25, pM_letters_27, stp_if_icmp_ne, pM_letters_30, pM_letters_32, stp_goto, pM_letters_35, pM_letters_37, pM_letters_39, stp_iadd, pM_letters_40, stp_iconst, pM_letters_41, stp_isub, pM_letters_42, stp_invokevirtual, qmM_265, cy_M_one, ms_C13 hS, pM_letters_45, stp_iinc, pM_letters_48, pM_letters_51, stp_return_, bp_25, bp_27, bp_32, bp_97, ic_1, ic_m5, nv_M_letters, ml_M_letters]
    rw [e25]
    refine stM_letters (by decide) hA (by omega) fun l4 => ?_
    rw [m1]
    refine stM_letters (by decide) (rdW_A hA b1) (by omega) fun l4 => ?_
    rw [m2, rdW_rdW, rdW_h]
    refine stM_letters (by decide) (rdW_A hA b2) (by omega) fun l4 => ?_
    rw [m3, rdW_rdW, rdW_h]
    refine stM_letters (by decide) (rdW_A hA b3) (by omega) fun l4 => ?_
    rw [m4, rdW_rdW, rdW_h]
    refine stM_letters (by decide) (rdW_A hA b4) (by omega) fun l4 => ?_
    rw [m5, rdW_rdW, rdW_h]
    refine stM_letters (by decide) (rdW_A hA b5) (by omega) fun l4 => ?_
    rw [rdW_rdW, rdW_h]
    refine wpn_ok (M := mM_letters) (C := cenM) (X := (alk [])) (tb := tM_letters) (st := []) eoM XOk_nil kM_letters 60 _ _ _ _ _ _ ?_
    simp only [reduceCtorEq, fv0, fv1, fv2, fv3, bI_0, bI_1, bft, MSh_sI_eq, fsP_T, inL_0, inL_s, pad_0, pad_n, pad_s, wpn_s, wp1_s, lg_0, lg_s, lset_0, lset_s, kil_0, kil_s, st1_s, st2_s, isL_i, isL_l, isL_r, isL_n, spl_0, spl_s, cll_n, cll_s, catS_0, catS_s, jmp_s, alk_0, alk_s, otl_n, otl_s, List.nil_append, List.cons_append, List.contains_cons, List.contains_nil, Nat.reduceBEq, Bool.or_false, Bool.false_or, Bool.or_self, Bool.false_eq_true, Bool.true_or, Bool.or_true, if_true, if_false, ite_true, ite_false, ↓reduceIte, List.length_cons, List.length_nil, Nat.reduceAdd, Nat.reduceLT, Nat.reduceLeDiff, Nat.reduceEqDiff, Int.reduceAdd, Int.reduceLE, Int.toNat_natCast, Int.reduceToNat, Int.cast_ofNat_Int, true_and, and_true, false_and, and_false, true_implies, forall_const, eq_self, and_self, or_true, true_or, or_self, false_or, or_false, yI_sI, yR_sI, yC_sI, yN_sI, yI_sR, yR_sR, yC_sR, yN_sR, not_true_eq_false, not_false_eq_true, false_implies, implies_true, Nat.zero_add, Nat.add_zero, Nat.le_refl, Nat.reduceSub, Int.reduceSub, Int.reduceLT, Int.sub_zero, Int.sub_self, List.getElem?_toArray, List.getElem?_cons_zero, List.getElem?_cons_succ, Int.toNat_zero, Int.toNat_one, Int.lt_irrefl, yI_sB, yR_sB, yC_sB, yN_sB, MSh_sB_eq, pM_letters_0, stp_bipush, pM_letters_2, stp_istore_n, pM_letters_3, stp_iload_n, pM_letters_4, stp_ifCond_lt, pM_letters_7, stp_lload_n, pM_letters_8, pM_letters_9, stp_lshr, pM_letters_10, stp_ldc2_w, qkM_263, pM_letters_13, stp_land, pM_letters_14, stp_l2i, pM_letters_15, stp_istore, pM_letters_17, stp_iload, pM_letters_19, stp_ifCond_le, pM_letters_22, stp_aload_n, pM_letters_23, pM_letters_25, pM_letters_27, stp_if_icmp_ne, pM_letters_30, pM_letters_32, stp_goto, pM_letters_35, pM_letters_37, pM_letters_39, stp_iadd, pM_letters_40, stp_iconst, pM_letters_41, stp_isub, pM_letters_42, stp_invokevirtual, qmM_265, cy_M_one, ms_C13 hS, pM_letters_45, stp_iinc, pM_letters_48, pM_letters_51, stp_return_, bp_25, bp_27, bp_32, bp_97, ic_1, ic_m5, nv_M_letters, ml_M_letters, m6, ltS]
  · cases h
theorem ruM_letters {w : Wd} {s : RS} {W : Int64} (h : RdA w s) (hk : ltK W) : fsM_letters [.inr (.inr (some (13, 0))), .inr (.inl W)] w = some (none, rdW w (ltS (hrN w) W s)) := by
  have e := rdP_A h
  have : fsM_letters [.inr (.inr (some (13, 0))), .inr (.inl W)] w = fsP (RdA w (rdP w) ∧ ltK W) (none, rdW w (ltS (hrN w) W (rdP w))) := rfl
  rw [this, e]
  exact fsP_t ⟨h, hk⟩
def nmd (a b c d e f : Int32) : Int64 := ((((32 * a.toInt64 + b.toInt64) * 32 + c.toInt64) * 32 + d.toInt64) * 32 + e.toInt64) * 32 + f.toInt64
abbrev lvM_named : Nat := 1
noncomputable def fsM_named : FS := fun as w => match as with
  | [.inl a, .inl b, .inl c, .inl d, .inl e, .inl f] => some (some (.inr (.inl (nmd a b c d e f))), w)
  | _ => none
set_option maxRecDepth 100000 in
set_option maxHeartbeats 4000000 in
theorem okM_named (l : Launch) (G : Gc) : FsOk l G mM_named lvM_named fsM_named := by
  intro as w r w' h
  simp only [fsM_named] at h
  split at h
  · rename_i a b c d e f
    cases h
    refine Sem_of (by decide) rfl (Nat.le_of_ble_eq_true rfl) ?_
    refine wpn_ok (M := mM_named) (C := cenM) (X := (alk [])) (tb := tM_named) (st := []) eoM XOk_nil kM_named 200 _ _ _ _ _ _ ?_
    simp only [reduceCtorEq, fv0, fv1, fv2, fv3, bI_0, bI_1, bft, MSh_sI_eq, fsP_T, inL_0, inL_s, pad_0, pad_n, pad_s, wpn_s, wp1_s, lg_0, lg_s, lset_0, lset_s, kil_0, kil_s, st1_s, st2_s, isL_i, isL_l, isL_r, isL_n, spl_0, spl_s, cll_n, cll_s, catS_0, catS_s, jmp_s, alk_0, alk_s, otl_n, otl_s, List.nil_append, List.cons_append, List.contains_cons, List.contains_nil, Nat.reduceBEq, Bool.or_false, Bool.false_or, Bool.or_self, Bool.false_eq_true, Bool.true_or, Bool.or_true, if_true, if_false, ite_true, ite_false, ↓reduceIte, List.length_cons, List.length_nil, Nat.reduceAdd, Nat.reduceLT, Nat.reduceLeDiff, Nat.reduceEqDiff, Int.reduceAdd, Int.reduceLE, Int.toNat_natCast, Int.reduceToNat, Int.cast_ofNat_Int, true_and, and_true, false_and, and_false, true_implies, forall_const, eq_self, and_self, or_true, true_or, or_self, false_or, or_false, yI_sI, yR_sI, yC_sI, yN_sI, yI_sR, yR_sR, yC_sR, yN_sR, not_true_eq_false, not_false_eq_true, false_implies, implies_true, Nat.zero_add, Nat.add_zero, Nat.le_refl, Nat.reduceSub, Int.reduceSub, Int.reduceLT, Int.sub_zero, Int.sub_self, List.getElem?_toArray, List.getElem?_cons_zero, List.getElem?_cons_succ, Int.toNat_zero, Int.toNat_one, Int.lt_irrefl, yI_sB, yR_sB, yC_sB, yN_sB, MSh_sB_eq, pM_named_0, stp_ldc2_w, qkM_269, pM_named_3, stp_iload_n, pM_named_4, stp_i2l, pM_named_5, stp_lmul, pM_named_6, pM_named_7, pM_named_8, stp_ladd, pM_named_9, pM_named_12, pM_named_13, pM_named_14, pM_named_15, pM_named_16, pM_named_19, pM_named_20, pM_named_21, pM_named_22, pM_named_23, pM_named_26, pM_named_27, stp_iload, pM_named_29, pM_named_30, pM_named_31, pM_named_34, pM_named_35, pM_named_37, pM_named_38, pM_named_39, stp_lreturn, nv_M_named, ml_M_named, lvM_named, nmd]
  · cases h
