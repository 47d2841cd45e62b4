/-! find: the loop -/
section
variable {l : Launch} {G : Gc} {n : Nat} {Q : Option AV → Wd → Prop} {w : Wd}
set_option maxRecDepth 100000 in
set_option maxHeartbeats 4000000 in
theorem stY_find {a b x s : Nat} {l6 : Option AV} (hl : 4 < n) (hC : Cpy w) (hx : x < 17) (ha : a < cn w 3) (hb : b < cn w 3) (hf : dsM w a b < 1000000) (hs : s < wyL (grf w) (dsM w) a b) (ih : ∀ l6, WP l G mY_find n 0 0 Q 23 [some (.inr (.inr (some (1, 0)))), some (.inl (nI a)), some (.inl (nI b)), some (.inr (.inr (some (8, x)))), some (.inl (nI (wyP (grf w) (dsM w) a b (s + 1)))), some (.inl (nI (s + 1))), l6] [] (fiS w a b x (s + 1)) 0 0) : WP l G mY_find n 0 0 Q 23 [some (.inr (.inr (some (1, 0)))), some (.inl (nI a)), some (.inl (nI b)), some (.inr (.inr (some (8, x)))), some (.inl (nI (wyP (grf w) (dsM w) a b s))), some (.inl (nI s)), l6] [] (fiS w a b x s) 0 0 := by
  have hD := hC.2.2.2.1
  have hM : Mtr (grf w) (cn w 3) (dsM w) := dst_ok hD.2.2.2.2.2
  have h14 := hD.2.1.2
  have h20 := hD.2.2.1.2
  obtain ⟨m1, m2, m3⟩ := wyL_ok hD.2.2.2.2.1 hM h14 ha hb hf
  obtain ⟨p1, p2, -⟩ := wy_ok hD.2.2.2.2.1 hM ha hb hf s (fun i hi => m3 i (by omega))
  have hne := m3 s hs
  obtain ⟨k, k1, k2, k3, k4, k5, k6, k7, k8⟩ := nx_ex hD.2.2.2.2.1 hM hb p1 p2 hne
  have k3' : k < cn w 6 := k3
  have ek : wyK (grf w) (dsM w) a b s = k := k2
  have S1 := SmW_fi w a b x s
  have S2 := SmW_fi w a b x (s + 1)
  have C1 := Cpy_W S1 hC
  have C2 := Cpy_W S2 hC
  have hS := C1.1
  have hS2 := C2.1
  have rl := ruY_least C1 (by rw [SmW_c S1]; exact p1) (by rw [SmW_c S1]; exact hb)
  rw [SmW_g S1, SmW_d S1, SmW_c S1] at rl
  have k1' : fstN (nxF (grf w) (dsM w) b (wyP (grf w) (dsM w) a b s)) (cn w 6) = some k := k1
  rw [k1'] at rl
  simp only [oI] at rl
  have rg1 : fsL_get [.inr (.inr (some (2, 0))), .inl (nI k)] (fiS w a b x s) = some (some (.inr (.inr (some (9, k)))), fiS w a b x s) := ruL_get C1.2.2.1.1 (by rw [SmW_c S1]; exact k3')
  have rg2 : fsL_get [.inr (.inr (some (2, 0))), .inl (nI k)] (fiS w a b x (s + 1)) = some (some (.inr (.inr (some (9, k)))), fiS w a b x (s + 1)) := ruL_get C2.2.2.1.1 (by rw [SmW_c S2]; exact k3')
  have ro := ruA_otherEnd C2 (show k < cn _ 6 by rw [SmW_c S2]; exact k3') (show wyP (grf w) (dsM w) a b s < cn _ 3 by rw [SmW_c S2]; exact p1)
  rw [SmW_g S2] at ro
  obtain ⟨a1, a2, a3, a4⟩ := Cpy_al C1 (show k < cn _ 6 by rw [SmW_c S1]; exact k3')
  obtain ⟨b1, -⟩ := Cpy_al C2 (show k < cn _ 6 by rw [SmW_c S2]; exact k3')
  rw [SmW_g S1] at a4
  have e2 : wI (fiS w a b x s) 8 x 2 = nI s := by rw [fiS_I]; simp
  have el : wlN (fiS w a b x s) x = s := by unfold wlN; rw [e2]; exact nI_clamp (by omega)
  have rw' := ruW_add (w := fiS w a b x s) (x := x) (a := nI k) (t := nI (gfT (grf w) k)) hS hx (by rw [el]; exact e2) (by omega)
  have ew := fiS_s (w := w) (a := a) (b := b) (x := x) (s := s) (by omega)
  rw [ek] at ew
  rw [ew] at rw'
  have ih := ih (some (.inl (nI k)))
  rw [wyP, k2] at ih
  have q1 : ¬ (13 : Int32) ≤ nI s := nI_ge (b := 13) (by omega) (by omega)
  have q2 : ¬ nI (wyP (grf w) (dsM w) a b s) = nI b := fun q => hne ((nI_eq (by omega) (by omega)).mp q)
  have q3 : ¬ nI k = -1 := nI_nm1 (by omega)
  have hl1 : lvY_leastAlleyToward < n := hl
  have hl2 : lvL_get < n := by show 3 < n; omega
  have hl3 : lvW_add < n := by show 1 < n; omega
  have hl4 : lvA_otherEnd < n := by show 1 < n; omega
  have hs2R := ss_R1_0 hS2
  have hs2C1 := ss_C1 hS2
  have hs2C2 := ss_C2 hS2
  refine wpn_ok (M := mY_find) (C := cenY) (X := (alk [(66, lvY_leastAlleyToward, fsY_leastAlleyToward), (69, lvL_get, fsL_get), (75, lvW_add, fsW_add), (78, lvA_otherEnd, fsA_otherEnd)])) (tb := tY_find) (st := [23]) eoY (XOk_cons qmY_66 (okY_leastAlleyToward l G) (XOk_cons qmY_69 (okL_get l G) (XOk_cons qmY_75 (okW_add l G) (XOk_cons qmY_78 (okA_otherEnd l G) XOk_nil)))) kY_find 60 _ _ _ _ _ _ ?_
  simp only [reduceCtorEq, fv0, fv1, fv2, fv3, bI_0, bI_1, bft, MSh_sI_eq, fsP_T, inL_0, inL_s, pad_0, pad_n, pad_s, wpn_s, wp1_s, lg_0, lg_s, lset_0, lset_s, kil_0, kil_s, st1_s, st2_s, isL_i, isL_l, isL_r, isL_n, spl_0, spl_s, cll_n, cll_s, catS_0, catS_s, jmp_s, alk_0, alk_s, otl_n, otl_s, List.nil_append, List.cons_append, List.contains_cons, List.contains_nil, Nat.reduceBEq, Bool.or_false, Bool.false_or, Bool.or_self, Bool.false_eq_true, Bool.true_or, Bool.or_true, if_true, if_false, ite_true, ite_false, ↓reduceIte, List.length_cons, List.length_nil, Nat.reduceAdd, Nat.reduceLT, Nat.reduceLeDiff, Nat.reduceEqDiff, Int.reduceAdd, Int.reduceLE, Int.toNat_natCast, Int.reduceToNat, Int.cast_ofNat_Int, true_and, and_true, false_and, and_false, true_implies, forall_const, eq_self, and_self, or_true, true_or, or_self, false_or, or_false, yI_sI, yR_sI, yC_sI, yN_sI, yI_sR, yR_sR, yC_sR, yN_sR, not_true_eq_false, not_false_eq_true, false_implies, implies_true, Nat.zero_add, Nat.add_zero, Nat.le_refl, Nat.reduceSub, Int.reduceSub, Int.reduceLT, Int.sub_zero, Int.sub_self, List.getElem?_toArray, List.getElem?_cons_zero, List.getElem?_cons_succ, Int.toNat_zero, Int.toNat_one, Int.lt_irrefl, yI_sB, yR_sB, yC_sB, yN_sB, MSh_sB_eq, pY_find_0, stp_aload_n, pY_find_1, stp_invokevirtual, qmY_61, cy_W_clear, ss_C8 hS, pY_find_4, pY_find_5, stp_iload_n, pY_find_6, pY_find_7, qmY_48, cy_Y_minutesBetween, ss_C1 hS, pY_find_10, stp_ldc, qkY_38, pY_find_12, stp_if_icmp_lt, pY_find_15, stp_iconst, pY_find_16, stp_ireturn, pY_find_17, pY_find_18, stp_istore, pY_find_20, pY_find_21, pY_find_23, stp_iload, pY_find_25, stp_bipush, pY_find_27, stp_if_icmp_ge, pY_find_30, pY_find_32, pY_find_33, stp_if_icmp_eq, pY_find_36, pY_find_37, pY_find_39, pY_find_40, qmY_66, cy_Y_leastAlleyToward, pY_find_43, pY_find_45, pY_find_47, pY_find_48, stp_if_icmp_ne, pY_find_51, pY_find_52, pY_find_53, pY_find_54, pY_find_56, pY_find_57, stp_getfield, qfY_12, rp_1_0, ss_R1_0 hS, ss_C2 hS, pY_find_60, pY_find_62, qmY_69, cy_L_get, pY_find_65, stp_checkcast, qtY_39, pY_find_68, qfY_73, rp_9_2, pY_find_71, qmY_75, cy_W_add, pY_find_74, pY_find_75, pY_find_78, pY_find_80, pY_find_83, pY_find_86, pY_find_88, qmY_78, cy_A_otherEnd, pY_find_91, pY_find_93, stp_iinc, pY_find_96, stp_goto, pY_find_99, pY_find_101, pY_find_102, pY_find_105, pY_find_106, pY_find_109, pY_find_110, ic_0, bp_13, ic_m1, ic_1, nv_Y_find, ml_Y_find, q1, q2, q3, rl, rg1, rg2, ro, a1.1, b1.1, a4, rw', hl1, hl2, hl3, hl4, hx, hs2R, hs2C1, hs2C2, nI_1]
  exact ih
set_option maxRecDepth 100000 in
set_option maxHeartbeats 4000000 in
theorem lpY_find {a b x : Nat} (hl : 4 < n) (hC : Cpy w) (hx : x < 17) (ha : a < cn w 3) (hb : b < cn w 3) (hf : dsM w a b < 1000000) (hQ : Q (some (.inl 1)) (fiS w a b x (wyL (grf w) (dsM w) a b))) : ∀ c s l6, s + c = wyL (grf w) (dsM w) a b → WP l G mY_find n 0 0 Q 23 [some (.inr (.inr (some (1, 0)))), some (.inl (nI a)), some (.inl (nI b)), some (.inr (.inr (some (8, x)))), some (.inl (nI (wyP (grf w) (dsM w) a b s))), some (.inl (nI s)), l6] [] (fiS w a b x s) 0 0
  | 0, s, l6, hs => by
    have e : s = wyL (grf w) (dsM w) a b := hs
    have hD := hC.2.2.2.1
    have hM : Mtr (grf w) (cn w 3) (dsM w) := dst_ok hD.2.2.2.2.2
    obtain ⟨m1, m2, m3⟩ := wyL_ok hD.2.2.2.2.1 hM hD.2.1.2 ha hb hf
    rw [← e] at m1 m2 hQ
    rw [m2]
    have hS := (Cpy_W (SmW_fi w a b x s) hC).1
    refine wpn_ok (M := mY_find) (C := cenY) (X := (alk [])) (tb := tY_find) (st := [23]) eoY XOk_nil kY_find 60 _ _ _ _ _ _ ?_
    by_cases q : (13 : Int32) ≤ nI s
    · simp only [reduceCtorEq, fv0, fv1, fv2, fv3, bI_0, bI_1, bft, MSh_sI_eq, fsP_T, inL_0, inL_s, pad_0, pad_n, pad_s, wpn_s, wp1_s, lg_0, lg_s, lset_0, lset_s, kil_0, kil_s, st1_s, st2_s, isL_i, isL_l, isL_r, isL_n, spl_0, spl_s, cll_n, cll_s, catS_0, catS_s, jmp_s, alk_0, alk_s, otl_n, otl_s, List.nil_append, List.cons_append, List.contains_cons, List.contains_nil, Nat.reduceBEq, Bool.or_false, Bool.false_or, Bool.or_self, Bool.false_eq_true, Bool.true_or, Bool.or_true, if_true, if_false, ite_true, ite_false, ↓reduceIte, List.length_cons, List.length_nil, Nat.reduceAdd, Nat.reduceLT, Nat.reduceLeDiff, Nat.reduceEqDiff, Int.reduceAdd, Int.reduceLE, Int.toNat_natCast, Int.reduceToNat, Int.cast_ofNat_Int, true_and, and_true, false_and, and_false, true_implies, forall_const, eq_self, and_self, or_true, true_or, or_self, false_or, or_false, yI_sI, yR_sI, yC_sI, yN_sI, yI_sR, yR_sR, yC_sR, yN_sR, not_true_eq_false, not_false_eq_true, false_implies, implies_true, Nat.zero_add, Nat.add_zero, Nat.le_refl, Nat.reduceSub, Int.reduceSub, Int.reduceLT, Int.sub_zero, Int.sub_self, List.getElem?_toArray, List.getElem?_cons_zero, List.getElem?_cons_succ, Int.toNat_zero, Int.toNat_one, Int.lt_irrefl, yI_sB, yR_sB, yC_sB, yN_sB, MSh_sB_eq, pY_find_0, stp_aload_n, pY_find_1, stp_invokevirtual, qmY_61, cy_W_clear, ss_C8 hS, pY_find_4, pY_find_5, stp_iload_n, pY_find_6, pY_find_7, qmY_48, cy_Y_minutesBetween, ss_C1 hS, pY_find_10, stp_ldc, qkY_38, pY_find_12, stp_if_icmp_lt, pY_find_15, stp_iconst, pY_find_16, stp_ireturn, pY_find_17, pY_find_18, stp_istore, pY_find_20, pY_find_21, pY_find_23, stp_iload, pY_find_25, stp_bipush, pY_find_27, stp_if_icmp_ge, pY_find_30, pY_find_32, pY_find_33, stp_if_icmp_eq, pY_find_36, pY_find_37, pY_find_39, pY_find_40, qmY_66, cy_Y_leastAlleyToward, pY_find_43, pY_find_45, pY_find_47, pY_find_48, stp_if_icmp_ne, pY_find_51, pY_find_52, pY_find_53, pY_find_54, pY_find_56, pY_find_57, stp_getfield, qfY_12, rp_1_0, ss_R1_0 hS, ss_C2 hS, pY_find_60, pY_find_62, qmY_69, cy_L_get, pY_find_65, stp_checkcast, qtY_39, pY_find_68, qfY_73, rp_9_2, pY_find_71, qmY_75, cy_W_add, pY_find_74, pY_find_75, pY_find_78, pY_find_80, pY_find_83, pY_find_86, pY_find_88, qmY_78, cy_A_otherEnd, pY_find_91, pY_find_93, stp_iinc, pY_find_96, stp_goto, pY_find_99, pY_find_101, pY_find_102, pY_find_105, pY_find_106, pY_find_109, pY_find_110, ic_0, bp_13, ic_m1, ic_1, nv_Y_find, ml_Y_find, q]
      exact hQ
    · simp only [reduceCtorEq, fv0, fv1, fv2, fv3, bI_0, bI_1, bft, MSh_sI_eq, fsP_T, inL_0, inL_s, pad_0, pad_n, pad_s, wpn_s, wp1_s, lg_0, lg_s, lset_0, lset_s, kil_0, kil_s, st1_s, st2_s, isL_i, isL_l, isL_r, isL_n, spl_0, spl_s, cll_n, cll_s, catS_0, catS_s, jmp_s, alk_0, alk_s, otl_n, otl_s, List.nil_append, List.cons_append, List.contains_cons, List.contains_nil, Nat.reduceBEq, Bool.or_false, Bool.false_or, Bool.or_self, Bool.false_eq_true, Bool.true_or, Bool.or_true, if_true, if_false, ite_true, ite_false, ↓reduceIte, List.length_cons, List.length_nil, Nat.reduceAdd, Nat.reduceLT, Nat.reduceLeDiff, Nat.reduceEqDiff, Int.reduceAdd, Int.reduceLE, Int.toNat_natCast, Int.reduceToNat, Int.cast_ofNat_Int, true_and, and_true, false_and, and_false, true_implies, forall_const, eq_self, and_self, or_true, true_or, or_self, false_or, or_false, yI_sI, yR_sI, yC_sI, yN_sI, yI_sR, yR_sR, yC_sR, yN_sR, not_true_eq_false, not_false_eq_true, false_implies, implies_true, Nat.zero_add, Nat.add_zero, Nat.le_refl, Nat.reduceSub, Int.reduceSub, Int.reduceLT, Int.sub_zero, Int.sub_self, List.getElem?_toArray, List.getElem?_cons_zero, List.getElem?_cons_succ, Int.toNat_zero, Int.toNat_one, Int.lt_irrefl, yI_sB, yR_sB, yC_sB, yN_sB, MSh_sB_eq, pY_find_0, stp_aload_n, pY_find_1, stp_invokevirtual, qmY_61, cy_W_clear, ss_C8 hS, pY_find_4, pY_find_5, stp_iload_n, pY_find_6, pY_find_7, qmY_48, cy_Y_minutesBetween, ss_C1 hS, pY_find_10, stp_ldc, qkY_38, pY_find_12, stp_if_icmp_lt, pY_find_15, stp_iconst, pY_find_16, stp_ireturn, pY_find_17, pY_find_18, stp_istore, pY_find_20, pY_find_21, pY_find_23, stp_iload, pY_find_25, stp_bipush, pY_find_27, stp_if_icmp_ge, pY_find_30, pY_find_32, pY_find_33, stp_if_icmp_eq, pY_find_36, pY_find_37, pY_find_39, pY_find_40, qmY_66, cy_Y_leastAlleyToward, pY_find_43, pY_find_45, pY_find_47, pY_find_48, stp_if_icmp_ne, pY_find_51, pY_find_52, pY_find_53, pY_find_54, pY_find_56, pY_find_57, stp_getfield, qfY_12, rp_1_0, ss_R1_0 hS, ss_C2 hS, pY_find_60, pY_find_62, qmY_69, cy_L_get, pY_find_65, stp_checkcast, qtY_39, pY_find_68, qfY_73, rp_9_2, pY_find_71, qmY_75, cy_W_add, pY_find_74, pY_find_75, pY_find_78, pY_find_80, pY_find_83, pY_find_86, pY_find_88, qmY_78, cy_A_otherEnd, pY_find_91, pY_find_93, stp_iinc, pY_find_96, stp_goto, pY_find_99, pY_find_101, pY_find_102, pY_find_105, pY_find_106, pY_find_109, pY_find_110, ic_0, bp_13, ic_m1, ic_1, nv_Y_find, ml_Y_find, q]
      exact hQ
  | c + 1, s, l6, hs => stY_find hl hC hx ha hb hf (by omega) (fun l6' => lpY_find hl hC hx ha hb hf hQ c (s + 1) l6' (by omega))
end
abbrev lvY_find : Nat := 5
noncomputable def fiW (w : Wd) (a b x : Nat) : Wd := fiS w a b x (wyL (grf w) (dsM w) a b)
noncomputable def fsY_find : FS := fun as w => match as with
  | [.inr (.inr (some (1, 0))), .inl p, .inl q, .inr (.inr (some (8, x)))] => fsP (Cpy w ∧ x < 17 ∧ inR p 0 (wI w 13 0 3 - 1) = true ∧ inR q 0 (wI w 13 0 3 - 1) = true) (some (.inl (bI (decide (dsM w p.toNatClampNeg q.toNatClampNeg < 1000000)))), fiW w p.toNatClampNeg q.toNatClampNeg x)
  | _ => none
set_option maxRecDepth 100000 in
set_option maxHeartbeats 4000000 in
theorem okY_find (l : Launch) (G : Gc) : FsOk l G mY_find lvY_find fsY_find := by
  intro as w r w' h
  simp only [fsY_find] at h
  split at h
  · rename_i p q x
    obtain ⟨⟨hC, hx, hp, hq⟩, h⟩ := fsP_s h
    cases h
    have hS := hC.1
    have h3 := hC.2.2.2.1.2.1
    have h14 := h3.2
    obtain ⟨a, ha, rfl⟩ := okc_in h3 (by omega) hp
    obtain ⟨b, hb, rfl⟩ := okc_in h3 (by omega) hq
    have ca : (nI a).toNatClampNeg = a := nI_clamp (by omega)
    have cb : (nI b).toNatClampNeg = b := nI_clamp (by omega)
    rw [ca, cb]
    have S0 := SmW_fi w a b x 0
    have C0 := Cpy_W S0 hC
    have hS0 := C0.1
    have rm := ruY_minutesBetween C0 (show a < cn _ 3 by rw [SmW_c S0]; exact ha) (show b < cn _ 3 by rw [SmW_c S0]; exact hb)
    rw [SmW_d S0] at rm
    have rc : fsW_clear [.inr (.inr (some (8, x)))] w = some (none, fiS w a b x 0) := by
      rw [← fiS_0]
      exact fsP_t (by rw [ss_C8 hS]; exact hx)
    have hM : Mtr (grf w) (cn w 3) (dsM w) := dst_ok hC.2.2.2.1.2.2.2.2.2
    have dl := hM.2.1 a b ha hb
    have s0C := ss_C1 hS0
    refine Sem_of (by decide) rfl (Nat.le_of_ble_eq_true rfl) ?_
    refine wpn_ok (M := mY_find) (C := cenY) (X := (alk [(61, lvW_clear, fsW_clear), (48, lvY_minutesBetween, fsY_minutesBetween)])) (tb := tY_find) (st := [23]) eoY (XOk_cons qmY_61 (okW_clear l G) (XOk_cons qmY_48 (okY_minutesBetween l G) XOk_nil)) kY_find 60 _ _ _ _ _ _ ?_
    by_cases hf : dsM w a b < 1000000
    · have q1 : nI (dsM w a b) < 1000000 := by rw [nFar]; exact nI_lt hf (by omega)
      simp only [reduceCtorEq, fv0, fv1, fv2, fv3, bI_0, bI_1, bft, MSh_sI_eq, fsP_T, inL_0, inL_s, pad_0, pad_n, pad_s, wpn_s, wp1_s, lg_0, lg_s, lset_0, lset_s, kil_0, kil_s, st1_s, st2_s, isL_i, isL_l, isL_r, isL_n, spl_0, spl_s, cll_n, cll_s, catS_0, catS_s, jmp_s, alk_0, alk_s, otl_n, otl_s, List.nil_append, List.cons_append, List.contains_cons, List.contains_nil, Nat.reduceBEq, Bool.or_false, Bool.false_or, Bool.or_self, Bool.false_eq_true, Bool.true_or, Bool.or_true, if_true, if_false, ite_true, ite_false, ↓reduceIte, List.length_cons, List.length_nil, Nat.reduceAdd, Nat.reduceLT, Nat.reduceLeDiff, Nat.reduceEqDiff, Int.reduceAdd, Int.reduceLE, Int.toNat_natCast, Int.reduceToNat, Int.cast_ofNat_Int, true_and, and_true, false_and, and_false, true_implies, forall_const, eq_self, and_self, or_true, true_or, or_self, false_or, or_false, yI_sI, yR_sI, yC_sI, yN_sI, yI_sR, yR_sR, yC_sR, yN_sR, not_true_eq_false, not_false_eq_true, false_implies, implies_true, Nat.zero_add, Nat.add_zero, Nat.le_refl, Nat.reduceSub, Int.reduceSub, Int.reduceLT, Int.sub_zero, Int.sub_self, List.getElem?_toArray, List.getElem?_cons_zero, List.getElem?_cons_succ, Int.toNat_zero, Int.toNat_one, Int.lt_irrefl, yI_sB, yR_sB, yC_sB, yN_sB, MSh_sB_eq, pY_find_0, stp_aload_n, pY_find_1, stp_invokevirtual, qmY_61, cy_W_clear, ss_C8 hS, pY_find_4, pY_find_5, stp_iload_n, pY_find_6, pY_find_7, qmY_48, cy_Y_minutesBetween, ss_C1 hS, pY_find_10, stp_ldc, qkY_38, pY_find_12, stp_if_icmp_lt, pY_find_15, stp_iconst, pY_find_16, stp_ireturn, pY_find_17, pY_find_18, stp_istore, pY_find_20, pY_find_21, pY_find_23, stp_iload, pY_find_25, stp_bipush, pY_find_27, stp_if_icmp_ge, pY_find_30, pY_find_32, pY_find_33, stp_if_icmp_eq, pY_find_36, pY_find_37, pY_find_39, pY_find_40, qmY_66, cy_Y_leastAlleyToward, pY_find_43, pY_find_45, pY_find_47, pY_find_48, stp_if_icmp_ne, pY_find_51, pY_find_52, pY_find_53, pY_find_54, pY_find_56, pY_find_57, stp_getfield, qfY_12, rp_1_0, ss_R1_0 hS, ss_C2 hS, pY_find_60, pY_find_62, qmY_69, cy_L_get, pY_find_65, stp_checkcast, qtY_39, pY_find_68, qfY_73, rp_9_2, pY_find_71, qmY_75, cy_W_add, pY_find_74, pY_find_75, pY_find_78, pY_find_80, pY_find_83, pY_find_86, pY_find_88, qmY_78, cy_A_otherEnd, pY_find_91, pY_find_93, stp_iinc, pY_find_96, stp_goto, pY_find_99, pY_find_101, pY_find_102, pY_find_105, pY_find_106, pY_find_109, pY_find_110, ic_0, bp_13, ic_m1, ic_1, nv_Y_find, ml_Y_find, ss_C8 hS, hx, rc, rm, s0C, q1, hf, lvY_find, lvW_clear, lvY_minutesBetween]
      refine lpY_find (by decide) hC hx ha hb hf ⟨?_, rfl⟩ _ 0 none (Nat.zero_add _)
      simp [hf, bI]
    · have q1 : ¬ nI (dsM w a b) < 1000000 := by rw [nFar]; exact nI_nlt (by omega) (by omega)
      have z : wyL (grf w) (dsM w) a b = 0 := if_pos (by omega)
      simp only [reduceCtorEq, fv0, fv1, fv2, fv3, bI_0, bI_1, bft, MSh_sI_eq, fsP_T, inL_0, inL_s, pad_0, pad_n, pad_s, wpn_s, wp1_s, lg_0, lg_s, lset_0, lset_s, kil_0, kil_s, st1_s, st2_s, isL_i, isL_l, isL_r, isL_n, spl_0, spl_s, cll_n, cll_s, catS_0, catS_s, jmp_s, alk_0, alk_s, otl_n, otl_s, List.nil_append, List.cons_append, List.contains_cons, List.contains_nil, Nat.reduceBEq, Bool.or_false, Bool.false_or, Bool.or_self, Bool.false_eq_true, Bool.true_or, Bool.or_true, if_true, if_false, ite_true, ite_false, ↓reduceIte, List.length_cons, List.length_nil, Nat.reduceAdd, Nat.reduceLT, Nat.reduceLeDiff, Nat.reduceEqDiff, Int.reduceAdd, Int.reduceLE, Int.toNat_natCast, Int.reduceToNat, Int.cast_ofNat_Int, true_and, and_true, false_and, and_false, true_implies, forall_const, eq_self, and_self, or_true, true_or, or_self, false_or, or_false, yI_sI, yR_sI, yC_sI, yN_sI, yI_sR, yR_sR, yC_sR, yN_sR, not_true_eq_false, not_false_eq_true, false_implies, implies_true, Nat.zero_add, Nat.add_zero, Nat.le_refl, Nat.reduceSub, Int.reduceSub, Int.reduceLT, Int.sub_zero, Int.sub_self, List.getElem?_toArray, List.getElem?_cons_zero, List.getElem?_cons_succ, Int.toNat_zero, Int.toNat_one, Int.lt_irrefl, yI_sB, yR_sB, yC_sB, yN_sB, MSh_sB_eq, pY_find_0, stp_aload_n, pY_find_1, stp_invokevirtual, qmY_61, cy_W_clear, ss_C8 hS, pY_find_4, pY_find_5, stp_iload_n, pY_find_6, pY_find_7, qmY_48, cy_Y_minutesBetween, ss_C1 hS, pY_find_10, stp_ldc, qkY_38, pY_find_12, stp_if_icmp_lt, pY_find_15, stp_iconst, pY_find_16, stp_ireturn, pY_find_17, pY_find_18, stp_istore, pY_find_20, pY_find_21, pY_find_23, stp_iload, pY_find_25, stp_bipush, pY_find_27, stp_if_icmp_ge, pY_find_30, pY_find_32, pY_find_33, stp_if_icmp_eq, pY_find_36, pY_find_37, pY_find_39, pY_find_40, qmY_66, cy_Y_leastAlleyToward, pY_find_43, pY_find_45, pY_find_47, pY_find_48, stp_if_icmp_ne, pY_find_51, pY_find_52, pY_find_53, pY_find_54, pY_find_56, pY_find_57, stp_getfield, qfY_12, rp_1_0, ss_R1_0 hS, ss_C2 hS, pY_find_60, pY_find_62, qmY_69, cy_L_get, pY_find_65, stp_checkcast, qtY_39, pY_find_68, qfY_73, rp_9_2, pY_find_71, qmY_75, cy_W_add, pY_find_74, pY_find_75, pY_find_78, pY_find_80, pY_find_83, pY_find_86, pY_find_88, qmY_78, cy_A_otherEnd, pY_find_91, pY_find_93, stp_iinc, pY_find_96, stp_goto, pY_find_99, pY_find_101, pY_find_102, pY_find_105, pY_find_106, pY_find_109, pY_find_110, ic_0, bp_13, ic_m1, ic_1, nv_Y_find, ml_Y_find, ss_C8 hS, hx, rc, rm, s0C, q1, hf, lvY_find, lvW_clear, lvY_minutesBetween]
      rw [fiW, z]
      simp [bI]
  · cases h
theorem ruY_find {w : Wd} {a b x : Nat} (h : Cpy w) (hx : x < 17) (ha : a < cn w 3) (hb : b < cn w 3) : fsY_find [.inr (.inr (some (1, 0))), .inl (nI a), .inl (nI b), .inr (.inr (some (8, x)))] w = some (some (.inl (bI (decide (dsM w a b < 1000000)))), fiW w a b x) := by
  have h3 := h.2.2.2.1.2.1
  have h14 := h3.2
  have : fsY_find [.inr (.inr (some (1, 0))), .inl (nI a), .inl (nI b), .inr (.inr (some (8, x)))] w = fsP (Cpy w ∧ x < 17 ∧ inR (nI a) 0 (wI w 13 0 3 - 1) = true ∧ inR (nI b) 0 (wI w 13 0 3 - 1) = true) (some (.inl (bI (decide (dsM w (nI a).toNatClampNeg (nI b).toNatClampNeg < 1000000)))), fiW w (nI a).toNatClampNeg (nI b).toNatClampNeg x) := rfl
  rw [this, nI_clamp (by omega), nI_clamp (by omega)]
  exact fsP_t ⟨h, hx, okc_inR h3 (by omega) ha, okc_inR h3 (by omega) hb⟩
