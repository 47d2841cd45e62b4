/-! one drive more in the planner's search -/
def PtC (l : Launch) (G : Gc) (w0 : Wd) (mny t0 : Nat) (pa eL eP : Nat → Nat) (d : Nat) : Prop := ∀ n last L P E pl b w B, n + d = mny → ClJ w0 w mny n eL eP L P E pl b → enB (grf w0) E B → t0 ≤ B → last ≤ B → B + 390 * d < 3999000 → (∀ k, (E.filter (fun e => decide (e.1 = k))).length + d ≤ 24) →
  Sem l G mP_tell (7 + 2 * d) 0 0 [.inr (.inr (some (6, 0))), .inl (nI n), .inl (nI last)] w (fun r w' => r = none ∧ ClJ w0 w' mny n eL eP L P E pl (srch (grf w0) (dsM w0) pa t0 mny mny eL eP d n L P last E pl b))
theorem mxN {a b : Nat} (ha : a < 2 ^ 31) (hb : b < 2 ^ 31) : (if nI a < nI b then nI b else nI a) = nI (max a b) := by
  by_cases c : a < b
  · rw [if_pos (nI_lt c hb), Nat.max_eq_right (by omega)]
  · rw [if_neg (nI_nlt (by omega) ha), Nat.max_eq_left (by omega)]
theorem cut_mono {b : Bst} {x y : Nat} (h : cutB b x = true) (hxy : x ≤ y) : cutB b y = true := by
  unfold cutB at h ⊢
  split at h
  · cases h
  · simp only [decide_eq_true_eq] at h ⊢
    omega
theorem CpE_I {w0 w : Wd} {E : List Ent} (h2 : w.2 = w0.2) (hI : ∀ t k i, (t = 9 ∨ t = 186 ∨ t = 13) → wI w t k i = wI w0 t k i) (h : CpE w0 E) : CpE w E := CpE_W h2 hI h
theorem tkE_1 {g : Gf} {κ : Nat → Nat} {t k : Nat} : ∀ m, (∀ i j, i < j → j < m → ¬ κ i = κ j) → ((tkE g κ m t).filter (fun e => decide (e.1 = k))).length ≤ 1
  | 0, _ => by simp [tkE]
  | m + 1, h => by
    have ih := tkE_1 (g := g) (t := t) (k := k) m (fun i j h1 h2 => h i j h1 (by omega))
    rw [tkE_s, List.filter_append, List.length_append]
    by_cases e : κ m = k
    · have z : (tkE g κ m t).filter (fun e => decide (e.1 = k)) = [] := flt_no fun x hx => by
        obtain ⟨i, hi, hx2⟩ := tkE_m hx
        rw [hx2, ← e]
        exact h i m hi (by omega)
      rw [z]
      simp [e]
    · simp [e]
      simpa using ih
section
variable {l : Launch} {G : Gc} {w0 w : Wd}
set_option maxRecDepth 100000 in
set_option maxHeartbeats 4000000 in
theorem stP_tell88 {mny n d t0 last i j B s : Nat} {pa eL eP : Nat → Nat} {L P : Nat → Bool} {E : List Ent} {pl : Nat → Nat × Nat} {b : Bst} {κ : Nat → Nat} {m lt lt' : Nat} {x2 : Int32} {Q : Option AV → Wd → Prop} (IH : PtC l G w0 mny t0 pa eL eP d) (hSt : ClS w0 mny t0 pa eL eP) (hJ : ClJ w0 w mny n eL eP L P E pl b) (hn : n + (d + 1) = mny) (hi : i < mny) (hj : j < mny) (hL : L (eL i) = true) (hP : P (eP j) = true) (hB : enB (grf w0) E B) (ht : t0 ≤ B) (hBB : B + 390 * (d + 1) < 3999000) (hcap : ∀ k, (E.filter (fun e => decide (e.1 = k))).length + (d + 1) ≤ 24)
    (hW : WyC w0 (4 * i + j) κ m) (hdj : ∀ p q, p < q → q < m → ¬ κ p = κ q) (hs : s ≤ B) (hB2 : enB (grf w0) (E ++ tkE (grf w0) κ m s) (B + 390)) (hlt : lt ≤ B + 390)
    (hQ : ∀ w', ClJ w0 w' mny n eL eP L P E pl (srch (grf w0) (dsM w0) pa t0 mny mny eL eP d (n + 1) (rmS L (eL i)) (rmS P (eP j)) lt (E ++ tkE (grf w0) κ m s) (upP pl n (eL i, eP j)) b) → Q none w') :
    WP l G mP_tellOne (8 + 2 * d) 0 0 Q 88 [some (.inr (.inr (some (6, 0)))), some (.inl (nI n)), some (.inl x2), some (.inl (nI i)), some (.inl (nI j)), some (.inr (.inr (some (8, 4 * i + j)))), some (.inl (nI s)), some (.inl (nI lt))] [] w 0 0 := by
  obtain ⟨hC, hm4, h8, h9, h12, hrow, hinj, hways⟩ := hSt
  obtain ⟨j1, j2, j3, j4, j5⟩ := hJ
  have hCw := Cpy_W (SmK_W j1) hC
  have hS := hCw.1
  obtain ⟨r1, r2, r3, r4⟩ := hrow i hi
  obtain ⟨u1, u2, u3, u4⟩ := hrow j hj
  have e177 : wI w 177 0 i = nI (eL i) := by rw [j1.2 177 0 i (by omega)]; exact r1
  have e178 : wI w 178 0 j = nI (eP j) := by rw [j1.2 178 0 j (by omega)]; exact u2
  have vn : vp_in (nI n) 4 := vp_in_nI (by omega) (by omega)
  have vi : vp_in (nI i) 4 := vp_in_nI (by omega) (by omega)
  have vj : vp_in (nI j) 4 := vp_in_nI (by omega) (by omega)
  have kn : (nI n).toNatClampNeg = n := nI_clamp (by omega)
  have ki : (nI i).toNatClampNeg = i := nI_clamp (by omega)
  have kj : (nI j).toNatClampNeg = j := nI_clamp (by omega)
  have x17 : 4 * i + j < 17 := by omega
  -- the world with the drive told
  generalize hwa : sI (sI (sI (sI w 179 0 n (nI (eL i))) 180 0 n (nI (eP j))) 6 0 10 (wI w 6 0 10 ||| ((1 : Int32) <<< (nI i &&& 31)))) 6 0 11 (wI w 6 0 11 ||| ((1 : Int32) <<< (nI j &&& 31))) = wa
  have ja : SmK w wa := by
    rw [← hwa]
    exact SmK_t (SmK_t (SmK_t (SmK_I (by omega)) (SmK_I (by omega))) (SmK_I (by omega))) (SmK_I (by omega))
  have j1a := SmK_t j1 ja
  have hCa := Cpy_W (SmK_W j1a) hC
  have hWa := WyC_K j1a hW
  have ga := SmW_g (SmK_W j1a)
  have hEa : CpE wa E := CpE_W (w0 := w) ja.1 (fun t k q ht => by rw [← hwa]; simp only [yI_sI]; rw [if_neg (by omega), if_neg (by omega), if_neg (by omega), if_neg (by omega)]) j2
  have c6 := SmW_c (SmK_W j1a) 6
  have hk : ∀ q, q < m → κ q < cn wa 6 ∧ s + aN (grf wa) κ q < 2 ^ 29 ∧ szA wa (κ q) < 24 := fun q hq => by
    obtain ⟨z1, z2, z3, z4⟩ := hWa.2.2 q hq
    have z5 := CpE_n hEa z2
    have z6 := hcap (κ q)
    exact ⟨z2, by omega, by omega⟩
  have tk := ruY_take hCa x17 hWa (show s < 2 ^ 31 by omega) (tk_ok hEa hk hdj)
  obtain ⟨tc, -⟩ := tk_cp hEa hk hdj m (Nat.le_refl _)
  have te := tkW_E wa κ (aN (grf wa) κ) s m
  generalize hwb : tkW wa κ (aN (grf wa) κ) s m = wb at tk tc te
  have j1b := SmK_t j1a (SmK_E te)
  have hJb : ClJ w0 wb mny (n + 1) eL eP (rmS L (eL i)) (rmS P (eP j)) (E ++ tkE (grf w0) κ m s) (upP pl n (eL i, eP j)) b := by
    refine ⟨j1b, by rw [← ga]; exact tc, fun q hq => ?_, fun q hq => ?_, ?_⟩
    · rw [te.2 6 0 10 (by omega), te.2 6 0 11 (by omega), ← hwa]
      simp only [yI_sI]
      simp only [Nat.reduceEqDiff, and_false, and_true, true_and, false_and, if_false, if_true]
      rw [bt_set _ (show i < 32 by omega), bt_set _ (show j < 32 by omega), (j3 q hq).1, (j3 q hq).2]
      obtain ⟨i1, -⟩ := hinj q i hq hi
      obtain ⟨-, i2⟩ := hinj q j hq hj
      constructor
      · by_cases e : q = i
        · subst e; simp [rmS]
        · have : ¬ eL q = eL i := fun z => e (i1 z)
          simp [rmS, e, this]
      · by_cases e : q = j
        · subst e; simp [rmS]
        · have : ¬ eP q = eP j := fun z => e (i2 z)
          simp [rmS, e, this]
    · rw [te.2 179 0 q (by omega), te.2 180 0 q (by omega), ← hwa]
      simp only [yI_sI]
      by_cases e : q = n
      · subst e; simp [upP]
      · simp [e, upP]
        exact j4 q (by omega)
    · refine KB_eq j5 ?_ ?_ fun q => ⟨?_, ?_⟩
      · rw [te.2 6 0 13 (by omega), ← hwa]; simp [yI_sI]
      · rw [te.2 6 0 14 (by omega), ← hwa]; simp [yI_sI]
      · rw [te.2 181 0 q (by omega), ← hwa]; simp [yI_sI]
      · rw [te.2 182 0 q (by omega), ← hwa]; simp [yI_sI]
  have call := IH (n + 1) lt (rmS L (eL i)) (rmS P (eP j)) (E ++ tkE (grf w0) κ m s) (upP pl n (eL i, eP j)) b wb (B + 390) (by omega) hJb hB2 (by omega) hlt (by omega) (fun k => by
    have := hcap k
    have t1 := tkE_1 (g := grf w0) (κ := κ) (t := s) (k := k) m hdj
    rw [List.filter_append, List.length_append]
    omega)
  have l1 : lvY_take < 8 + 2 * d := by show 4 < _; omega
  have l2 : lvY_giveBack < 8 + 2 * d := by show 4 < _; omega
  have hCb := Cpy_W (SmK_W j1b) hC
  refine wpn_ok (M := mP_tellOne) (C := cenP) (X := (alk [(102, lvY_take, fsY_take), (106, lvY_giveBack, fsY_giveBack)])) (tb := tP_tellOne) (st := [158]) eoP (XOk_cons qmP_102 (okY_take l G) (XOk_cons qmP_106 (okY_giveBack l G) XOk_nil)) kP_tellOne 80 _ _ _ _ _ _ ?_
  simp only [reduceCtorEq, fv0, fv1, fv2, fv3, bI_0, bI_1, bft, MSh_sI_eq, fsP_T, inL_0, inL_s, pad_0, pad_n, pad_s, wpn_s, wp1_s, lg_0, lg_s, lset_0, lset_s, kil_0, kil_s, st1_s, st2_s, isL_i, isL_l, isL_r, isL_n, spl_0, spl_s, cll_n, cll_s, catS_0, catS_s, jmp_s, alk_0, alk_s, otl_n, otl_s, List.nil_append, List.cons_append, List.contains_cons, List.contains_nil, Nat.reduceBEq, Bool.or_false, Bool.false_or, Bool.or_self, Bool.false_eq_true, Bool.true_or, Bool.or_true, if_true, if_false, ite_true, ite_false, ↓reduceIte, List.length_cons, List.length_nil, Nat.reduceAdd, Nat.reduceLT, Nat.reduceLeDiff, Nat.reduceEqDiff, Int.reduceAdd, Int.reduceLE, Int.toNat_natCast, Int.reduceToNat, Int.cast_ofNat_Int, true_and, and_true, false_and, and_false, true_implies, forall_const, eq_self, and_self, or_true, true_or, or_self, false_or, or_false, yI_sI, yR_sI, yC_sI, yN_sI, yI_sR, yR_sR, yC_sR, yN_sR, not_true_eq_false, not_false_eq_true, false_implies, implies_true, Nat.zero_add, Nat.add_zero, Nat.le_refl, Nat.reduceSub, Int.reduceSub, Int.reduceLT, Int.sub_zero, Int.sub_self, List.getElem?_toArray, List.getElem?_cons_zero, List.getElem?_cons_succ, Int.toNat_zero, Int.toNat_one, Int.lt_irrefl, yI_sB, yR_sB, yC_sB, yN_sB, MSh_sB_eq, pP_tellOne_0, stp_iload_n, pP_tellOne_1, stp_ifCond_lt, pP_tellOne_4, pP_tellOne_5, stp_iconst, pP_tellOne_6, stp_if_icmp_lt, pP_tellOne_9, stp_return_, pP_tellOne_10, stp_aload_n, pP_tellOne_11, stp_getfield, qfP_20, rp_6_3, ss_C6 hS, ss_R6_3 hS, ss_C301 hS, ss_N301 hS, pP_tellOne_14, pP_tellOne_15, pP_tellOne_16, stp_imul, pP_tellOne_17, stp_iload, pP_tellOne_19, stp_iadd, pP_tellOne_20, stp_aaload, pP_tellOne_21, stp_astore, pP_tellOne_23, stp_aload, pP_tellOne_25, qfP_86, rp_8_2, pP_tellOne_28, stp_ifCond_eq, pP_tellOne_31, pP_tellOne_32, qfP_49, rp_6_12, pP_tellOne_35, pP_tellOne_37, qfP_89, rp_8_3, pP_tellOne_40, pP_tellOne_41, pP_tellOne_42, qfP_52, rp_6_13, pP_tellOne_45, pP_tellOne_48, pP_tellOne_49, pP_tellOne_50, qfP_58, rp_6_0, ss_R6_0 hS, ss_C1 hS, pP_tellOne_53, pP_tellOne_55, pP_tellOne_56, pP_tellOne_59, stp_invokevirtual, qmP_92, cy_Y_firstFree, pP_tellOne_62, stp_istore, pP_tellOne_64, pP_tellOne_65, pP_tellOne_67, pP_tellOne_69, pP_tellOne_72, pP_tellOne_73, stp_invokestatic, qmP_96, pP_tellOne_76, pP_tellOne_78, pP_tellOne_80, pP_tellOne_81, pP_tellOne_84, pP_tellOne_87, pP_tellOne_88, pP_tellOne_89, qfP_24, rp_6_4, ss_R6_4 hS, ss_C179 hS, ss_N179 hS, pP_tellOne_92, pP_tellOne_93, pP_tellOne_94, qfP_9, rp_6_1, ss_R6_1 hS, ss_C177 hS, ss_N177 hS, pP_tellOne_97, pP_tellOne_98, stp_iaload, pP_tellOne_99, stp_iastore, pP_tellOne_100, pP_tellOne_101, qfP_27, rp_6_5, ss_R6_5 hS, ss_C180 hS, ss_N180 hS, pP_tellOne_104, pP_tellOne_105, pP_tellOne_106, qfP_15, rp_6_2, ss_R6_2 hS, ss_C178 hS, ss_N178 hS, pP_tellOne_109, pP_tellOne_111, pP_tellOne_112, pP_tellOne_113, pP_tellOne_114, stp_dup, pP_tellOne_115, qfP_43, rp_6_10, pP_tellOne_118, pP_tellOne_119, pP_tellOne_120, stp_ishl, pP_tellOne_121, stp_ior, pP_tellOne_122, stp_putfield, fi_6_10, nr_6_10, pP_tellOne_125, pP_tellOne_126, pP_tellOne_127, qfP_46, rp_6_11, pP_tellOne_130, pP_tellOne_131, pP_tellOne_133, pP_tellOne_134, pP_tellOne_135, fi_6_11, nr_6_11, pP_tellOne_138, pP_tellOne_139, pP_tellOne_142, pP_tellOne_144, pP_tellOne_146, qmP_102, cy_Y_take, pP_tellOne_149, pP_tellOne_150, pP_tellOne_151, pP_tellOne_152, pP_tellOne_153, pP_tellOne_155, qmP_70, cy_P_tell, pP_tellOne_158, pP_tellOne_159, pP_tellOne_162, pP_tellOne_164, qmP_106, cy_Y_giveBack, pP_tellOne_167, pP_tellOne_168, pP_tellOne_169, pP_tellOne_172, pP_tellOne_173, pP_tellOne_174, pP_tellOne_175, pP_tellOne_176, stp_ixor, pP_tellOne_177, stp_iand, pP_tellOne_178, pP_tellOne_181, pP_tellOne_182, pP_tellOne_183, pP_tellOne_186, pP_tellOne_187, pP_tellOne_189, pP_tellOne_190, pP_tellOne_191, pP_tellOne_192, pP_tellOne_193, pP_tellOne_196, ic_4, ic_1, ic_m1, nv_P_tellOne, ml_P_tellOne, vn, vi, vj, kn, ki, kj, e177, e178, hwa, tk, l1, l2, nI_1, ss_C1 hCa.1, ss_R6_0 hCa.1, ss_C6 hCa.1, ss_C6 hCb.1]
  refine ⟨7 + 2 * d, 0, 0, by omega, by omega, by omega, call.mono fun rr w' h' => ?_⟩
  obtain ⟨rfl, k1, k2, k3, k4, k5⟩ := h'
  have hC' := Cpy_W (SmK_W k1) hC
  have hW' := WyC_K k1 hW
  obtain ⟨gO, gE⟩ := gb_ok k2 (fun q hq => (hW'.2.2 q hq).2.1) hdj
  have gb := ruY_giveBack hC' x17 hW' gO
  have ge := gbW_E w' κ m
  generalize gbW w' κ m = wg at gb ge gE
  have kg := SmK_t k1 (SmK_E ge)
  have hCg := Cpy_W (SmK_W kg) hC
  refine wpn_ok (M := mP_tellOne) (C := cenP) (X := (alk [(106, lvY_giveBack, fsY_giveBack)])) (tb := tP_tellOne) (st := []) eoP (XOk_cons qmP_106 (okY_giveBack l G) XOk_nil) kP_tellOne 80 _ _ _ _ _ _ ?_
  simp only [reduceCtorEq, fv0, fv1, fv2, fv3, bI_0, bI_1, bft, MSh_sI_eq, fsP_T, inL_0, inL_s, pad_0, pad_n, pad_s, wpn_s, wp1_s, lg_0, lg_s, lset_0, lset_s, kil_0, kil_s, st1_s, st2_s, isL_i, isL_l, isL_r, isL_n, spl_0, spl_s, cll_n, cll_s, catS_0, catS_s, jmp_s, alk_0, alk_s, otl_n, otl_s, List.nil_append, List.cons_append, List.contains_cons, List.contains_nil, Nat.reduceBEq, Bool.or_false, Bool.false_or, Bool.or_self, Bool.false_eq_true, Bool.true_or, Bool.or_true, if_true, if_false, ite_true, ite_false, ↓reduceIte, List.length_cons, List.length_nil, Nat.reduceAdd, Nat.reduceLT, Nat.reduceLeDiff, Nat.reduceEqDiff, Int.reduceAdd, Int.reduceLE, Int.toNat_natCast, Int.reduceToNat, Int.cast_ofNat_Int, true_and, and_true, false_and, and_false, true_implies, forall_const, eq_self, and_self, or_true, true_or, or_self, false_or, or_false, yI_sI, yR_sI, yC_sI, yN_sI, yI_sR, yR_sR, yC_sR, yN_sR, not_true_eq_false, not_false_eq_true, false_implies, implies_true, Nat.zero_add, Nat.add_zero, Nat.le_refl, Nat.reduceSub, Int.reduceSub, Int.reduceLT, Int.sub_zero, Int.sub_self, List.getElem?_toArray, List.getElem?_cons_zero, List.getElem?_cons_succ, Int.toNat_zero, Int.toNat_one, Int.lt_irrefl, yI_sB, yR_sB, yC_sB, yN_sB, MSh_sB_eq, pP_tellOne_0, stp_iload_n, pP_tellOne_1, stp_ifCond_lt, pP_tellOne_4, pP_tellOne_5, stp_iconst, pP_tellOne_6, stp_if_icmp_lt, pP_tellOne_9, stp_return_, pP_tellOne_10, stp_aload_n, pP_tellOne_11, stp_getfield, qfP_20, rp_6_3, ss_C6 hC'.1, ss_R6_3 hC'.1, ss_C301 hC'.1, ss_N301 hC'.1, pP_tellOne_14, pP_tellOne_15, pP_tellOne_16, stp_imul, pP_tellOne_17, stp_iload, pP_tellOne_19, stp_iadd, pP_tellOne_20, stp_aaload, pP_tellOne_21, stp_astore, pP_tellOne_23, stp_aload, pP_tellOne_25, qfP_86, rp_8_2, pP_tellOne_28, stp_ifCond_eq, pP_tellOne_31, pP_tellOne_32, qfP_49, rp_6_12, pP_tellOne_35, pP_tellOne_37, qfP_89, rp_8_3, pP_tellOne_40, pP_tellOne_41, pP_tellOne_42, qfP_52, rp_6_13, pP_tellOne_45, pP_tellOne_48, pP_tellOne_49, pP_tellOne_50, qfP_58, rp_6_0, ss_R6_0 hC'.1, ss_C1 hC'.1, pP_tellOne_53, pP_tellOne_55, pP_tellOne_56, pP_tellOne_59, stp_invokevirtual, qmP_92, cy_Y_firstFree, pP_tellOne_62, stp_istore, pP_tellOne_64, pP_tellOne_65, pP_tellOne_67, pP_tellOne_69, pP_tellOne_72, pP_tellOne_73, stp_invokestatic, qmP_96, pP_tellOne_76, pP_tellOne_78, pP_tellOne_80, pP_tellOne_81, pP_tellOne_84, pP_tellOne_87, pP_tellOne_88, pP_tellOne_89, qfP_24, rp_6_4, ss_R6_4 hC'.1, ss_C179 hC'.1, ss_N179 hC'.1, pP_tellOne_92, pP_tellOne_93, pP_tellOne_94, qfP_9, rp_6_1, ss_R6_1 hC'.1, ss_C177 hC'.1, ss_N177 hC'.1, pP_tellOne_97, pP_tellOne_98, stp_iaload, pP_tellOne_99, stp_iastore, pP_tellOne_100, pP_tellOne_101, qfP_27, rp_6_5, ss_R6_5 hC'.1, ss_C180 hC'.1, ss_N180 hC'.1, pP_tellOne_104, pP_tellOne_105, pP_tellOne_106, qfP_15, rp_6_2, ss_R6_2 hC'.1, ss_C178 hC'.1, ss_N178 hC'.1, pP_tellOne_109, pP_tellOne_111, pP_tellOne_112, pP_tellOne_113, pP_tellOne_114, stp_dup, pP_tellOne_115, qfP_43, rp_6_10, pP_tellOne_118, pP_tellOne_119, pP_tellOne_120, stp_ishl, pP_tellOne_121, stp_ior, pP_tellOne_122, stp_putfield, fi_6_10, nr_6_10, pP_tellOne_125, pP_tellOne_126, pP_tellOne_127, qfP_46, rp_6_11, pP_tellOne_130, pP_tellOne_131, pP_tellOne_133, pP_tellOne_134, pP_tellOne_135, fi_6_11, nr_6_11, pP_tellOne_138, pP_tellOne_139, pP_tellOne_142, pP_tellOne_144, pP_tellOne_146, qmP_102, cy_Y_take, pP_tellOne_149, pP_tellOne_150, pP_tellOne_151, pP_tellOne_152, pP_tellOne_153, pP_tellOne_155, qmP_70, cy_P_tell, pP_tellOne_158, pP_tellOne_159, pP_tellOne_162, pP_tellOne_164, qmP_106, cy_Y_giveBack, pP_tellOne_167, pP_tellOne_168, pP_tellOne_169, pP_tellOne_172, pP_tellOne_173, pP_tellOne_174, pP_tellOne_175, pP_tellOne_176, stp_ixor, pP_tellOne_177, stp_iand, pP_tellOne_178, pP_tellOne_181, pP_tellOne_182, pP_tellOne_183, pP_tellOne_186, pP_tellOne_187, pP_tellOne_189, pP_tellOne_190, pP_tellOne_191, pP_tellOne_192, pP_tellOne_193, pP_tellOne_196, ic_4, ic_1, ic_m1, nv_P_tellOne, ml_P_tellOne, gb, l2, ss_C6 hCg.1]
  refine hQ _ ⟨?_, ?_, fun q hq => ?_, fun q hq => ?_, ?_⟩
  · exact SmK_t kg (SmK_t (SmK_I (by omega)) (SmK_I (by omega)))
  · exact CpE_W (w0 := wg) (by rw [sI_2, sI_2]) (fun t k q ht => by simp only [yI_sI]; rw [if_neg (by omega), if_neg (by omega)]) gE
  · simp only [yI_sI]
    simp only [Nat.reduceEqDiff, and_false, and_true, true_and, false_and, if_false, if_true]
    rw [bt_clr _ (show i < 32 by omega) (show q < 32 by omega), bt_clr _ (show j < 32 by omega) (show q < 32 by omega), ge.2 6 0 10 (by omega), ge.2 6 0 11 (by omega), (k3 q hq).1, (k3 q hq).2]
    obtain ⟨i1, -⟩ := hinj q i hq hi
    obtain ⟨-, i2⟩ := hinj q j hq hj
    constructor
    · by_cases e : q = i
      · subst e; simp [rmS, hL]
      · have : ¬ eL q = eL i := fun z => e (i1 z)
        simp [rmS, e, this]
    · by_cases e : q = j
      · subst e; simp [rmS, hP]
      · have : ¬ eP q = eP j := fun z => e (i2 z)
        simp [rmS, e, this]
  · simp only [yI_sI]
    simp only [Nat.reduceEqDiff, false_and, if_false]
    rw [ge.2 179 0 q (by omega), ge.2 180 0 q (by omega)]
    have := k4 q (by omega)
    have e : ¬ q = n := by omega
    simp only [upP, if_neg e] at this
    exact this
  · refine KB_eq k5 ?_ ?_ fun q => ⟨?_, ?_⟩
    · simp only [yI_sI]; rw [if_neg (by omega), if_neg (by omega), ge.2 6 0 13 (by omega)]
    · simp only [yI_sI]; rw [if_neg (by omega), if_neg (by omega), ge.2 6 0 14 (by omega)]
    · simp only [yI_sI]; rw [if_neg (by omega), if_neg (by omega), ge.2 181 0 q (by omega)]
    · simp only [yI_sI]; rw [if_neg (by omega), if_neg (by omega), ge.2 182 0 q (by omega)]
end
