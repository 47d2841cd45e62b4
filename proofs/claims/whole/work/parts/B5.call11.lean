/-! calls: sell -/
theorem cnt5 (f : Nat → Bool) : cntN f 5 = 0 ↔ ∀ i, i < 5 → f i = false := by
  have e : (cntN f 5 = 0) ↔ (f 0 = false ∧ f 1 = false ∧ f 2 = false ∧ f 3 = false ∧ f 4 = false) := by
    simp only [cntN]
    cases f 0 <;> cases f 1 <;> cases f 2 <;> cases f 3 <;> cases f 4 <;> decide
  rw [e]
  constructor
  · rintro ⟨a, b, c, d, g⟩ i hi
    rcases (show i = 0 ∨ i = 1 ∨ i = 2 ∨ i = 3 ∨ i = 4 by omega) with rfl | rfl | rfl | rfl | rfl <;> assumption
  · intro z
    exact ⟨z 0 (by omega), z 1 (by omega), z 2 (by omega), z 3 (by omega), z 4 (by omega)⟩
theorem cl_bs {w : Wd} {j c : Nat} (h6 : ∀ b, b < 5 → wI w 187 j b = wI w 136 0 (5 * j + b)) (hB : BdC c w j) (hc : c < 1000) (h38 : cn w 38 ≤ c) : ∀ n, n ≤ 5 → (bsN w j n = none → ∀ i, i < n → wI w 136 0 (5 * j + i) ≤ 0) ∧ ∀ q, bsN w j n = some q → clN w j n = q ∧ q < n ∧ ¬ wI w 136 0 (5 * j + q) ≤ 0
  | 0, _ => ⟨fun _ i hi => by omega, fun q hq => by cases hq⟩
  | n + 1, hn => by
    obtain ⟨i1, i2⟩ := cl_bs h6 hB hc h38 n (by omega)
    obtain ⟨T, t1, t2, x, y, t3⟩ := hB
    have hcl := clN_lt (w := w) (j := j) n
    have e1 : clN w j (n + 1) = if wI w 187 j (clN w j n) < wI w 187 j n ∨ (wI w 187 j n = wI w 187 j (clN w j n) ∧ wI w 188 j n < wI w 188 j (clN w j n)) then n else clN w j n := rfl
    have e2 : bsN w j (n + 1) = bsS w j n (bsN w j n) := rfl
    by_cases a : wI w 136 0 (5 * j + n) ≤ 0
    · have e3 : bsN w j (n + 1) = bsN w j n := by rw [e2]; unfold bsS; rw [if_pos a]
      rw [e3]
      refine ⟨fun z i hi => ?_, fun q hq => ?_⟩
      · by_cases zi : i = n
        · rw [zi]; exact a
        · exact i1 z i (by omega)
      · obtain ⟨r1, r2, r3⟩ := i2 q hq
        refine ⟨?_, by omega, r3⟩
        rw [e1, r1, if_neg]
        · rw [h6 q (by omega), h6 n (by omega)]
          rintro (z | ⟨z, -⟩)
          · exact r3 (Int32.le_trans (Int32.le_of_lt z) a)
          · exact r3 (by rw [← z]; exact a)
    · cases hb : bsN w j n with
      | none =>
        have e3 : bsN w j (n + 1) = some n := by rw [e2]; unfold bsS; rw [if_neg a, hb]
        rw [e3]
        refine ⟨fun z => (by cases z), fun q hq => ?_⟩
        cases hq
        refine ⟨?_, by omega, a⟩
        by_cases z0 : n = 0
        · subst z0; exact clN_1 w j
        · have hlt : clN w j n < n := by
            obtain ⟨m, rfl⟩ : ∃ m, n = m + 1 := ⟨n - 1, by omega⟩
            have := clN_s (w := w) (j := j) m
            omega
          rw [e1, if_pos]
          left
          rw [h6 _ (by omega), h6 n (by omega)]
          exact Int32.lt_of_le_of_lt (i1 hb _ hlt) (Int32.not_le.mp a)
      | some q =>
        obtain ⟨r1, r2, r3⟩ := i2 q hb
        obtain ⟨x1, x2, x3, x4, x5⟩ := t3 n (by omega) a
        obtain ⟨y1, y2, y3, y4, y5⟩ := t3 q (by omega) r3
        have e3 : bsN w j (n + 1) = if wI w 136 0 (5 * j + q) < wI w 136 0 (5 * j + n) then some n else if ¬ wI w 136 0 (5 * j + n) = wI w 136 0 (5 * j + q) then some q else if wI w 137 0 (5 * j + q) ≤ wI w 137 0 (5 * j + n) then some q else some n := by rw [e2]; unfold bsS; rw [if_neg a, hb]
        rw [r1, h6 q (by omega), h6 n (by omega), x1, y1] at e1
        rw [x2, y2] at e3
        have hx := x5 q (by omega) r3
        by_cases p1 : wI w 136 0 (5 * j + q) < wI w 136 0 (5 * j + n)
        · rw [if_pos p1] at e3
          rw [if_pos (Or.inl p1)] at e1
          rw [e3]
          refine ⟨fun z => (by cases z), fun q' hq => ?_⟩
          cases hq
          exact ⟨e1, by omega, a⟩
        · rw [if_neg p1] at e3
          by_cases p2 : wI w 136 0 (5 * j + n) = wI w 136 0 (5 * j + q)
          · rw [if_neg (fun z => z p2)] at e3
            by_cases p3 : nI (y q) ≤ nI (y n)
            · rw [if_pos p3] at e3
              rw [nI_leI (by omega) (by omega)] at p3
              rw [if_neg] at e1
              · rw [e3]
                refine ⟨fun z => (by cases z), fun q' hq => ?_⟩
                cases hq
                exact ⟨e1, by omega, r3⟩
              · rintro (z | ⟨-, z⟩)
                · exact p1 z
                · rw [nI_ltI (by omega) (by omega)] at z
                  omega
            · rw [if_neg p3] at e3
              rw [nI_leI (by omega) (by omega)] at p3
              rw [if_pos (Or.inr ⟨p2, (nI_ltI (by omega) (by omega)).mpr (by omega)⟩)] at e1
              rw [e3]
              refine ⟨fun z => (by cases z), fun q' hq => ?_⟩
              cases hq
              exact ⟨e1, by omega, a⟩
          · rw [if_pos p2] at e3
            rw [if_neg] at e1
            · rw [e3]
              refine ⟨fun z => (by cases z), fun q' hq => ?_⟩
              cases hq
              exact ⟨e1, by omega, r3⟩
            · rintro (z | ⟨z, -⟩)
              · exact p1 z
              · exact p2 z
theorem of_bs {w : Wd} {j c : Nat} (h6 : ∀ b, b < 5 → wI w 187 j b = wI w 136 0 (5 * j + b)) (hB : BdC c w j) (hc : c < 1000) (h38 : cn w 38 ≤ c) : cntN (ofF w j) 5 = 0 ↔ bsN w j 5 = none := by
  obtain ⟨i1, i2⟩ := cl_bs h6 hB hc h38 5 (by omega)
  rw [cnt5]
  constructor
  · intro z
    cases hb : bsN w j 5 with
    | none => rfl
    | some q =>
      obtain ⟨-, r2, r3⟩ := i2 q hb
      have := z q r2
      unfold ofF at this
      rw [h6 q r2] at this
      simp [r3] at this
  · intro z i hi
    unfold ofF
    rw [h6 i hi, decide_eq_true (i1 z i hi)]
    rfl
theorem ruE_close {w : Wd} {j : Nat} (h : LtS w j) : fsE_close [.inr (.inr (some (11, j)))] w = some (none, sI (sI w 11 j 7 (nI (clN w j 5))) 11 j 4 (wI w 187 j (clN w j 5))) := fsP_t h
section
variable {l : Launch} {G : Gc} {c : Nat} {w : Wd}
theorem sl_inv {j q : Nat} (h : Inv c w) (hj : j < cn w 17) (hq : q < 5) (hk : wI w 118 0 j = 0) (hs : wI w 128 0 j = -1) : Inv (c + 1) (slW (sI (sI w 11 j 7 (nI q)) 11 j 4 (wI w 187 j q)) j q) := by
  have hL := iv_L h hj
  obtain ⟨a1, a2, a3, a4, a5, a6, a7, a8, a9, b1, b2, b3, b4, b5, b6, b7, b8, b9, d1, d2, d3, d4, d5⟩ := hL.2.1
  have n230 : wI w 230 0 j = 0 := Classical.byContradiction fun z => (b9 z).2.2.2 hs
  have n134 : wI w 134 0 j = -1 := Classical.byContradiction fun z => d3 z n230
  have g : ∀ t k i, ¬ (t = 11 ∧ k = j ∧ (i = 7 ∨ i = 4)) → ¬ ((t = 128 ∨ t = 129) ∧ i = j) → wI (slW (sI (sI w 11 j 7 (nI q)) 11 j 4 (wI w 187 j q)) j q) t k i = wI w t k i := fun t k i n1 n2 => by
    unfold slW
    rw [yI_sI, if_neg (by omega), yI_sI, if_neg (by omega), yI_sI, if_neg (by omega), yI_sI, if_neg (by omega)]
  have hb := b6 q hq
  refine Inv_lot (w := w) (j := j) rfl (LtI_mk hL rfl (g _ _ _ (by omega) (by omega)) (g _ _ _ (by omega) (by omega)) ?_ (by rw [g _ _ _ (by omega) (by omega)]; exact hL.2.2.2.2.2.1) (fun z => absurd (by rw [g _ _ _ (by omega) (by omega)]; exact n134) z) (fun t k i ht => g t k i (by omega) (by omega))) (okc_cg (g _ _ _ (by omega) (by omega)) (up38 h)) (by rw [cn_cg (g 13 0 38 (by omega) (by omega))]; exact Nat.le_refl _) (fun t k i hn hn2 => ?_) h
  · unfold LtC slW
    refine ⟨?_, ?_, ?_, ?_, ?_, ?_, ?_, ?_, ?_, ?_, ?_, ?_, ?_, ?_, ?_, ?_, ?_, ?_, ?_, ?_, ?_, ?_, ?_⟩ <;> (try simp only [yI_sI, Nat.reduceEqDiff, Nat.reduceAdd, Nat.reduceMul, reduceCtorEq, false_and, and_false, true_and, and_true, if_false, if_true, ite_false, ite_true, ↓reduceIte, eq_self, and_self, or_true, true_or, not_true_eq_false, false_implies, implies_true]) <;> (try assumption)
    · exact fun _ => ⟨hb, hk⟩
    · exact fun z => absurd n230 z
  · exact g t k i (fun z => hn (by unfold LtK; omega)) (fun z => hn (by unfold LtK; omega))
set_option maxRecDepth 100000 in
set_option maxHeartbeats 4000000 in
theorem ca_sell (h : Inv c w) (hc : c < 1000) (v : Int32) : Cok l G c w mS_sell mM_sell [.inl v] := by
  have hS := iv_S h
  have hM := iv_M h
  have hl := iv_l h
  have hr := iv_r h
  have hy := iv_y h
  have h0 := iv_0 h
  obtain ⟨-, h3, h6, h17, hR, h63, h58, -⟩ := id hM
  refine ⟨18, by decide, Sem_of (by decide) rfl (Nat.le_of_ble_eq_true rfl) ?_⟩
  refine wpn_ok (M := mS_sell) (C := cenS) (X := (alk [(141, lvS_lotAt, fsS_lotAt), (217, lvE_isSold, fsE_isSold), (305, lvE_offers, fsE_offers), (308, lvE_close, fsE_close), (79, lvS_refuse, fsS_refuse)])) (tb := tS_sell) (st := []) eoS (XOk_cons qmS_141 (okS_lotAt l G) (XOk_cons qmS_217 (okE_isSold l G) (XOk_cons qmS_305 (okE_offers l G) (XOk_cons qmS_308 (okE_close l G) (XOk_cons qmS_79 (okS_refuse l G) XOk_nil))))) kS_sell 250 _ _ _ _ _ _ ?_
  cases h1 : inR v 0 (wI w 13 0 17 - 1)
  case false =>
    simp only [reduceCtorEq, fv0, fv1, fv2, fv3, bI_0, bI_1, bft, MSh_sI_eq, fsP_T, inL_0, inL_s, pad_0, pad_n, pad_s, wpn_s, wp1_s, lg_0, lg_s, lset_0, lset_s, kil_0, kil_s, st1_s, st2_s, isL_i, isL_l, isL_r, isL_n, spl_0, spl_s, cll_n, cll_s, catS_0, catS_s, jmp_s, alk_0, alk_s, otl_n, otl_s, List.nil_append, List.cons_append, List.contains_cons, List.contains_nil, Nat.reduceBEq, Bool.or_false, Bool.false_or, Bool.or_self, Bool.false_eq_true, Bool.true_or, Bool.or_true, if_true, if_false, ite_true, ite_false, ↓reduceIte, List.length_cons, List.length_nil, Nat.reduceAdd, Nat.reduceLT, Nat.reduceLeDiff, Nat.reduceEqDiff, Int.reduceAdd, Int.reduceLE, Int.toNat_natCast, Int.reduceToNat, Int.cast_ofNat_Int, true_and, and_true, false_and, and_false, true_implies, forall_const, eq_self, and_self, or_true, true_or, or_self, false_or, or_false, yI_sI, yR_sI, yC_sI, yN_sI, yI_sR, yR_sR, yC_sR, yN_sR, not_true_eq_false, not_false_eq_true, false_implies, implies_true, Nat.zero_add, Nat.add_zero, Nat.le_refl, Nat.reduceSub, Int.reduceSub, Int.reduceLT, Int.sub_zero, Int.sub_self, List.getElem?_toArray, List.getElem?_cons_zero, List.getElem?_cons_succ, Int.toNat_zero, Int.toNat_one, Int.lt_irrefl, yI_sB, yR_sB, yC_sB, yN_sB, MSh_sB_eq, pS_sell_0, stp_aload_n, pS_sell_1, stp_iload_n, pS_sell_2, stp_invokevirtual, qmS_141, cy_S_lotAt, ss_C0 hS, pS_sell_5, stp_astore_n, pS_sell_6, pS_sell_7, stp_ifnonnull, pS_sell_10, pS_sell_11, stp_bipush, pS_sell_13, qmS_79, cy_S_refuse, pS_sell_16, stp_ireturn, pS_sell_17, pS_sell_18, stp_getfield, qfS_145, rp_10_3, pS_sell_21, stp_ifCond_eq, pS_sell_24, pS_sell_25, pS_sell_27, pS_sell_30, pS_sell_31, pS_sell_32, qfS_186, rp_10_2, pS_sell_35, qmS_217, cy_E_isSold, pS_sell_38, pS_sell_41, pS_sell_42, pS_sell_44, pS_sell_47, pS_sell_48, pS_sell_49, pS_sell_52, qmS_305, cy_E_offers, pS_sell_55, stp_ifCond_ne, pS_sell_58, pS_sell_59, pS_sell_61, pS_sell_64, pS_sell_65, pS_sell_66, pS_sell_69, qmS_308, cy_E_close, pS_sell_72, pS_sell_73, pS_sell_76, qfS_190, rp_11_7, pS_sell_79, bp_m3, bp_m5, bp_m7, bp_m2, nv_S_sell, ml_S_sell, ruS_lotAt hl, h1, rfS_3 hS, lvS_lotAt, lvE_isSold, lvE_offers, lvE_close, lvS_refuse]
    refine Pst_rf (d := fun w => slD w v) (v := fun w => oI (bsN w v.toNatClampNeg 5)) (W := fun w => slW w v.toNatClampNeg ((bsN w v.toNatClampNeg 5).getD 0)) (okM_sell l G) (by decide) (fun _ => rfl) h (b := 3) (by decide) rfl ?_
    show slD w v = _
    simp only [slD, h1, if_true, if_false, ite_true, ite_false, ↓reduceIte, Bool.false_eq_true, Bool.true_eq_false, reduceCtorEq, not_true_eq_false, not_false_eq_true, eq_self]
    rfl
  case true =>
    obtain ⟨j, hj, ev⟩ := okc_in h17 (by omega) h1
    have ej : v.toNatClampNeg = j := by rw [ev]; exact nI_clamp (by have := h17.2; omega)
    obtain ⟨c10, c102, c11, -⟩ := (iv_L h hj).1
    have LC := (iv_L h hj).2.1
    have e3 := LC.2.2.1
    have e8 := LC.2.2.2.2.2.2.2.2.2.2.1
    have e6 := LC.2.2.2.2.2.2.2.2.2.2.2.2.2.2.1
    have bs := of_bs e6 (iv_L h hj).2.2.1 hc (iv_T h).2.2
    have cb := (cl_bs e6 (iv_L h hj).2.2.1 hc (iv_T h).2.2 5 (by omega)).2
    by_cases h4 : wI w 118 0 j = 0
    case neg =>
      simp only [reduceCtorEq, fv0, fv1, fv2, fv3, bI_0, bI_1, bft, MSh_sI_eq, fsP_T, inL_0, inL_s, pad_0, pad_n, pad_s, wpn_s, wp1_s, lg_0, lg_s, lset_0, lset_s, kil_0, kil_s, st1_s, st2_s, isL_i, isL_l, isL_r, isL_n, spl_0, spl_s, cll_n, cll_s, catS_0, catS_s, jmp_s, alk_0, alk_s, otl_n, otl_s, List.nil_append, List.cons_append, List.contains_cons, List.contains_nil, Nat.reduceBEq, Bool.or_false, Bool.false_or, Bool.or_self, Bool.false_eq_true, Bool.true_or, Bool.or_true, if_true, if_false, ite_true, ite_false, ↓reduceIte, List.length_cons, List.length_nil, Nat.reduceAdd, Nat.reduceLT, Nat.reduceLeDiff, Nat.reduceEqDiff, Int.reduceAdd, Int.reduceLE, Int.toNat_natCast, Int.reduceToNat, Int.cast_ofNat_Int, true_and, and_true, false_and, and_false, true_implies, forall_const, eq_self, and_self, or_true, true_or, or_self, false_or, or_false, yI_sI, yR_sI, yC_sI, yN_sI, yI_sR, yR_sR, yC_sR, yN_sR, not_true_eq_false, not_false_eq_true, false_implies, implies_true, Nat.zero_add, Nat.add_zero, Nat.le_refl, Nat.reduceSub, Int.reduceSub, Int.reduceLT, Int.sub_zero, Int.sub_self, List.getElem?_toArray, List.getElem?_cons_zero, List.getElem?_cons_succ, Int.toNat_zero, Int.toNat_one, Int.lt_irrefl, yI_sB, yR_sB, yC_sB, yN_sB, MSh_sB_eq, pS_sell_0, stp_aload_n, pS_sell_1, stp_iload_n, pS_sell_2, stp_invokevirtual, qmS_141, cy_S_lotAt, ss_C0 hS, pS_sell_5, stp_astore_n, pS_sell_6, pS_sell_7, stp_ifnonnull, pS_sell_10, pS_sell_11, stp_bipush, pS_sell_13, qmS_79, cy_S_refuse, pS_sell_16, stp_ireturn, pS_sell_17, pS_sell_18, stp_getfield, qfS_145, rp_10_3, pS_sell_21, stp_ifCond_eq, pS_sell_24, pS_sell_25, pS_sell_27, pS_sell_30, pS_sell_31, pS_sell_32, qfS_186, rp_10_2, pS_sell_35, qmS_217, cy_E_isSold, pS_sell_38, pS_sell_41, pS_sell_42, pS_sell_44, pS_sell_47, pS_sell_48, pS_sell_49, pS_sell_52, qmS_305, cy_E_offers, pS_sell_55, stp_ifCond_ne, pS_sell_58, pS_sell_59, pS_sell_61, pS_sell_64, pS_sell_65, pS_sell_66, pS_sell_69, qmS_308, cy_E_close, pS_sell_72, pS_sell_73, pS_sell_76, qfS_190, rp_11_7, pS_sell_79, bp_m3, bp_m5, bp_m7, bp_m2, nv_S_sell, ml_S_sell, ruS_lotAt hl, c10, e3, h1, ej, h4, rfS_5 hS, lvS_lotAt, lvE_isSold, lvE_offers, lvE_close, lvS_refuse]
      refine Pst_rf (d := fun w => slD w v) (v := fun w => oI (bsN w v.toNatClampNeg 5)) (W := fun w => slW w v.toNatClampNeg ((bsN w v.toNatClampNeg 5).getD 0)) (okM_sell l G) (by decide) (fun _ => rfl) h (b := 5) (by decide) rfl ?_
      show slD w v = _
      simp only [slD, h1, ej, h4, if_true, if_false, ite_true, ite_false, ↓reduceIte, Bool.false_eq_true, Bool.true_eq_false, reduceCtorEq, not_true_eq_false, not_false_eq_true, eq_self]
      rfl
    case pos =>
      by_cases h8 : wI w 128 0 j = -1
      case neg =>
        skip
        all_goals
          simp only [reduceCtorEq, fv0, fv1, fv2, fv3, bI_0, bI_1, bft, MSh_sI_eq, fsP_T, inL_0, inL_s, pad_0, pad_n, pad_s, wpn_s, wp1_s, lg_0, lg_s, lset_0, lset_s, kil_0, kil_s, st1_s, st2_s, isL_i, isL_l, isL_r, isL_n, spl_0, spl_s, cll_n, cll_s, catS_0, catS_s, jmp_s, alk_0, alk_s, otl_n, otl_s, List.nil_append, List.cons_append, List.contains_cons, List.contains_nil, Nat.reduceBEq, Bool.or_false, Bool.false_or, Bool.or_self, Bool.false_eq_true, Bool.true_or, Bool.or_true, if_true, if_false, ite_true, ite_false, ↓reduceIte, List.length_cons, List.length_nil, Nat.reduceAdd, Nat.reduceLT, Nat.reduceLeDiff, Nat.reduceEqDiff, Int.reduceAdd, Int.reduceLE, Int.toNat_natCast, Int.reduceToNat, Int.cast_ofNat_Int, true_and, and_true, false_and, and_false, true_implies, forall_const, eq_self, and_self, or_true, true_or, or_self, false_or, or_false, yI_sI, yR_sI, yC_sI, yN_sI, yI_sR, yR_sR, yC_sR, yN_sR, not_true_eq_false, not_false_eq_true, false_implies, implies_true, Nat.zero_add, Nat.add_zero, Nat.le_refl, Nat.reduceSub, Int.reduceSub, Int.reduceLT, Int.sub_zero, Int.sub_self, List.getElem?_toArray, List.getElem?_cons_zero, List.getElem?_cons_succ, Int.toNat_zero, Int.toNat_one, Int.lt_irrefl, yI_sB, yR_sB, yC_sB, yN_sB, MSh_sB_eq, pS_sell_0, stp_aload_n, pS_sell_1, stp_iload_n, pS_sell_2, stp_invokevirtual, qmS_141, cy_S_lotAt, ss_C0 hS, pS_sell_5, stp_astore_n, pS_sell_6, pS_sell_7, stp_ifnonnull, pS_sell_10, pS_sell_11, stp_bipush, pS_sell_13, qmS_79, cy_S_refuse, pS_sell_16, stp_ireturn, pS_sell_17, pS_sell_18, stp_getfield, qfS_145, rp_10_3, pS_sell_21, stp_ifCond_eq, pS_sell_24, pS_sell_25, pS_sell_27, pS_sell_30, pS_sell_31, pS_sell_32, qfS_186, rp_10_2, pS_sell_35, qmS_217, cy_E_isSold, pS_sell_38, pS_sell_41, pS_sell_42, pS_sell_44, pS_sell_47, pS_sell_48, pS_sell_49, pS_sell_52, qmS_305, cy_E_offers, pS_sell_55, stp_ifCond_ne, pS_sell_58, pS_sell_59, pS_sell_61, pS_sell_64, pS_sell_65, pS_sell_66, pS_sell_69, qmS_308, cy_E_close, pS_sell_72, pS_sell_73, pS_sell_76, qfS_190, rp_11_7, pS_sell_79, bp_m3, bp_m5, bp_m7, bp_m2, nv_S_sell, ml_S_sell, ruS_lotAt hl, c10, e3, c102, c11, ruE_sold c11, e8, h1, ej, h4, h8, decide_false, Bool.not_false, show ¬ (1 : Int32) = 0 by decide, rfS_7 hS, lvS_lotAt, lvE_isSold, lvE_offers, lvE_close, lvS_refuse]
          refine Pst_rf (d := fun w => slD w v) (v := fun w => oI (bsN w v.toNatClampNeg 5)) (W := fun w => slW w v.toNatClampNeg ((bsN w v.toNatClampNeg 5).getD 0)) (okM_sell l G) (by decide) (fun _ => rfl) h (b := 7) (by decide) rfl ?_
          show slD w v = _
          simp only [slD, h1, ej, h4, h8, if_true, if_false, ite_true, ite_false, ↓reduceIte, Bool.false_eq_true, Bool.true_eq_false, reduceCtorEq, not_true_eq_false, not_false_eq_true, eq_self]
          rfl
      case pos =>
        by_cases h9 : bsN w j 5 = none
        case pos =>
          have n5 := bs.mpr h9
          all_goals
            simp only [reduceCtorEq, fv0, fv1, fv2, fv3, bI_0, bI_1, bft, MSh_sI_eq, fsP_T, inL_0, inL_s, pad_0, pad_n, pad_s, wpn_s, wp1_s, lg_0, lg_s, lset_0, lset_s, kil_0, kil_s, st1_s, st2_s, isL_i, isL_l, isL_r, isL_n, spl_0, spl_s, cll_n, cll_s, catS_0, catS_s, jmp_s, alk_0, alk_s, otl_n, otl_s, List.nil_append, List.cons_append, List.contains_cons, List.contains_nil, Nat.reduceBEq, Bool.or_false, Bool.false_or, Bool.or_self, Bool.false_eq_true, Bool.true_or, Bool.or_true, if_true, if_false, ite_true, ite_false, ↓reduceIte, List.length_cons, List.length_nil, Nat.reduceAdd, Nat.reduceLT, Nat.reduceLeDiff, Nat.reduceEqDiff, Int.reduceAdd, Int.reduceLE, Int.toNat_natCast, Int.reduceToNat, Int.cast_ofNat_Int, true_and, and_true, false_and, and_false, true_implies, forall_const, eq_self, and_self, or_true, true_or, or_self, false_or, or_false, yI_sI, yR_sI, yC_sI, yN_sI, yI_sR, yR_sR, yC_sR, yN_sR, not_true_eq_false, not_false_eq_true, false_implies, implies_true, Nat.zero_add, Nat.add_zero, Nat.le_refl, Nat.reduceSub, Int.reduceSub, Int.reduceLT, Int.sub_zero, Int.sub_self, List.getElem?_toArray, List.getElem?_cons_zero, List.getElem?_cons_succ, Int.toNat_zero, Int.toNat_one, Int.lt_irrefl, yI_sB, yR_sB, yC_sB, yN_sB, MSh_sB_eq, pS_sell_0, stp_aload_n, pS_sell_1, stp_iload_n, pS_sell_2, stp_invokevirtual, qmS_141, cy_S_lotAt, ss_C0 hS, pS_sell_5, stp_astore_n, pS_sell_6, pS_sell_7, stp_ifnonnull, pS_sell_10, pS_sell_11, stp_bipush, pS_sell_13, qmS_79, cy_S_refuse, pS_sell_16, stp_ireturn, pS_sell_17, pS_sell_18, stp_getfield, qfS_145, rp_10_3, pS_sell_21, stp_ifCond_eq, pS_sell_24, pS_sell_25, pS_sell_27, pS_sell_30, pS_sell_31, pS_sell_32, qfS_186, rp_10_2, pS_sell_35, qmS_217, cy_E_isSold, pS_sell_38, pS_sell_41, pS_sell_42, pS_sell_44, pS_sell_47, pS_sell_48, pS_sell_49, pS_sell_52, qmS_305, cy_E_offers, pS_sell_55, stp_ifCond_ne, pS_sell_58, pS_sell_59, pS_sell_61, pS_sell_64, pS_sell_65, pS_sell_66, pS_sell_69, qmS_308, cy_E_close, pS_sell_72, pS_sell_73, pS_sell_76, qfS_190, rp_11_7, pS_sell_79, bp_m3, bp_m5, bp_m7, bp_m2, nv_S_sell, ml_S_sell, ruS_lotAt hl, c10, e3, c102, c11, ruE_sold c11, e8, ruE_offers (iv_L h hj).1, decide_true, Bool.not_true, h1, ej, h4, h8, h9, n5, rfS_2 hS, lvS_lotAt, lvE_isSold, lvE_offers, lvE_close, lvS_refuse]
            refine Pst_rf (d := fun w => slD w v) (v := fun w => oI (bsN w v.toNatClampNeg 5)) (W := fun w => slW w v.toNatClampNeg ((bsN w v.toNatClampNeg 5).getD 0)) (okM_sell l G) (by decide) (fun _ => rfl) h (b := 2) (by decide) rfl ?_
            show slD w v = _
            simp only [slD, h1, ej, h4, h8, h9, if_true, if_false, ite_true, ite_false, ↓reduceIte, Bool.false_eq_true, Bool.true_eq_false, reduceCtorEq, not_true_eq_false, not_false_eq_true, eq_self]
            rfl
        case neg =>
          obtain ⟨q, hq⟩ : ∃ q, bsN w j 5 = some q := Option.ne_none_iff_exists'.mp h9
          obtain ⟨q1, q2, q3⟩ := cb q hq
          have n5 : ¬ cntN (ofF w j) 5 = 0 := fun z => h9 (bs.mp z)
          have rc := ruE_close (iv_L h hj).1
          rw [q1] at rc
          simp only [reduceCtorEq, fv0, fv1, fv2, fv3, bI_0, bI_1, bft, MSh_sI_eq, fsP_T, inL_0, inL_s, pad_0, pad_n, pad_s, wpn_s, wp1_s, lg_0, lg_s, lset_0, lset_s, kil_0, kil_s, st1_s, st2_s, isL_i, isL_l, isL_r, isL_n, spl_0, spl_s, cll_n, cll_s, catS_0, catS_s, jmp_s, alk_0, alk_s, otl_n, otl_s, List.nil_append, List.cons_append, List.contains_cons, List.contains_nil, Nat.reduceBEq, Bool.or_false, Bool.false_or, Bool.or_self, Bool.false_eq_true, Bool.true_or, Bool.or_true, if_true, if_false, ite_true, ite_false, ↓reduceIte, List.length_cons, List.length_nil, Nat.reduceAdd, Nat.reduceLT, Nat.reduceLeDiff, Nat.reduceEqDiff, Int.reduceAdd, Int.reduceLE, Int.toNat_natCast, Int.reduceToNat, Int.cast_ofNat_Int, true_and, and_true, false_and, and_false, true_implies, forall_const, eq_self, and_self, or_true, true_or, or_self, false_or, or_false, yI_sI, yR_sI, yC_sI, yN_sI, yI_sR, yR_sR, yC_sR, yN_sR, not_true_eq_false, not_false_eq_true, false_implies, implies_true, Nat.zero_add, Nat.add_zero, Nat.le_refl, Nat.reduceSub, Int.reduceSub, Int.reduceLT, Int.sub_zero, Int.sub_self, List.getElem?_toArray, List.getElem?_cons_zero, List.getElem?_cons_succ, Int.toNat_zero, Int.toNat_one, Int.lt_irrefl, yI_sB, yR_sB, yC_sB, yN_sB, MSh_sB_eq, pS_sell_0, stp_aload_n, pS_sell_1, stp_iload_n, pS_sell_2, stp_invokevirtual, qmS_141, cy_S_lotAt, ss_C0 hS, pS_sell_5, stp_astore_n, pS_sell_6, pS_sell_7, stp_ifnonnull, pS_sell_10, pS_sell_11, stp_bipush, pS_sell_13, qmS_79, cy_S_refuse, pS_sell_16, stp_ireturn, pS_sell_17, pS_sell_18, stp_getfield, qfS_145, rp_10_3, pS_sell_21, stp_ifCond_eq, pS_sell_24, pS_sell_25, pS_sell_27, pS_sell_30, pS_sell_31, pS_sell_32, qfS_186, rp_10_2, pS_sell_35, qmS_217, cy_E_isSold, pS_sell_38, pS_sell_41, pS_sell_42, pS_sell_44, pS_sell_47, pS_sell_48, pS_sell_49, pS_sell_52, qmS_305, cy_E_offers, pS_sell_55, stp_ifCond_ne, pS_sell_58, pS_sell_59, pS_sell_61, pS_sell_64, pS_sell_65, pS_sell_66, pS_sell_69, qmS_308, cy_E_close, pS_sell_72, pS_sell_73, pS_sell_76, qfS_190, rp_11_7, pS_sell_79, bp_m3, bp_m5, bp_m7, bp_m2, nv_S_sell, ml_S_sell, ruS_lotAt hl, c10, e3, c102, c11, ruE_sold c11, e8, ruE_offers (iv_L h hj).1, decide_true, Bool.not_true, h1, ej, h4, h8, h9, n5, rc, lvS_lotAt, lvE_isSold, lvE_offers, lvE_close, lvS_refuse]
          exact Pst_ok2 (d := fun w => slD w v) (v := fun w => oI (bsN w v.toNatClampNeg 5)) (W := fun w => slW w v.toNatClampNeg ((bsN w v.toNatClampNeg 5).getD 0)) (okM_sell l G) (by decide) (fun _ => rfl) (fun _ => rfl) (fun _ => rfl) ((msk_sI rfl).trans (msk_sI rfl)) hM (by simp only [slD, h1, ej, h4, h8, h9, if_true, if_false, ite_true, ite_false, ↓reduceIte, Bool.false_eq_true, Bool.true_eq_false, reduceCtorEq, not_true_eq_false, not_false_eq_true, eq_self]) (by rw [ej, hq]; rfl) (by rw [ej, show bsN (sI (sI w 11 j 7 (nI q)) 11 j 4 (wI w 187 j q)) j 5 = bsN w j 5 from mskE (f := fun w => bsN w j 5) (fun _ => rfl) ((msk_sI rfl).trans (msk_sI rfl)), hq]; exact sl_inv h hj q2 h4 h8)
end
