/-! calls: place -/
def mtP (D : Nat → Nat → Nat) (s : Nat) : Nat → Nat → Nat := fun i j => if i < s ∧ j < s then D i j else if i = j then 0 else 1000000
theorem Mtr_pl {g : Gf} {s : Nat} {D : Nat → Nat → Nat} (hg : gfOk g s) (h : Mtr g s D) : Mtr g (s + 1) (mtP D s) := by
  obtain ⟨h1, h2, h3, h4, h5⟩ := h
  have e1 : ∀ i j, i < s → j < s → mtP D s i j = D i j := fun i j hi hj => if_pos ⟨hi, hj⟩
  have e2 : ∀ i, mtP D s s i = if s = i then 0 else 1000000 := fun i => if_neg (by omega)
  have e3 : ∀ i, mtP D s i s = if i = s then 0 else 1000000 := fun i => if_neg (by omega)
  have ss : mtP D s s s = 0 := by rw [e2, if_pos rfl]
  have si : ∀ i, i < s → mtP D s s i = 1000000 := fun i hi => by rw [e2, if_neg (by omega)]
  have is : ∀ i, i < s → mtP D s i s = 1000000 := fun i hi => by rw [e3, if_neg (by omega)]
  refine ⟨fun i hi => ?_, fun i j hi hj => ?_, fun i j k hi hj hk => ?_, fun k hk => ?_, fun i j hi hj hlt => ?_⟩
  · by_cases c : i < s
    · rw [e1 i i c c]; exact h1 i c
    · rw [show i = s by omega]; exact ss
  · unfold mtP
    by_cases c : i < s ∧ j < s
    · rw [if_pos c]; exact h2 i j c.1 c.2
    · rw [if_neg c]
      by_cases d : i = j
      · rw [if_pos d]; omega
      · rw [if_neg d]; omega
  · by_cases ci : i < s
    · by_cases cj : j < s
      · by_cases ck : k < s
        · rw [e1 i j ci cj, e1 i k ci ck, e1 k j ck cj]; exact h3 i j k ci cj ck
        · rw [show k = s by omega, e1 i j ci cj, is i ci]
          have := h2 i j ci cj
          omega
      · rw [show j = s by omega, is i ci]
        by_cases ck : k < s
        · rw [is k ck]; omega
        · rw [show k = s by omega, is i ci]; omega
    · rw [show i = s by omega]
      by_cases cj : j < s
      · rw [si j cj]
        by_cases ck : k < s
        · rw [si k ck]; omega
        · rw [show k = s by omega, si j cj]; omega
      · rw [show j = s by omega, ss]; omega
  · obtain ⟨g1, g2, -⟩ := hg k hk
    rw [e1 _ _ g1 g2, e1 _ _ g2 g1]; exact h4 k hk
  · by_cases ci : i < s
    · by_cases cj : j < s
      · rw [e1 i j ci cj] at hlt ⊢; exact h5 i j ci cj hlt
      · rw [show j = s by omega, is i ci] at hlt; omega
    · by_cases cj : j < s
      · rw [show i = s by omega, si j cj] at hlt; omega
      · rw [show i = s by omega, show j = s by omega, ss]; exact ⟨0, rfl, rfl⟩
section
variable {l : Launch} {G : Gc} {c : Nat} {w : Wd}
theorem pl_inv {s : Nat} {k : Int32} (h : Inv c w) (es : s = cn w 3) (hs : s < 14) : Inv (c + 1) (plW (apW w s k) k) := by
  have h3 := (iv_M h).2.1
  have w3 : wI w 13 0 3 = nI s := by rw [es]; exact h3.1
  have ea : ∀ t p q, wI (apW w s k) t p q = if t = 1 ∧ p = 0 ∧ q = 4 then nI (s + 1) else if t = 173 ∧ (p = s ∧ q < s ∨ q = s ∧ p < s) then 1000000 else if t = 171 ∧ p = 0 ∧ q = s then k else wI w t p q := fun t p q => by
    unfold apW
    rw [yI_sI, apU_I, yI_sI]
  have ec : cn (apW w s k) 3 = s := by rw [cn, ea, if_neg (by omega), if_neg (by omega), if_neg (by omega), w3]; exact nI_clamp (by omega)
  have e : ∀ t p q, wI (plW (apW w s k) k) t p q = if t = 13 ∧ p = 0 ∧ q = 3 then nI (s + 1) else if t = 105 ∧ p = 0 ∧ q = s then 0 else if t = 104 ∧ p = 0 ∧ q = s then k else wI (apW w s k) t p q := fun t p q => by
    unfold plW
    rw [ec, yI_sI, yI_sI, yI_sI, ea 13 0 3, if_neg (show ¬ (13 = 1 ∧ 0 = 0 ∧ 3 = 4) by omega), if_neg (show ¬ (13 = 173 ∧ (0 = s ∧ 3 < s ∨ 3 = s ∧ 0 < s)) by omega), if_neg (show ¬ (13 = 171 ∧ 0 = 0 ∧ 3 = s) by omega), w3, nI_1]
  have h2 : (plW (apW w s k) k).2 = w.2 := rfl
  revert e h2
  generalize plW (apW w s k) k = w'
  intro e h2
  have g : ∀ t p q, ¬ ((t = 13 ∧ q = 3) ∨ ((t = 104 ∨ t = 105 ∨ t = 171) ∧ q = s) ∨ (t = 1 ∧ q = 4) ∨ (t = 173 ∧ ((p = s ∧ q < s) ∨ (q = s ∧ p < s)))) → wI w' t p q = wI w t p q := fun t p q n => by
    rw [e, if_neg (by omega), if_neg (by omega), if_neg (by omega), ea, if_neg (by omega), if_neg (by omega), if_neg (by omega)]
  have f3 : wI w' 13 0 3 = nI (s + 1) := by rw [e, if_pos ⟨rfl, rfl, rfl⟩]
  have c3 : cn w' 3 = s + 1 := by rw [cn, f3]; exact nI_clamp (by omega)
  have hM := MSh_of (iv_M h).1 h2
  have m17 := cn_cg (w := w) (w' := w') (g 13 0 17 (by omega))
  have m38 := cn_cg (w := w) (w' := w') (g 13 0 38 (by omega))
  have m6 := cn_cg (w := w) (w' := w') (g 13 0 6 (by omega))
  have o3 : okc w' 3 14 := ⟨by rw [c3, f3], by omega⟩
  have eg : grf w' = grf w := grf_cg fun t p q ht => g t p q (by omega)
  refine ⟨SSh_of (iv_S h) h2, ?_, ?_, IvN_cg h2 (g _ _ _ (by omega)) (g _ _ _ (by omega)) (iv_N h), IvQ_cg h2 (iv_M h).2.2.2.2.1 (fun t k i ht => g t k i (by omega)) (iv_Q h), fun j hj => LtI_cg (Exw_2 h2) (Nat.le_succ c) (by omega) (by omega) (fun t k i ht => g t k i (by omega)) (iv_L h (by omega)), ?_, IvE_cg (Exw_2 h2) (Nat.le_succ c) (fun t k i ht => g t k i (by omega)) (iv_E h), IvP_cg (fun t k i ht => g t k i (by omega)) (iv_P h), IvW_cg (fun t k i ht => g t k i (by omega)) (iv_W h), IvT_cg (Nat.le_succ c) (g _ _ _ (by omega)) (g _ _ _ (by omega)) (iv_T h), IvK_cg (g _ _ _ (by omega)) (fun i => g _ _ _ (by omega)) (iv_K h)⟩
  · obtain ⟨-, q3, q6, q17, qR, q63, q58, q123, q67, q47⟩ := iv_M h
    refine ⟨hM, o3, okc_cg (g _ _ _ (by omega)) q6, okc_cg (g _ _ _ (by omega)) q17, ⟨okc_cg (g _ _ _ (by omega)) qR.1, fun r hr => ?_⟩, okc_cg (g _ _ _ (by omega)) q63, okc_cg (g _ _ _ (by omega)) q58, fun j hj => ?_, okc_cg (g _ _ _ (by omega)) q67, ?_⟩
    · rw [cn_cg (g _ _ _ (by omega))] at hr
      unfold cnT
      rw [g _ _ _ (by omega)]
      exact qR.2 r hr
    · rw [m17] at hj
      rw [c3, g _ _ _ (by omega)]
      exact (q123 j hj).imp id fun ⟨p, p1, p2⟩ => ⟨p, by omega, p2⟩
    · rcases q47 with q | q
      · exact Or.inl (by rw [g _ _ _ (by omega)]; exact q)
      · exact Or.inr (okc_cg (g _ _ _ (by omega)) q)
  · obtain ⟨c1, c2, c3', c4, c5, c6, c7, c8⟩ := iv_0 h
    have m58 := cn_cg (w := w) (w' := w') (g 13 0 58 (by omega))
    have m63 := cn_cg (w := w) (w' := w') (g 13 0 63 (by omega))
    refine ⟨?_, ?_, ?_, ?_, fun b hb => ?_, fun p hp => ?_, fun i hi => ?_, fun i hi => ?_⟩
    · rw [g _ _ _ (by omega), g _ _ _ (by omega)]; exact c1
    · rw [f3, e, if_neg (by omega), if_neg (by omega), if_neg (by omega), ea, if_pos ⟨rfl, rfl, rfl⟩]
    · rw [g _ _ _ (by omega), g _ _ _ (by omega)]; exact c3'
    · rw [g _ _ _ (by omega), g _ _ _ (by omega)]; exact c4
    · rw [g _ _ _ (by omega), g _ _ _ (by omega)]; exact c5 b hb
    · rw [c3] at hp
      by_cases z : p = s
      · rw [z]
        refine ⟨?_, ?_⟩
        · rw [e, if_neg (by omega), if_neg (by omega), if_neg (by omega), ea, if_neg (by omega), if_neg (by omega), if_pos ⟨rfl, rfl, rfl⟩, e, if_neg (by omega), if_neg (by omega), if_pos ⟨rfl, rfl, rfl⟩]
        · rw [g 172 _ _ (by omega), e, if_neg (by omega), if_pos ⟨rfl, rfl, rfl⟩]
          exact ((iv_Y h).2.2 s (by omega) hs).1
      · rw [g _ _ _ (by omega), g _ _ _ (by omega), g _ _ _ (by omega), g _ _ _ (by omega)]; exact c6 p (by omega)
    · rw [m58] at hi; rw [g _ _ _ (by omega), g _ _ _ (by omega)]; exact c7 i hi
    · rw [m63] at hi; rw [g _ _ _ (by omega), g _ _ _ (by omega), g _ _ _ (by omega), g _ _ _ (by omega)]; exact c8 i hi
  · obtain ⟨y1, ⟨⟨-, k3, k6, kA, kg, kD⟩, y2⟩, y3⟩ := iv_Y h
    rw [← es] at kg kD y2
    have mt : Mtr (grf w) s (dsM w) := by
      unfold dsM
      rw [← es]
      exact dst_ok kD
    have mt' := Mtr_pl kg mt
    have kg' : gfOk (grf w) (s + 1) := fun k hk => by
      obtain ⟨g1, g2, g3⟩ := kg k hk
      exact ⟨by omega, by omega, g3⟩
    refine ⟨fun k hk => ?_, ⟨⟨hM, o3, okc_cg (g _ _ _ (by omega)) k6, fun k hk => ?_, by rw [eg, c3]; exact kg', by rw [eg, c3]; exact ⟨_, mt'⟩⟩, fun i j hi hj => ?_⟩, fun p hp hp2 => ?_⟩
    · rw [m6] at hk
      obtain ⟨q1, q2, q3, q4⟩ := y1 k hk
      rw [g 9 _ _ (by omega), g 9 _ _ (by omega), g 9 _ _ (by omega), g 107 _ _ (by omega), g 108 _ _ (by omega), g 109 _ _ (by omega)]
      exact ⟨AlS_e (Exw_2 h2) q1, q2, q3, q4⟩
    · rw [m6] at hk
      rw [eg, g _ _ _ (by omega), g _ _ _ (by omega), g _ _ _ (by omega)]
      exact kA k hk
    · rw [c3] at hi hj
      unfold dsM
      rw [eg, c3, dst_is kg' mt' i j hi hj]
      unfold mtP
      by_cases z : i < s ∧ j < s
      · rw [if_pos z, g _ _ _ (by omega)]; exact y2 i j z.1 z.2
      · rw [if_neg z]
        by_cases z2 : i = j
        · rw [if_pos z2, g _ _ _ (by omega), ← z2, show i = s by omega]
          exact (y3 s (by omega) hs).2
        · rw [if_neg z2, e, if_neg (by omega), if_neg (by omega), if_neg (by omega), ea, if_neg (by omega), if_pos (by omega)]
          rfl
    · rw [c3] at hp
      rw [g _ _ _ (by omega), g _ _ _ (by omega)]
      exact y3 p (by omega) hp2
set_option maxRecDepth 100000 in
set_option maxHeartbeats 4000000 in
theorem ca_place (h : Inv c w) (k : Int32) : Cok l G c w mS_place mM_place [.inl k] := by
  have hS := iv_S h
  have hM := iv_M h
  have h3 := hM.2.1
  have rf : ∀ b : Nat, 0 < b ∧ b < 9 → dM_place w k = -nI b → Pst l G c mM_place [.inl k] (some (.inl (-nI b))) (rfs w b) := fun b hb hd => by
    refine Pst_rf (d := fun w => dM_place w k) (v := fun w => wI w 13 0 3) (W := fun w => plW w k) (okM_place l G) (by decide) (fun _ => rfl) h (b := b) hb rfl ?_
    show dM_place w k = _
    exact hd
  have e4 : wI w 1 0 4 = nI (cn w 3) := (iv_0 h).2.1.trans h3.1
  refine ⟨18, by decide, Sem_of (by decide) rfl (Nat.le_of_ble_eq_true rfl) ?_⟩
  refine wpn_ok (M := mS_place) (C := cenS) (X := (alk [(75, lvS_within, fsS_within), (86, lvY_addPlace, fsY_addPlace), (79, lvS_refuse, fsS_refuse)])) (tb := tS_place) (st := []) eoS (XOk_cons qmS_75 (okS_within l G) (XOk_cons qmS_86 (okY_addPlace l G) (XOk_cons qmS_79 (okS_refuse l G) XOk_nil))) kS_place 60 _ _ _ _ _ _ ?_
  cases h1 : inR k 0 3 with
  | false =>
    simp only [reduceCtorEq, fv0, fv1, fv2, fv3, bI_0, bI_1, bft, MSh_sI_eq, fsP_T, inL_0, inL_s, pad_0, pad_n, pad_s, wpn_s, wp1_s, lg_0, lg_s, lset_0, lset_s, kil_0, kil_s, st1_s, st2_s, isL_i, isL_l, isL_r, isL_n, spl_0, spl_s, cll_n, cll_s, catS_0, catS_s, jmp_s, alk_0, alk_s, otl_n, otl_s, List.nil_append, List.cons_append, List.contains_cons, List.contains_nil, Nat.reduceBEq, Bool.or_false, Bool.false_or, Bool.or_self, Bool.false_eq_true, Bool.true_or, Bool.or_true, if_true, if_false, ite_true, ite_false, ↓reduceIte, List.length_cons, List.length_nil, Nat.reduceAdd, Nat.reduceLT, Nat.reduceLeDiff, Nat.reduceEqDiff, Int.reduceAdd, Int.reduceLE, Int.toNat_natCast, Int.reduceToNat, Int.cast_ofNat_Int, true_and, and_true, false_and, and_false, true_implies, forall_const, eq_self, and_self, or_true, true_or, or_self, false_or, or_false, yI_sI, yR_sI, yC_sI, yN_sI, yI_sR, yR_sR, yC_sR, yN_sR, not_true_eq_false, not_false_eq_true, false_implies, implies_true, Nat.zero_add, Nat.add_zero, Nat.le_refl, Nat.reduceSub, Int.reduceSub, Int.reduceLT, Int.sub_zero, Int.sub_self, List.getElem?_toArray, List.getElem?_cons_zero, List.getElem?_cons_succ, Int.toNat_zero, Int.toNat_one, Int.lt_irrefl, yI_sB, yR_sB, yC_sB, yN_sB, MSh_sB_eq, pS_place_0, stp_iload_n, pS_place_1, stp_iconst, pS_place_2, pS_place_3, stp_invokestatic, qmS_75, cy_S_within, pS_place_6, stp_ifCond_ne, pS_place_9, stp_aload_n, pS_place_10, stp_bipush, pS_place_12, stp_invokevirtual, qmS_79, cy_S_refuse, ss_C0 hS, pS_place_15, stp_ireturn, pS_place_16, pS_place_17, stp_getfield, qfS_12, rp_0_0, ss_R0_0 hS, ss_C1 hS, pS_place_20, qfS_83, rp_1_4, pS_place_23, pS_place_25, stp_if_icmp_lt, pS_place_28, pS_place_29, pS_place_31, pS_place_34, pS_place_35, pS_place_36, pS_place_39, pS_place_40, qmS_86, cy_Y_addPlace, pS_place_43, ic_0, ic_3, bp_m7, bp_14, bp_m8, nv_S_place, ml_S_place, fsS_within, h1, rfS_7 hS, lvS_within, lvS_refuse, lvY_addPlace]
    exact rf 7 (by decide) (by simp only [dM_place, h1, if_true]; rfl)
  | true =>
    by_cases h2 : wI w 13 0 3 = 14
    · have e14 : wI w 1 0 4 = 14 := (iv_0 h).2.1.trans h2
      have q : ¬ (14 : Int32) < 14 := by decide
      simp only [reduceCtorEq, fv0, fv1, fv2, fv3, bI_0, bI_1, bft, MSh_sI_eq, fsP_T, inL_0, inL_s, pad_0, pad_n, pad_s, wpn_s, wp1_s, lg_0, lg_s, lset_0, lset_s, kil_0, kil_s, st1_s, st2_s, isL_i, isL_l, isL_r, isL_n, spl_0, spl_s, cll_n, cll_s, catS_0, catS_s, jmp_s, alk_0, alk_s, otl_n, otl_s, List.nil_append, List.cons_append, List.contains_cons, List.contains_nil, Nat.reduceBEq, Bool.or_false, Bool.false_or, Bool.or_self, Bool.false_eq_true, Bool.true_or, Bool.or_true, if_true, if_false, ite_true, ite_false, ↓reduceIte, List.length_cons, List.length_nil, Nat.reduceAdd, Nat.reduceLT, Nat.reduceLeDiff, Nat.reduceEqDiff, Int.reduceAdd, Int.reduceLE, Int.toNat_natCast, Int.reduceToNat, Int.cast_ofNat_Int, true_and, and_true, false_and, and_false, true_implies, forall_const, eq_self, and_self, or_true, true_or, or_self, false_or, or_false, yI_sI, yR_sI, yC_sI, yN_sI, yI_sR, yR_sR, yC_sR, yN_sR, not_true_eq_false, not_false_eq_true, false_implies, implies_true, Nat.zero_add, Nat.add_zero, Nat.le_refl, Nat.reduceSub, Int.reduceSub, Int.reduceLT, Int.sub_zero, Int.sub_self, List.getElem?_toArray, List.getElem?_cons_zero, List.getElem?_cons_succ, Int.toNat_zero, Int.toNat_one, Int.lt_irrefl, yI_sB, yR_sB, yC_sB, yN_sB, MSh_sB_eq, pS_place_0, stp_iload_n, pS_place_1, stp_iconst, pS_place_2, pS_place_3, stp_invokestatic, qmS_75, cy_S_within, pS_place_6, stp_ifCond_ne, pS_place_9, stp_aload_n, pS_place_10, stp_bipush, pS_place_12, stp_invokevirtual, qmS_79, cy_S_refuse, ss_C0 hS, pS_place_15, stp_ireturn, pS_place_16, pS_place_17, stp_getfield, qfS_12, rp_0_0, ss_R0_0 hS, ss_C1 hS, pS_place_20, qfS_83, rp_1_4, pS_place_23, pS_place_25, stp_if_icmp_lt, pS_place_28, pS_place_29, pS_place_31, pS_place_34, pS_place_35, pS_place_36, pS_place_39, pS_place_40, qmS_86, cy_Y_addPlace, pS_place_43, ic_0, ic_3, bp_m7, bp_14, bp_m8, nv_S_place, ml_S_place, fsS_within, h1, e14, q, show ¬ (1 : Int32) = 0 by decide, rfS_8 hS, lvS_within, lvS_refuse, lvY_addPlace]
      exact rf 8 (by decide) (by simp only [dM_place, h1, h2, Bool.true_eq_false, if_true, if_false]; rfl)
    · have hlt := okc_lt h3 (c := 14) rfl h2
      have q : nI (cn w 3) < 14 := nI_lt (b := 14) hlt (by omega)
      have ra := ruY_addPlace (k := k) hS hlt e4
      simp only [reduceCtorEq, fv0, fv1, fv2, fv3, bI_0, bI_1, bft, MSh_sI_eq, fsP_T, inL_0, inL_s, pad_0, pad_n, pad_s, wpn_s, wp1_s, lg_0, lg_s, lset_0, lset_s, kil_0, kil_s, st1_s, st2_s, isL_i, isL_l, isL_r, isL_n, spl_0, spl_s, cll_n, cll_s, catS_0, catS_s, jmp_s, alk_0, alk_s, otl_n, otl_s, List.nil_append, List.cons_append, List.contains_cons, List.contains_nil, Nat.reduceBEq, Bool.or_false, Bool.false_or, Bool.or_self, Bool.false_eq_true, Bool.true_or, Bool.or_true, if_true, if_false, ite_true, ite_false, ↓reduceIte, List.length_cons, List.length_nil, Nat.reduceAdd, Nat.reduceLT, Nat.reduceLeDiff, Nat.reduceEqDiff, Int.reduceAdd, Int.reduceLE, Int.toNat_natCast, Int.reduceToNat, Int.cast_ofNat_Int, true_and, and_true, false_and, and_false, true_implies, forall_const, eq_self, and_self, or_true, true_or, or_self, false_or, or_false, yI_sI, yR_sI, yC_sI, yN_sI, yI_sR, yR_sR, yC_sR, yN_sR, not_true_eq_false, not_false_eq_true, false_implies, implies_true, Nat.zero_add, Nat.add_zero, Nat.le_refl, Nat.reduceSub, Int.reduceSub, Int.reduceLT, Int.sub_zero, Int.sub_self, List.getElem?_toArray, List.getElem?_cons_zero, List.getElem?_cons_succ, Int.toNat_zero, Int.toNat_one, Int.lt_irrefl, yI_sB, yR_sB, yC_sB, yN_sB, MSh_sB_eq, pS_place_0, stp_iload_n, pS_place_1, stp_iconst, pS_place_2, pS_place_3, stp_invokestatic, qmS_75, cy_S_within, pS_place_6, stp_ifCond_ne, pS_place_9, stp_aload_n, pS_place_10, stp_bipush, pS_place_12, stp_invokevirtual, qmS_79, cy_S_refuse, ss_C0 hS, pS_place_15, stp_ireturn, pS_place_16, pS_place_17, stp_getfield, qfS_12, rp_0_0, ss_R0_0 hS, ss_C1 hS, pS_place_20, qfS_83, rp_1_4, pS_place_23, pS_place_25, stp_if_icmp_lt, pS_place_28, pS_place_29, pS_place_31, pS_place_34, pS_place_35, pS_place_36, pS_place_39, pS_place_40, qmS_86, cy_Y_addPlace, pS_place_43, ic_0, ic_3, bp_m7, bp_14, bp_m8, nv_S_place, ml_S_place, fsS_within, h1, e4, q, ra, show ¬ (1 : Int32) = 0 by decide, lvS_within, lvS_refuse, lvY_addPlace]
      have mm : msk (apW w (cn w 3) k) = msk w := msk_ag rfl fun t p q hc => by
        unfold apW
        rw [yI_sI, apU_I, yI_sI, if_neg (by rintro ⟨rfl, -⟩; cases hc), if_neg (by rintro ⟨rfl, -⟩; cases hc), if_neg (by rintro ⟨rfl, -⟩; cases hc)]
      exact Pst_ok2 (w := w) (d := fun w => dM_place w k) (v := fun w => wI w 13 0 3) (W := fun w => plW w k) (okM_place l G) (by decide) (fun _ => rfl) (fun _ => rfl) (fun _ => rfl) mm hM (by simp only [dM_place, h1, h2, Bool.true_eq_false, if_false]) h3.1.symm (pl_inv h rfl hlt)
end
