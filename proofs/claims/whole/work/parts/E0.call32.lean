/-! calls: plan -/
section
variable {l : Launch} {G : Gc} {c : Nat} {w : Wd}
/-- behind the search, on both sides -/
theorem pn_fin {F : List (Ent × Nat)} {x y : Int32} {eL eP : Nat → Nat} {w2 w3 : Wd} (h : Inv c w) (hc : c < 1000) (F1 : CpE w (F.map (fun f => f.1))) (F2 : RfE w (F.map (fun f => f.1))) (F3 : enB (grf w) (F.map (fun f => f.1)) (1400 * c)) (F4 : OwF w F) (hm1 : 1 ≤ bitN x) (hm4 : bitN x ≤ 4) (hd : plD w x y = 0) (hRp : RpP w w2 x y (fun j => (wI w 123 0 j).toNatClampNeg) eL eP) {R : Bst} (hRR : plR w x y (cn w 2) (F.map (fun f => f.1)) = R) (hJ : ClJ (seI w2 (nI (cn w 2))) w3 (bitN x) 0 eL eP (btB x) (btB y) (F.map (fun f => f.1)) pl00 R) :
    (∀ v, R.1 = some v → Pst l G c mM_plan [.inl x, .inl y] (some (.inl (wI w3 6 0 13))) w3) ∧ (R.1 = none → Pst l G c mM_plan [.inl x, .inl y] (some (.inl (-2))) (rfs w3 2)) := by
  obtain ⟨q1, q2, -⟩ := hRp
  obtain ⟨j1, j2, -, -, j5⟩ := hJ
  have I3 : ∀ t k i, ¬ (t = 8 ∨ (177 ≤ t ∧ t ≤ 182) ∨ (184 ≤ t ∧ t ≤ 186) ∨ (t = 9 ∧ i = 4) ∨ t = 6) → wI w3 t k i = wI w t k i := fun t k i hn => by
    rw [j1.2 t k i (by omega), seI_I, if_neg (by omega), if_neg (by omega), if_neg (by omega), if_neg (by omega), q2 t k i (by omega)]
  have h23 : w3.2 = w.2 := j1.1.trans q1
  have m3 : ∀ t k i, isC t = false → wI w3 t k i = wI w t k i := fun t k i hc => I3 t k i (by
    intro z
    have : isC t = true := by
      rcases (show t = 8 ∨ t = 177 ∨ t = 178 ∨ t = 179 ∨ t = 180 ∨ t = 181 ∨ t = 182 ∨ t = 184 ∨ t = 185 ∨ t = 186 ∨ t = 9 ∨ t = 6 by omega) with rfl | rfl | rfl | rfl | rfl | rfl | rfl | rfl | rfl | rfl | rfl | rfl <;> rfl
    rw [this] at hc
    cases hc)
  have s0 : ∀ t k i, t = 181 ∨ t = 182 ∨ (t = 6 ∧ i = 14) → wI (seI w2 (nI (cn w 2))) t k i = wI w t k i := fun t k i ht => by
    rw [seI_I, if_neg (by omega), if_neg (by omega), if_neg (by omega), if_neg (by omega), q2 t k i (by omega)]
  have pR : ∀ u : Wd, (∀ t k i, isC t = false → wI u t k i = wI w t k i) → plR u x y (cn w 2) (F.map (fun f => f.1)) = R ∧ plD u x y = 0 := fun u m => by
    refine ⟨?_, (mskE1 (f := fun w => plD w x y) (fun _ => rfl) m).trans hd⟩
    have mt : ∀ t k i, ((107 ≤ t ∧ t ≤ 109) ∨ (t = 13 ∧ (i = 6 ∨ i = 3))) → wI u t k i = wI w t k i := fun t k i ht => m t k i (by rcases ht with ht | ⟨rfl, -⟩; (rcases (show t = 107 ∨ t = 108 ∨ t = 109 by omega) with rfl | rfl | rfl <;> rfl); rfl)
    have egu : grf u = grf w := grf_cg fun t k i ht => mt t k i (by omega)
    have c3 : cn u 3 = cn w 3 := cn_cg (m _ _ _ rfl)
    have c17 : cn u 17 = cn w 17 := cn_cg (m _ _ _ rfl)
    have edu : dsM u = dsM w := by unfold dsM; rw [egu, c3]
    rw [← hRR]
    unfold plR srM
    rw [egu, edu, c3, c17]
    have e : (fun j => (wI u 123 0 j).toNatClampNeg) = fun j => (wI w 123 0 j).toNatClampNeg := funext fun j => by rw [m 123 0 j rfl]
    rw [e]
  refine ⟨fun v hv => ?_, fun hn => ?_⟩
  · obtain ⟨p1, p2⟩ := pR w3 m3
    unfold KB at j5
    rw [hv] at j5
    obtain ⟨k1, k2, k3, k4⟩ := j5
    rw [k1]
    refine ⟨_, rfl, tyI rfl, 10, by decide, (pn_ref (u := w3) h hc F2 F3 F4 h23 m3).mono fun r2 w5 hq => ?_⟩
    unfold plQ at hq
    rw [p2, if_pos rfl, p1, hv] at hq
    obtain ⟨w4, t1, rfl, rfl⟩ := hq
    refine ⟨rfl, ?_⟩
    obtain ⟨u1, u2, -, u4⟩ := t1
    unfold RfB at u4
    rw [hv] at u4
    obtain ⟨-, -, v4⟩ := u4
    have I4 : ∀ t k i, ¬ (t = 110 ∨ t = 111 ∨ t = 114 ∨ t = 115 ∨ t = 116 ∨ t = 141 ∨ t = 142 ∨ t = 143 ∨ t = 144 ∨ (t = 13 ∧ (i = 12 ∨ i = 13 ∨ i = 46 ∨ i = 40))) → wI w4 t k i = wI w3 t k i := fun t k i hn => by
      rw [u1.2 t k i (by omega), plW0_n (by omega)]
    refine pn_inv h (Nat.le_succ c) (u1.1.trans h23) (fun t k i hn => ?_) (CpE_cg (w := w3) (Exw_2 u1.1) (fun t k i ht => ?_) j2) (RfE_eq (w := w4) u2 rfl rfl (fun _ _ => ⟨rfl, rfl, rfl⟩)) F3 F4 (Or.inr ⟨bitN x, hm1, hm4, ?_, ?_, fun i hi => ?_⟩)
    · have hn' : ¬ (t = 8 ∨ (177 ≤ t ∧ t ≤ 182) ∨ (184 ≤ t ∧ t ≤ 186) ∨ (t = 9 ∧ i = 4) ∨ t = 6 ∨ (t = 13 ∧ (i = 12 ∨ i = 13 ∨ i = 40 ∨ i = 46 ∨ i = 47)) ∨ (110 ≤ t ∧ t ≤ 111) ∨ (114 ≤ t ∧ t ≤ 116) ∨ (141 ≤ t ∧ t ≤ 144)) := hn
      rw [yI_sI, if_neg (by omega), I4 t k i (by omega), I3 t k i (by omega)]
    · rw [yI_sI, if_neg (by omega), I4 t k i (by omega)]
    · rw [yI_sI, if_pos ⟨rfl, rfl, rfl⟩]
    · rw [yI_sI, if_neg (by omega), I4 _ _ _ (by omega)]; exact k3
    · obtain ⟨a1, a2⟩ := k4 i hi
      obtain ⟨b1, b2⟩ := v4 i hi
      have s : ∀ t i, ¬ t = 13 → wI (sI w4 13 0 47 (nI (bitN x))) t 0 i = wI w4 t 0 i := fun t i ht => by rw [yI_sI, if_neg (by omega)]
      rw [s 181 i (by omega), s 182 i (by omega), s 143 i (by omega), s 144 i (by omega), I4 181 0 i (by omega), I4 182 0 i (by omega), a1, a2, b1, b2]
      exact ⟨rfl, rfl⟩
  · have mr : ∀ t k i, isC t = false → wI (rfs w3 2) t k i = wI w t k i := fun t k i hc => by unfold rfs; rw [yI_sI, if_neg (by rintro ⟨rfl, -⟩; cases hc)]; exact m3 t k i hc
    obtain ⟨p1, p2⟩ := pR (rfs w3 2) mr
    unfold KB at j5
    rw [hn] at j5
    obtain ⟨-, k2, k3⟩ := j5
    refine ⟨_, rfl, tyI rfl, 10, by decide, (pn_ref (u := rfs w3 2) h hc F2 F3 F4 h23 mr).mono fun r2 w5 hq => ?_⟩
    unfold plQ at hq
    rw [p2, if_pos rfl, p1, hn] at hq
    obtain ⟨w4, t1, rfl, rfl⟩ := hq
    refine ⟨rfl, ?_⟩
    obtain ⟨u1, u2, -, u4⟩ := t1
    unfold RfB at u4
    rw [hn] at u4
    obtain ⟨-, v4⟩ := u4
    have I5 : ∀ t k i, wI (rfs w3 2) t k i = if t = 170 ∧ k = 0 ∧ i = 2 then wI w3 170 0 2 + 1 else wI w3 t k i := fun t k i => by unfold rfs; rw [yI_sI]
    have I4 : ∀ t k i, ¬ (t = 110 ∨ t = 111 ∨ t = 114 ∨ t = 115 ∨ t = 116 ∨ t = 141 ∨ t = 142 ∨ t = 143 ∨ t = 144 ∨ (t = 13 ∧ (i = 12 ∨ i = 13 ∨ i = 46 ∨ i = 40))) → wI w4 t k i = if t = 170 ∧ k = 0 ∧ i = 2 then wI w3 170 0 2 + 1 else wI w3 t k i := fun t k i hn => by
      rw [u1.2 t k i (by omega), plW0_n (by omega), I5]
    have I6 : ∀ t k i, wI (rfz w4 2) t k i = if t = 101 ∧ k = 0 ∧ i = 2 then wI w4 101 0 2 + 1 else wI w4 t k i := fun t k i => by unfold rfz; rw [yI_sI]
    have h25 : (rfz w4 2).2 = w3.2 := u1.1
    have R5 : RfE (rfz w4 2) (F.map (fun f => f.1)) := RfE_eq (w := w4) u2 rfl rfl (fun _ _ => ⟨rfl, rfl, rfl⟩)
    refine pn_inv2 h (h25.trans h23) (fun t k i hn hn2 => ?_) ?_ ?_ (fun t k i ht hk => ?_) (CpE_cg (w := w3) (Exw_2 h25) (fun t k i ht => ?_) j2) R5 F3 F4 ?_
    · have hn' : ¬ (t = 8 ∨ (177 ≤ t ∧ t ≤ 182) ∨ (184 ≤ t ∧ t ≤ 186) ∨ (t = 9 ∧ i = 4) ∨ t = 6 ∨ (t = 13 ∧ (i = 12 ∨ i = 13 ∨ i = 40 ∨ i = 46 ∨ i = 47)) ∨ (110 ≤ t ∧ t ≤ 111) ∨ (114 ≤ t ∧ t ≤ 116) ∨ (141 ≤ t ∧ t ≤ 144)) := hn
      rw [I6, if_neg (by omega), I4 t k i (by omega), if_neg (by omega), I3 t k i (by omega)]
    · rw [I6, if_neg (by omega), I4 _ _ _ (by omega), if_pos ⟨rfl, rfl, rfl⟩, I3 _ _ _ (by omega)]
    · rw [I6, if_pos ⟨rfl, rfl, rfl⟩, I4 _ _ _ (by omega), if_neg (by omega), I3 _ _ _ (by omega)]
    · rw [I6, if_neg (by omega), I4 t k i (by omega), if_neg (by omega), I3 t k i (by omega)]
    · rw [I6, if_neg (by omega), I4 t k i (by omega), if_neg (by omega)]
    · have e47 : wI (rfz w4 2) 13 0 47 = wI w 13 0 47 := by rw [I6, if_neg (by omega), I4 _ _ _ (by omega), if_neg (by omega), I3 _ _ _ (by omega)]
      have e14 : wI (rfz w4 2) 6 0 14 = wI w 6 0 14 := by rw [I6, if_neg (by omega), I4 _ _ _ (by omega), if_neg (by omega), k2, s0 _ _ _ (by omega)]
      have e143 : ∀ i, wI (rfz w4 2) 143 0 i = wI w 143 0 i ∧ wI (rfz w4 2) 144 0 i = wI w 144 0 i := fun i => by
        rw [I6, if_neg (by omega), I6, if_neg (by omega), (v4 i).1, (v4 i).2, plW0_n (by omega), plW0_n (by omega), I5, I5, if_neg (by omega), if_neg (by omega), I3 _ _ _ (by omega), I3 _ _ _ (by omega)]
        exact ⟨rfl, rfl⟩
      have e181 : ∀ i, wI (rfz w4 2) 181 0 i = wI w 181 0 i ∧ wI (rfz w4 2) 182 0 i = wI w 182 0 i := fun i => by
        rw [I6, if_neg (by omega), I6, if_neg (by omega), I4 _ _ _ (by omega), I4 _ _ _ (by omega), if_neg (by omega), if_neg (by omega), (k3 i).1, (k3 i).2, s0 _ _ _ (by omega), s0 _ _ _ (by omega)]
        exact ⟨rfl, rfl⟩
      rcases iv_P h with ⟨a1, a2⟩ | ⟨m, a1, a2, a3, a4, a5⟩
      · exact Or.inl ⟨by rw [e47]; exact a1, by rw [e14]; exact a2⟩
      · refine Or.inr ⟨m, a1, a2, by rw [e47]; exact a3, by rw [e14]; exact a4, fun i hi => ?_⟩
        rw [(e181 i).1, (e181 i).2, (e143 i).1, (e143 i).2]
        exact a5 i hi
set_option maxRecDepth 100000 in
set_option maxHeartbeats 4000000 in
theorem ca_plan (h : Inv c w) (hc : c < 1000) (x y : Int32) : Cok l G c w mS_plan mM_plan [.inl x, .inl y] := by
  have hS := iv_S h
  have hM := iv_M h
  have h0 := iv_0 h
  have hl := iv_l h
  have h3 := hM.2.1
  have h17 := hM.2.2.2.1
  obtain ⟨T1, -⟩ := iv_T h
  have T2 := T1.2
  obtain ⟨F, F1, F2, F3, F4⟩ := iv_E h
  have b17 := h17.2
  have b3 := h3.2
  have rs := ruL_size hl.2.2.2.1
  have e4 : wI w 1 0 4 = nI (cn w 3) := h0.2.1.trans h3.1
  have t1 : ¬ (1 : Int32) = 0 := by decide
  have rf : ∀ k : Nat, 0 < k ∧ k < 9 → plD w x y = -nI k → Pst l G c mM_plan [.inl x, .inl y] (some (.inl (-nI k))) (rfs w k) := fun k hk hd => by
    refine ⟨.inl (-nI k), rfl, tyI rfl, 10, by decide, (pn_ref (u := rfs w k) h hc F2 F3 F4 rfl (fun t k i hc => by unfold rfs; rw [yI_sI, if_neg (by rintro ⟨rfl, -⟩; cases hc)])).mono fun r2 w2 hq => ?_⟩
    have hd2 : plD (rfs w k) x y = -nI k := by rw [← hd]; rfl
    have e : - -nI k = nI k := by simp
    have hz : ¬ -nI k = 0 := fun z => by
      rw [z] at e
      have := (nI_eq (a := 0) (b := k) (by omega) (by omega)).mp (by rw [← e]; rfl)
      omega
    unfold plQ at hq
    rw [hd2, if_neg hz, e, nI_clamp (by omega)] at hq
    obtain ⟨rfl, rfl⟩ := hq
    exact ⟨rfl, Inv_rf h⟩
  have pA := plA_iff (x := x) (y := y) h17 h3
  rw [← us_0 x (show cn w 17 < 32 by omega), ← us_0 y (show cn w 3 < 32 by omega)] at pA
  have d3 : ¬ ((x.toUInt32 >>> ((nI (cn w 17)).toUInt32 &&& Int32.toUInt32 31)).toInt32 = 0 ∧ (y.toUInt32 >>> ((nI (cn w 3)).toUInt32 &&& Int32.toUInt32 31)).toInt32 = 0) → plD w x y = -nI 3 := fun hn => by
    have : plA w x y = true := by
      cases q : plA w x y with
      | true => rfl
      | false => exact absurd (pA.mp q) hn
    unfold plD
    rw [if_pos this]
    rfl
  refine ⟨18, by decide, Sem_of (by decide) rfl (Nat.le_of_ble_eq_true rfl) ?_⟩
  refine wpn_ok (M := mS_plan) (C := cenS) (X := (alk [(96, lvL_size, fsL_size), (221, lvS_arePens, fsS_arePens), (75, lvS_within, fsS_within), (229, lvS_mayAllBeDriven, fsS_mayAllBeDriven), (232, lvS_hasLotInOne, fsS_hasLotInOne), (79, lvS_refuse, fsS_refuse)])) (tb := tS_plan) (st := []) eoS (XOk_cons qmS_96 (okL_size l G) (XOk_cons qmS_221 (okS_arePens l G) (XOk_cons qmS_75 (okS_within l G) (XOk_cons qmS_229 (okS_mayAllBeDriven l G) (XOk_cons qmS_232 (okS_hasLotInOne l G) (XOk_cons qmS_79 (okS_refuse l G) XOk_nil)))))) kS_plan 90 _ _ _ _ _ _ ?_
  by_cases a1 : (x.toUInt32 >>> ((nI (cn w 17)).toUInt32 &&& Int32.toUInt32 31)).toInt32 = 0
  case neg =>
    simp only [reduceCtorEq, fv0, fv1, fv2, fv3, bI_0, bI_1, bft, MSh_sI_eq, fsP_T, inL_0, inL_s, pad_0, pad_n, pad_s, wpn_s, wp1_s, lg_0, lg_s, lset_0, lset_s, kil_0, kil_s, st1_s, st2_s, isL_i, isL_l, isL_r, isL_n, spl_0, spl_s, cll_n, cll_s, catS_0, catS_s, jmp_s, alk_0, alk_s, otl_n, otl_s, List.nil_append, List.cons_append, List.contains_cons, List.contains_nil, Nat.reduceBEq, Bool.or_false, Bool.false_or, Bool.or_self, Bool.false_eq_true, Bool.true_or, Bool.or_true, if_true, if_false, ite_true, ite_false, ↓reduceIte, List.length_cons, List.length_nil, Nat.reduceAdd, Nat.reduceLT, Nat.reduceLeDiff, Nat.reduceEqDiff, Int.reduceAdd, Int.reduceLE, Int.toNat_natCast, Int.reduceToNat, Int.cast_ofNat_Int, true_and, and_true, false_and, and_false, true_implies, forall_const, eq_self, and_self, or_true, true_or, or_self, false_or, or_false, yI_sI, yR_sI, yC_sI, yN_sI, yI_sR, yR_sR, yC_sR, yN_sR, not_true_eq_false, not_false_eq_true, false_implies, implies_true, Nat.zero_add, Nat.add_zero, Nat.le_refl, Nat.reduceSub, Int.reduceSub, Int.reduceLT, Int.sub_zero, Int.sub_self, List.getElem?_toArray, List.getElem?_cons_zero, List.getElem?_cons_succ, Int.toNat_zero, Int.toNat_one, Int.lt_irrefl, yI_sB, yR_sB, yC_sB, yN_sB, MSh_sB_eq, pS_plan_0, stp_iload_n, pS_plan_1, stp_aload_n, pS_plan_2, stp_getfield, qfS_19, rp_0_1, ss_C0 hS, ss_R0_1 hS, ss_C2 hS, pS_plan_5, stp_invokevirtual, qmS_96, cy_L_size, pS_plan_8, stp_iushr, pS_plan_9, stp_ifCond_ne, pS_plan_12, pS_plan_13, pS_plan_14, qfS_12, rp_0_0, ss_R0_0 hS, ss_C1 hS, pS_plan_17, qfS_83, rp_1_4, pS_plan_20, pS_plan_21, stp_ifCond_eq, pS_plan_24, pS_plan_25, stp_bipush, pS_plan_27, qmS_79, cy_S_refuse, pS_plan_30, stp_ireturn, pS_plan_31, pS_plan_32, pS_plan_33, qmS_221, cy_S_arePens, pS_plan_36, pS_plan_39, pS_plan_40, pS_plan_42, pS_plan_45, pS_plan_46, pS_plan_47, stp_invokestatic, qmS_224, pS_plan_50, stp_istore_n, pS_plan_51, pS_plan_52, stp_iconst, pS_plan_53, pS_plan_54, qmS_75, cy_S_within, pS_plan_57, pS_plan_60, pS_plan_61, pS_plan_64, pS_plan_65, stp_if_icmp_eq, pS_plan_68, pS_plan_69, pS_plan_71, pS_plan_74, pS_plan_75, pS_plan_76, pS_plan_77, qmS_229, cy_S_mayAllBeDriven, pS_plan_80, pS_plan_83, pS_plan_84, pS_plan_85, qmS_232, cy_S_hasLotInOne, pS_plan_88, pS_plan_91, pS_plan_92, pS_plan_94, pS_plan_97, pS_plan_98, pS_plan_99, pS_plan_100, pS_plan_101, qmS_235, cy_S_readyPlanner, pS_plan_104, pS_plan_105, qfS_49, rp_0_5, ss_R0_5 hS, ss_C6 hS, pS_plan_108, pS_plan_109, qfS_71, rp_0_9, pS_plan_112, qmS_238, cy_P_search, pS_plan_115, pS_plan_118, pS_plan_119, pS_plan_122, qfS_241, rp_6_13, pS_plan_125, stp_goto, pS_plan_128, pS_plan_129, pS_plan_131, pS_plan_134, bp_m3, bp_m5, ic_1, ic_4, bp_m7, bp_m2, nv_S_plan, ml_S_plan, rs, a1, rfS_3 hS, lvL_size, lvS_arePens, lvS_within, lvS_mayAllBeDriven, lvS_hasLotInOne, lvS_refuse]
    exact rf 3 (by decide) (d3 (fun z => a1 z.1))
  case pos =>
    by_cases a2 : (y.toUInt32 >>> ((nI (cn w 3)).toUInt32 &&& Int32.toUInt32 31)).toInt32 = 0
    case neg =>
      simp only [reduceCtorEq, fv0, fv1, fv2, fv3, bI_0, bI_1, bft, MSh_sI_eq, fsP_T, inL_0, inL_s, pad_0, pad_n, pad_s, wpn_s, wp1_s, lg_0, lg_s, lset_0, lset_s, kil_0, kil_s, st1_s, st2_s, isL_i, isL_l, isL_r, isL_n, spl_0, spl_s, cll_n, cll_s, catS_0, catS_s, jmp_s, alk_0, alk_s, otl_n, otl_s, List.nil_append, List.cons_append, List.contains_cons, List.contains_nil, Nat.reduceBEq, Bool.or_false, Bool.false_or, Bool.or_self, Bool.false_eq_true, Bool.true_or, Bool.or_true, if_true, if_false, ite_true, ite_false, ↓reduceIte, List.length_cons, List.length_nil, Nat.reduceAdd, Nat.reduceLT, Nat.reduceLeDiff, Nat.reduceEqDiff, Int.reduceAdd, Int.reduceLE, Int.toNat_natCast, Int.reduceToNat, Int.cast_ofNat_Int, true_and, and_true, false_and, and_false, true_implies, forall_const, eq_self, and_self, or_true, true_or, or_self, false_or, or_false, yI_sI, yR_sI, yC_sI, yN_sI, yI_sR, yR_sR, yC_sR, yN_sR, not_true_eq_false, not_false_eq_true, false_implies, implies_true, Nat.zero_add, Nat.add_zero, Nat.le_refl, Nat.reduceSub, Int.reduceSub, Int.reduceLT, Int.sub_zero, Int.sub_self, List.getElem?_toArray, List.getElem?_cons_zero, List.getElem?_cons_succ, Int.toNat_zero, Int.toNat_one, Int.lt_irrefl, yI_sB, yR_sB, yC_sB, yN_sB, MSh_sB_eq, pS_plan_0, stp_iload_n, pS_plan_1, stp_aload_n, pS_plan_2, stp_getfield, qfS_19, rp_0_1, ss_C0 hS, ss_R0_1 hS, ss_C2 hS, pS_plan_5, stp_invokevirtual, qmS_96, cy_L_size, pS_plan_8, stp_iushr, pS_plan_9, stp_ifCond_ne, pS_plan_12, pS_plan_13, pS_plan_14, qfS_12, rp_0_0, ss_R0_0 hS, ss_C1 hS, pS_plan_17, qfS_83, rp_1_4, pS_plan_20, pS_plan_21, stp_ifCond_eq, pS_plan_24, pS_plan_25, stp_bipush, pS_plan_27, qmS_79, cy_S_refuse, pS_plan_30, stp_ireturn, pS_plan_31, pS_plan_32, pS_plan_33, qmS_221, cy_S_arePens, pS_plan_36, pS_plan_39, pS_plan_40, pS_plan_42, pS_plan_45, pS_plan_46, pS_plan_47, stp_invokestatic, qmS_224, pS_plan_50, stp_istore_n, pS_plan_51, pS_plan_52, stp_iconst, pS_plan_53, pS_plan_54, qmS_75, cy_S_within, pS_plan_57, pS_plan_60, pS_plan_61, pS_plan_64, pS_plan_65, stp_if_icmp_eq, pS_plan_68, pS_plan_69, pS_plan_71, pS_plan_74, pS_plan_75, pS_plan_76, pS_plan_77, qmS_229, cy_S_mayAllBeDriven, pS_plan_80, pS_plan_83, pS_plan_84, pS_plan_85, qmS_232, cy_S_hasLotInOne, pS_plan_88, pS_plan_91, pS_plan_92, pS_plan_94, pS_plan_97, pS_plan_98, pS_plan_99, pS_plan_100, pS_plan_101, qmS_235, cy_S_readyPlanner, pS_plan_104, pS_plan_105, qfS_49, rp_0_5, ss_R0_5 hS, ss_C6 hS, pS_plan_108, pS_plan_109, qfS_71, rp_0_9, pS_plan_112, qmS_238, cy_P_search, pS_plan_115, pS_plan_118, pS_plan_119, pS_plan_122, qfS_241, rp_6_13, pS_plan_125, stp_goto, pS_plan_128, pS_plan_129, pS_plan_131, pS_plan_134, bp_m3, bp_m5, ic_1, ic_4, bp_m7, bp_m2, nv_S_plan, ml_S_plan, rs, e4, a1, a2, rfS_3 hS, lvL_size, lvS_arePens, lvS_within, lvS_mayAllBeDriven, lvS_hasLotInOne, lvS_refuse]
      exact rf 3 (by decide) (d3 (fun z => a2 z.2))
    case pos =>
      have hA : plA w x y = false := pA.mpr ⟨a1, a2⟩
      have hx := (us_0 x (show cn w 17 < 32 by omega)).mp a1
      have hy := (us_0 y (show cn w 3 < 32 by omega)).mp a2
      have x0 : ¬ x < 0 := fun z => by rw [lt0_bt, hx 31 (by omega)] at z; cases z
      have y0 : ¬ y < 0 := fun z => by rw [lt0_bt, hy 31 (by omega)] at z; cases z
      have ex : cnN (btB x) (cn w 17) = bitN x := (cnN_up hx 31 (by omega)).symm
      have ey : cnN (btB y) (cn w 3) = bitN y := (cnN_up hy 31 (by omega)).symm
      have rp := ruS_arePens (x := y) hl
      cases hK : anyN (plKF w y) (cn w 3) with
      | true =>
        rw [hK] at rp
        have hK' : plK w y = true := hK
        simp only [reduceCtorEq, fv0, fv1, fv2, fv3, bI_0, bI_1, bft, MSh_sI_eq, fsP_T, inL_0, inL_s, pad_0, pad_n, pad_s, wpn_s, wp1_s, lg_0, lg_s, lset_0, lset_s, kil_0, kil_s, st1_s, st2_s, isL_i, isL_l, isL_r, isL_n, spl_0, spl_s, cll_n, cll_s, catS_0, catS_s, jmp_s, alk_0, alk_s, otl_n, otl_s, List.nil_append, List.cons_append, List.contains_cons, List.contains_nil, Nat.reduceBEq, Bool.or_false, Bool.false_or, Bool.or_self, Bool.false_eq_true, Bool.true_or, Bool.or_true, if_true, if_false, ite_true, ite_false, ↓reduceIte, List.length_cons, List.length_nil, Nat.reduceAdd, Nat.reduceLT, Nat.reduceLeDiff, Nat.reduceEqDiff, Int.reduceAdd, Int.reduceLE, Int.toNat_natCast, Int.reduceToNat, Int.cast_ofNat_Int, true_and, and_true, false_and, and_false, true_implies, forall_const, eq_self, and_self, or_true, true_or, or_self, false_or, or_false, yI_sI, yR_sI, yC_sI, yN_sI, yI_sR, yR_sR, yC_sR, yN_sR, not_true_eq_false, not_false_eq_true, false_implies, implies_true, Nat.zero_add, Nat.add_zero, Nat.le_refl, Nat.reduceSub, Int.reduceSub, Int.reduceLT, Int.sub_zero, Int.sub_self, List.getElem?_toArray, List.getElem?_cons_zero, List.getElem?_cons_succ, Int.toNat_zero, Int.toNat_one, Int.lt_irrefl, yI_sB, yR_sB, yC_sB, yN_sB, MSh_sB_eq, pS_plan_0, stp_iload_n, pS_plan_1, stp_aload_n, pS_plan_2, stp_getfield, qfS_19, rp_0_1, ss_C0 hS, ss_R0_1 hS, ss_C2 hS, pS_plan_5, stp_invokevirtual, qmS_96, cy_L_size, pS_plan_8, stp_iushr, pS_plan_9, stp_ifCond_ne, pS_plan_12, pS_plan_13, pS_plan_14, qfS_12, rp_0_0, ss_R0_0 hS, ss_C1 hS, pS_plan_17, qfS_83, rp_1_4, pS_plan_20, pS_plan_21, stp_ifCond_eq, pS_plan_24, pS_plan_25, stp_bipush, pS_plan_27, qmS_79, cy_S_refuse, pS_plan_30, stp_ireturn, pS_plan_31, pS_plan_32, pS_plan_33, qmS_221, cy_S_arePens, pS_plan_36, pS_plan_39, pS_plan_40, pS_plan_42, pS_plan_45, pS_plan_46, pS_plan_47, stp_invokestatic, qmS_224, pS_plan_50, stp_istore_n, pS_plan_51, pS_plan_52, stp_iconst, pS_plan_53, pS_plan_54, qmS_75, cy_S_within, pS_plan_57, pS_plan_60, pS_plan_61, pS_plan_64, pS_plan_65, stp_if_icmp_eq, pS_plan_68, pS_plan_69, pS_plan_71, pS_plan_74, pS_plan_75, pS_plan_76, pS_plan_77, qmS_229, cy_S_mayAllBeDriven, pS_plan_80, pS_plan_83, pS_plan_84, pS_plan_85, qmS_232, cy_S_hasLotInOne, pS_plan_88, pS_plan_91, pS_plan_92, pS_plan_94, pS_plan_97, pS_plan_98, pS_plan_99, pS_plan_100, pS_plan_101, qmS_235, cy_S_readyPlanner, pS_plan_104, pS_plan_105, qfS_49, rp_0_5, ss_R0_5 hS, ss_C6 hS, pS_plan_108, pS_plan_109, qfS_71, rp_0_9, pS_plan_112, qmS_238, cy_P_search, pS_plan_115, pS_plan_118, pS_plan_119, pS_plan_122, qfS_241, rp_6_13, pS_plan_125, stp_goto, pS_plan_128, pS_plan_129, pS_plan_131, pS_plan_134, bp_m3, bp_m5, ic_1, ic_4, bp_m7, bp_m2, nv_S_plan, ml_S_plan, rs, e4, a1, a2, rp, Bool.not_true, rfS_5 hS, lvL_size, lvS_arePens, lvS_within, lvS_mayAllBeDriven, lvS_hasLotInOne, lvS_refuse]
        exact rf 5 (by decide) (by unfold plD; rw [hA, hK', if_neg (by decide), if_pos rfl]; rfl)
      | false =>
        rw [hK] at rp
        have hK' : plK w y = false := hK
        obtain ⟨X, hX, exX⟩ := nI_of x0
        obtain ⟨Y, hY, eyY⟩ := nI_of y0
        have d7 : plN w x y = true → plD w x y = -nI 7 := fun hN => by unfold plD; rw [hA, hK', hN, if_neg (by decide), if_neg (by decide), if_pos rfl]; rfl
        have call1 := smJi_bitCount (l := l) (G := G) (w := w) hX
        rw [← exX] at call1
        have call2 := smJi_bitCount (l := l) (G := G) (w := w) hY
        rw [← eyY] at call2
        simp only [reduceCtorEq, fv0, fv1, fv2, fv3, bI_0, bI_1, bft, MSh_sI_eq, fsP_T, inL_0, inL_s, pad_0, pad_n, pad_s, wpn_s, wp1_s, lg_0, lg_s, lset_0, lset_s, kil_0, kil_s, st1_s, st2_s, isL_i, isL_l, isL_r, isL_n, spl_0, spl_s, cll_n, cll_s, catS_0, catS_s, jmp_s, alk_0, alk_s, otl_n, otl_s, List.nil_append, List.cons_append, List.contains_cons, List.contains_nil, Nat.reduceBEq, Bool.or_false, Bool.false_or, Bool.or_self, Bool.false_eq_true, Bool.true_or, Bool.or_true, if_true, if_false, ite_true, ite_false, ↓reduceIte, List.length_cons, List.length_nil, Nat.reduceAdd, Nat.reduceLT, Nat.reduceLeDiff, Nat.reduceEqDiff, Int.reduceAdd, Int.reduceLE, Int.toNat_natCast, Int.reduceToNat, Int.cast_ofNat_Int, true_and, and_true, false_and, and_false, true_implies, forall_const, eq_self, and_self, or_true, true_or, or_self, false_or, or_false, yI_sI, yR_sI, yC_sI, yN_sI, yI_sR, yR_sR, yC_sR, yN_sR, not_true_eq_false, not_false_eq_true, false_implies, implies_true, Nat.zero_add, Nat.add_zero, Nat.le_refl, Nat.reduceSub, Int.reduceSub, Int.reduceLT, Int.sub_zero, Int.sub_self, List.getElem?_toArray, List.getElem?_cons_zero, List.getElem?_cons_succ, Int.toNat_zero, Int.toNat_one, Int.lt_irrefl, yI_sB, yR_sB, yC_sB, yN_sB, MSh_sB_eq, pS_plan_0, stp_iload_n, pS_plan_1, stp_aload_n, pS_plan_2, stp_getfield, qfS_19, rp_0_1, ss_C0 hS, ss_R0_1 hS, ss_C2 hS, pS_plan_5, stp_invokevirtual, qmS_96, cy_L_size, pS_plan_8, stp_iushr, pS_plan_9, stp_ifCond_ne, pS_plan_12, pS_plan_13, pS_plan_14, qfS_12, rp_0_0, ss_R0_0 hS, ss_C1 hS, pS_plan_17, qfS_83, rp_1_4, pS_plan_20, pS_plan_21, stp_ifCond_eq, pS_plan_24, pS_plan_25, stp_bipush, pS_plan_27, qmS_79, cy_S_refuse, pS_plan_30, stp_ireturn, pS_plan_31, pS_plan_32, pS_plan_33, qmS_221, cy_S_arePens, pS_plan_36, pS_plan_39, pS_plan_40, pS_plan_42, pS_plan_45, pS_plan_46, pS_plan_47, stp_invokestatic, qmS_224, pS_plan_50, stp_istore_n, pS_plan_51, pS_plan_52, stp_iconst, pS_plan_53, pS_plan_54, qmS_75, cy_S_within, pS_plan_57, pS_plan_60, pS_plan_61, pS_plan_64, pS_plan_65, stp_if_icmp_eq, pS_plan_68, pS_plan_69, pS_plan_71, pS_plan_74, pS_plan_75, pS_plan_76, pS_plan_77, qmS_229, cy_S_mayAllBeDriven, pS_plan_80, pS_plan_83, pS_plan_84, pS_plan_85, qmS_232, cy_S_hasLotInOne, pS_plan_88, pS_plan_91, pS_plan_92, pS_plan_94, pS_plan_97, pS_plan_98, pS_plan_99, pS_plan_100, pS_plan_101, qmS_235, cy_S_readyPlanner, pS_plan_104, pS_plan_105, qfS_49, rp_0_5, ss_R0_5 hS, ss_C6 hS, pS_plan_108, pS_plan_109, qfS_71, rp_0_9, pS_plan_112, qmS_238, cy_P_search, pS_plan_115, pS_plan_118, pS_plan_119, pS_plan_122, qfS_241, rp_6_13, pS_plan_125, stp_goto, pS_plan_128, pS_plan_129, pS_plan_131, pS_plan_134, bp_m3, bp_m5, ic_1, ic_4, bp_m7, bp_m2, nv_S_plan, ml_S_plan, rs, e4, a1, a2, rp, Bool.not_false, t1, lvL_size, lvS_arePens, lvS_within, lvS_mayAllBeDriven, lvS_hasLotInOne, lvS_refuse]
        refine ⟨1, 0, 0, by decide, by decide, by decide, call1.mono fun rr w1 h' => ?_⟩
        obtain ⟨rfl, hw⟩ := h'
        rw [hw]
        refine wpn_ok (M := mS_plan) (C := cenS) (X := (alk [(75, lvS_within, fsS_within), (229, lvS_mayAllBeDriven, fsS_mayAllBeDriven), (232, lvS_hasLotInOne, fsS_hasLotInOne), (79, lvS_refuse, fsS_refuse)])) (tb := tS_plan) (st := []) eoS (XOk_cons qmS_75 (okS_within l G) (XOk_cons qmS_229 (okS_mayAllBeDriven l G) (XOk_cons qmS_232 (okS_hasLotInOne l G) (XOk_cons qmS_79 (okS_refuse l G) XOk_nil)))) kS_plan 90 _ _ _ _ _ _ ?_
        cases h5 : inR (nI (bitN x)) 1 4 with
        | false =>
          simp only [reduceCtorEq, fv0, fv1, fv2, fv3, bI_0, bI_1, bft, MSh_sI_eq, fsP_T, inL_0, inL_s, pad_0, pad_n, pad_s, wpn_s, wp1_s, lg_0, lg_s, lset_0, lset_s, kil_0, kil_s, st1_s, st2_s, isL_i, isL_l, isL_r, isL_n, spl_0, spl_s, cll_n, cll_s, catS_0, catS_s, jmp_s, alk_0, alk_s, otl_n, otl_s, List.nil_append, List.cons_append, List.contains_cons, List.contains_nil, Nat.reduceBEq, Bool.or_false, Bool.false_or, Bool.or_self, Bool.false_eq_true, Bool.true_or, Bool.or_true, if_true, if_false, ite_true, ite_false, ↓reduceIte, List.length_cons, List.length_nil, Nat.reduceAdd, Nat.reduceLT, Nat.reduceLeDiff, Nat.reduceEqDiff, Int.reduceAdd, Int.reduceLE, Int.toNat_natCast, Int.reduceToNat, Int.cast_ofNat_Int, true_and, and_true, false_and, and_false, true_implies, forall_const, eq_self, and_self, or_true, true_or, or_self, false_or, or_false, yI_sI, yR_sI, yC_sI, yN_sI, yI_sR, yR_sR, yC_sR, yN_sR, not_true_eq_false, not_false_eq_true, false_implies, implies_true, Nat.zero_add, Nat.add_zero, Nat.le_refl, Nat.reduceSub, Int.reduceSub, Int.reduceLT, Int.sub_zero, Int.sub_self, List.getElem?_toArray, List.getElem?_cons_zero, List.getElem?_cons_succ, Int.toNat_zero, Int.toNat_one, Int.lt_irrefl, yI_sB, yR_sB, yC_sB, yN_sB, MSh_sB_eq, pS_plan_0, stp_iload_n, pS_plan_1, stp_aload_n, pS_plan_2, stp_getfield, qfS_19, rp_0_1, ss_C0 hS, ss_R0_1 hS, ss_C2 hS, pS_plan_5, stp_invokevirtual, qmS_96, cy_L_size, pS_plan_8, stp_iushr, pS_plan_9, stp_ifCond_ne, pS_plan_12, pS_plan_13, pS_plan_14, qfS_12, rp_0_0, ss_R0_0 hS, ss_C1 hS, pS_plan_17, qfS_83, rp_1_4, pS_plan_20, pS_plan_21, stp_ifCond_eq, pS_plan_24, pS_plan_25, stp_bipush, pS_plan_27, qmS_79, cy_S_refuse, pS_plan_30, stp_ireturn, pS_plan_31, pS_plan_32, pS_plan_33, qmS_221, cy_S_arePens, pS_plan_36, pS_plan_39, pS_plan_40, pS_plan_42, pS_plan_45, pS_plan_46, pS_plan_47, stp_invokestatic, qmS_224, pS_plan_50, stp_istore_n, pS_plan_51, pS_plan_52, stp_iconst, pS_plan_53, pS_plan_54, qmS_75, cy_S_within, pS_plan_57, pS_plan_60, pS_plan_61, pS_plan_64, pS_plan_65, stp_if_icmp_eq, pS_plan_68, pS_plan_69, pS_plan_71, pS_plan_74, pS_plan_75, pS_plan_76, pS_plan_77, qmS_229, cy_S_mayAllBeDriven, pS_plan_80, pS_plan_83, pS_plan_84, pS_plan_85, qmS_232, cy_S_hasLotInOne, pS_plan_88, pS_plan_91, pS_plan_92, pS_plan_94, pS_plan_97, pS_plan_98, pS_plan_99, pS_plan_100, pS_plan_101, qmS_235, cy_S_readyPlanner, pS_plan_104, pS_plan_105, qfS_49, rp_0_5, ss_R0_5 hS, ss_C6 hS, pS_plan_108, pS_plan_109, qfS_71, rp_0_9, pS_plan_112, qmS_238, cy_P_search, pS_plan_115, pS_plan_118, pS_plan_119, pS_plan_122, qfS_241, rp_6_13, pS_plan_125, stp_goto, pS_plan_128, pS_plan_129, pS_plan_131, pS_plan_134, bp_m3, bp_m5, ic_1, ic_4, bp_m7, bp_m2, nv_S_plan, ml_S_plan, fsS_within, h5, Option.toList_some, rfS_7 hS, lvS_within, lvS_mayAllBeDriven, lvS_hasLotInOne, lvS_refuse]
          exact rf 7 (by decide) (d7 (by unfold plN plC; rw [h5]; rfl))
        | true =>
          simp only [reduceCtorEq, fv0, fv1, fv2, fv3, bI_0, bI_1, bft, MSh_sI_eq, fsP_T, inL_0, inL_s, pad_0, pad_n, pad_s, wpn_s, wp1_s, lg_0, lg_s, lset_0, lset_s, kil_0, kil_s, st1_s, st2_s, isL_i, isL_l, isL_r, isL_n, spl_0, spl_s, cll_n, cll_s, catS_0, catS_s, jmp_s, alk_0, alk_s, otl_n, otl_s, List.nil_append, List.cons_append, List.contains_cons, List.contains_nil, Nat.reduceBEq, Bool.or_false, Bool.false_or, Bool.or_self, Bool.false_eq_true, Bool.true_or, Bool.or_true, if_true, if_false, ite_true, ite_false, ↓reduceIte, List.length_cons, List.length_nil, Nat.reduceAdd, Nat.reduceLT, Nat.reduceLeDiff, Nat.reduceEqDiff, Int.reduceAdd, Int.reduceLE, Int.toNat_natCast, Int.reduceToNat, Int.cast_ofNat_Int, true_and, and_true, false_and, and_false, true_implies, forall_const, eq_self, and_self, or_true, true_or, or_self, false_or, or_false, yI_sI, yR_sI, yC_sI, yN_sI, yI_sR, yR_sR, yC_sR, yN_sR, not_true_eq_false, not_false_eq_true, false_implies, implies_true, Nat.zero_add, Nat.add_zero, Nat.le_refl, Nat.reduceSub, Int.reduceSub, Int.reduceLT, Int.sub_zero, Int.sub_self, List.getElem?_toArray, List.getElem?_cons_zero, List.getElem?_cons_succ, Int.toNat_zero, Int.toNat_one, Int.lt_irrefl, yI_sB, yR_sB, yC_sB, yN_sB, MSh_sB_eq, pS_plan_0, stp_iload_n, pS_plan_1, stp_aload_n, pS_plan_2, stp_getfield, qfS_19, rp_0_1, ss_C0 hS, ss_R0_1 hS, ss_C2 hS, pS_plan_5, stp_invokevirtual, qmS_96, cy_L_size, pS_plan_8, stp_iushr, pS_plan_9, stp_ifCond_ne, pS_plan_12, pS_plan_13, pS_plan_14, qfS_12, rp_0_0, ss_R0_0 hS, ss_C1 hS, pS_plan_17, qfS_83, rp_1_4, pS_plan_20, pS_plan_21, stp_ifCond_eq, pS_plan_24, pS_plan_25, stp_bipush, pS_plan_27, qmS_79, cy_S_refuse, pS_plan_30, stp_ireturn, pS_plan_31, pS_plan_32, pS_plan_33, qmS_221, cy_S_arePens, pS_plan_36, pS_plan_39, pS_plan_40, pS_plan_42, pS_plan_45, pS_plan_46, pS_plan_47, stp_invokestatic, qmS_224, pS_plan_50, stp_istore_n, pS_plan_51, pS_plan_52, stp_iconst, pS_plan_53, pS_plan_54, qmS_75, cy_S_within, pS_plan_57, pS_plan_60, pS_plan_61, pS_plan_64, pS_plan_65, stp_if_icmp_eq, pS_plan_68, pS_plan_69, pS_plan_71, pS_plan_74, pS_plan_75, pS_plan_76, pS_plan_77, qmS_229, cy_S_mayAllBeDriven, pS_plan_80, pS_plan_83, pS_plan_84, pS_plan_85, qmS_232, cy_S_hasLotInOne, pS_plan_88, pS_plan_91, pS_plan_92, pS_plan_94, pS_plan_97, pS_plan_98, pS_plan_99, pS_plan_100, pS_plan_101, qmS_235, cy_S_readyPlanner, pS_plan_104, pS_plan_105, qfS_49, rp_0_5, ss_R0_5 hS, ss_C6 hS, pS_plan_108, pS_plan_109, qfS_71, rp_0_9, pS_plan_112, qmS_238, cy_P_search, pS_plan_115, pS_plan_118, pS_plan_119, pS_plan_122, qfS_241, rp_6_13, pS_plan_125, stp_goto, pS_plan_128, pS_plan_129, pS_plan_131, pS_plan_134, bp_m3, bp_m5, ic_1, ic_4, bp_m7, bp_m2, nv_S_plan, ml_S_plan, fsS_within, h5, t1, Option.toList_some, lvS_within, lvS_mayAllBeDriven, lvS_hasLotInOne, lvS_refuse]
          refine ⟨1, 0, 0, by decide, by decide, by decide, call2.mono fun rr w1 h' => ?_⟩
          obtain ⟨rfl, hw⟩ := h'
          rw [hw]
          refine wpn_ok (M := mS_plan) (C := cenS) (X := (alk [(75, lvS_within, fsS_within), (229, lvS_mayAllBeDriven, fsS_mayAllBeDriven), (232, lvS_hasLotInOne, fsS_hasLotInOne), (79, lvS_refuse, fsS_refuse)])) (tb := tS_plan) (st := []) eoS (XOk_cons qmS_75 (okS_within l G) (XOk_cons qmS_229 (okS_mayAllBeDriven l G) (XOk_cons qmS_232 (okS_hasLotInOne l G) (XOk_cons qmS_79 (okS_refuse l G) XOk_nil)))) kS_plan 90 _ _ _ _ _ _ ?_
          by_cases h6 : nI (bitN y) = nI (bitN x)
          case neg =>
            simp only [reduceCtorEq, fv0, fv1, fv2, fv3, bI_0, bI_1, bft, MSh_sI_eq, fsP_T, inL_0, inL_s, pad_0, pad_n, pad_s, wpn_s, wp1_s, lg_0, lg_s, lset_0, lset_s, kil_0, kil_s, st1_s, st2_s, isL_i, isL_l, isL_r, isL_n, spl_0, spl_s, cll_n, cll_s, catS_0, catS_s, jmp_s, alk_0, alk_s, otl_n, otl_s, List.nil_append, List.cons_append, List.contains_cons, List.contains_nil, Nat.reduceBEq, Bool.or_false, Bool.false_or, Bool.or_self, Bool.false_eq_true, Bool.true_or, Bool.or_true, if_true, if_false, ite_true, ite_false, ↓reduceIte, List.length_cons, List.length_nil, Nat.reduceAdd, Nat.reduceLT, Nat.reduceLeDiff, Nat.reduceEqDiff, Int.reduceAdd, Int.reduceLE, Int.toNat_natCast, Int.reduceToNat, Int.cast_ofNat_Int, true_and, and_true, false_and, and_false, true_implies, forall_const, eq_self, and_self, or_true, true_or, or_self, false_or, or_false, yI_sI, yR_sI, yC_sI, yN_sI, yI_sR, yR_sR, yC_sR, yN_sR, not_true_eq_false, not_false_eq_true, false_implies, implies_true, Nat.zero_add, Nat.add_zero, Nat.le_refl, Nat.reduceSub, Int.reduceSub, Int.reduceLT, Int.sub_zero, Int.sub_self, List.getElem?_toArray, List.getElem?_cons_zero, List.getElem?_cons_succ, Int.toNat_zero, Int.toNat_one, Int.lt_irrefl, yI_sB, yR_sB, yC_sB, yN_sB, MSh_sB_eq, pS_plan_0, stp_iload_n, pS_plan_1, stp_aload_n, pS_plan_2, stp_getfield, qfS_19, rp_0_1, ss_C0 hS, ss_R0_1 hS, ss_C2 hS, pS_plan_5, stp_invokevirtual, qmS_96, cy_L_size, pS_plan_8, stp_iushr, pS_plan_9, stp_ifCond_ne, pS_plan_12, pS_plan_13, pS_plan_14, qfS_12, rp_0_0, ss_R0_0 hS, ss_C1 hS, pS_plan_17, qfS_83, rp_1_4, pS_plan_20, pS_plan_21, stp_ifCond_eq, pS_plan_24, pS_plan_25, stp_bipush, pS_plan_27, qmS_79, cy_S_refuse, pS_plan_30, stp_ireturn, pS_plan_31, pS_plan_32, pS_plan_33, qmS_221, cy_S_arePens, pS_plan_36, pS_plan_39, pS_plan_40, pS_plan_42, pS_plan_45, pS_plan_46, pS_plan_47, stp_invokestatic, qmS_224, pS_plan_50, stp_istore_n, pS_plan_51, pS_plan_52, stp_iconst, pS_plan_53, pS_plan_54, qmS_75, cy_S_within, pS_plan_57, pS_plan_60, pS_plan_61, pS_plan_64, pS_plan_65, stp_if_icmp_eq, pS_plan_68, pS_plan_69, pS_plan_71, pS_plan_74, pS_plan_75, pS_plan_76, pS_plan_77, qmS_229, cy_S_mayAllBeDriven, pS_plan_80, pS_plan_83, pS_plan_84, pS_plan_85, qmS_232, cy_S_hasLotInOne, pS_plan_88, pS_plan_91, pS_plan_92, pS_plan_94, pS_plan_97, pS_plan_98, pS_plan_99, pS_plan_100, pS_plan_101, qmS_235, cy_S_readyPlanner, pS_plan_104, pS_plan_105, qfS_49, rp_0_5, ss_R0_5 hS, ss_C6 hS, pS_plan_108, pS_plan_109, qfS_71, rp_0_9, pS_plan_112, qmS_238, cy_P_search, pS_plan_115, pS_plan_118, pS_plan_119, pS_plan_122, qfS_241, rp_6_13, pS_plan_125, stp_goto, pS_plan_128, pS_plan_129, pS_plan_131, pS_plan_134, bp_m3, bp_m5, ic_1, ic_4, bp_m7, bp_m2, nv_S_plan, ml_S_plan, h6, Option.toList_some, rfS_7 hS, lvS_within, lvS_mayAllBeDriven, lvS_hasLotInOne, lvS_refuse]
            refine rf 7 (by decide) (d7 ?_)
            unfold plN plC
            rw [h5, decide_eq_false (fun z => h6 z.symm)]
            rfl
          case pos =>
            have rm := ruS_mayAllBeDriven (x := x) hl
            have rh := ruS_hasLotInOne (x := y) hl
            cases h7 : anyN (plLF w x) (cn w 17) with
            | true =>
              rw [h7] at rm
              simp only [reduceCtorEq, fv0, fv1, fv2, fv3, bI_0, bI_1, bft, MSh_sI_eq, fsP_T, inL_0, inL_s, pad_0, pad_n, pad_s, wpn_s, wp1_s, lg_0, lg_s, lset_0, lset_s, kil_0, kil_s, st1_s, st2_s, isL_i, isL_l, isL_r, isL_n, spl_0, spl_s, cll_n, cll_s, catS_0, catS_s, jmp_s, alk_0, alk_s, otl_n, otl_s, List.nil_append, List.cons_append, List.contains_cons, List.contains_nil, Nat.reduceBEq, Bool.or_false, Bool.false_or, Bool.or_self, Bool.false_eq_true, Bool.true_or, Bool.or_true, if_true, if_false, ite_true, ite_false, ↓reduceIte, List.length_cons, List.length_nil, Nat.reduceAdd, Nat.reduceLT, Nat.reduceLeDiff, Nat.reduceEqDiff, Int.reduceAdd, Int.reduceLE, Int.toNat_natCast, Int.reduceToNat, Int.cast_ofNat_Int, true_and, and_true, false_and, and_false, true_implies, forall_const, eq_self, and_self, or_true, true_or, or_self, false_or, or_false, yI_sI, yR_sI, yC_sI, yN_sI, yI_sR, yR_sR, yC_sR, yN_sR, not_true_eq_false, not_false_eq_true, false_implies, implies_true, Nat.zero_add, Nat.add_zero, Nat.le_refl, Nat.reduceSub, Int.reduceSub, Int.reduceLT, Int.sub_zero, Int.sub_self, List.getElem?_toArray, List.getElem?_cons_zero, List.getElem?_cons_succ, Int.toNat_zero, Int.toNat_one, Int.lt_irrefl, yI_sB, yR_sB, yC_sB, yN_sB, MSh_sB_eq, pS_plan_0, stp_iload_n, pS_plan_1, stp_aload_n, pS_plan_2, stp_getfield, qfS_19, rp_0_1, ss_C0 hS, ss_R0_1 hS, ss_C2 hS, pS_plan_5, stp_invokevirtual, qmS_96, cy_L_size, pS_plan_8, stp_iushr, pS_plan_9, stp_ifCond_ne, pS_plan_12, pS_plan_13, pS_plan_14, qfS_12, rp_0_0, ss_R0_0 hS, ss_C1 hS, pS_plan_17, qfS_83, rp_1_4, pS_plan_20, pS_plan_21, stp_ifCond_eq, pS_plan_24, pS_plan_25, stp_bipush, pS_plan_27, qmS_79, cy_S_refuse, pS_plan_30, stp_ireturn, pS_plan_31, pS_plan_32, pS_plan_33, qmS_221, cy_S_arePens, pS_plan_36, pS_plan_39, pS_plan_40, pS_plan_42, pS_plan_45, pS_plan_46, pS_plan_47, stp_invokestatic, qmS_224, pS_plan_50, stp_istore_n, pS_plan_51, pS_plan_52, stp_iconst, pS_plan_53, pS_plan_54, qmS_75, cy_S_within, pS_plan_57, pS_plan_60, pS_plan_61, pS_plan_64, pS_plan_65, stp_if_icmp_eq, pS_plan_68, pS_plan_69, pS_plan_71, pS_plan_74, pS_plan_75, pS_plan_76, pS_plan_77, qmS_229, cy_S_mayAllBeDriven, pS_plan_80, pS_plan_83, pS_plan_84, pS_plan_85, qmS_232, cy_S_hasLotInOne, pS_plan_88, pS_plan_91, pS_plan_92, pS_plan_94, pS_plan_97, pS_plan_98, pS_plan_99, pS_plan_100, pS_plan_101, qmS_235, cy_S_readyPlanner, pS_plan_104, pS_plan_105, qfS_49, rp_0_5, ss_R0_5 hS, ss_C6 hS, pS_plan_108, pS_plan_109, qfS_71, rp_0_9, pS_plan_112, qmS_238, cy_P_search, pS_plan_115, pS_plan_118, pS_plan_119, pS_plan_122, qfS_241, rp_6_13, pS_plan_125, stp_goto, pS_plan_128, pS_plan_129, pS_plan_131, pS_plan_134, bp_m3, bp_m5, ic_1, ic_4, bp_m7, bp_m2, nv_S_plan, ml_S_plan, eq_true h6, rm, Option.toList_some, Bool.not_true, rfS_7 hS, lvS_within, lvS_mayAllBeDriven, lvS_hasLotInOne, lvS_refuse]
              exact rf 7 (by decide) (d7 (by unfold plN; rw [h7, Bool.or_true]))
            | false =>
              rw [h7] at rm
              cases h8 : anyN (plTF w y) (cn w 3) with
              | true =>
                rw [h8] at rh
                simp only [reduceCtorEq, fv0, fv1, fv2, fv3, bI_0, bI_1, bft, MSh_sI_eq, fsP_T, inL_0, inL_s, pad_0, pad_n, pad_s, wpn_s, wp1_s, lg_0, lg_s, lset_0, lset_s, kil_0, kil_s, st1_s, st2_s, isL_i, isL_l, isL_r, isL_n, spl_0, spl_s, cll_n, cll_s, catS_0, catS_s, jmp_s, alk_0, alk_s, otl_n, otl_s, List.nil_append, List.cons_append, List.contains_cons, List.contains_nil, Nat.reduceBEq, Bool.or_false, Bool.false_or, Bool.or_self, Bool.false_eq_true, Bool.true_or, Bool.or_true, if_true, if_false, ite_true, ite_false, ↓reduceIte, List.length_cons, List.length_nil, Nat.reduceAdd, Nat.reduceLT, Nat.reduceLeDiff, Nat.reduceEqDiff, Int.reduceAdd, Int.reduceLE, Int.toNat_natCast, Int.reduceToNat, Int.cast_ofNat_Int, true_and, and_true, false_and, and_false, true_implies, forall_const, eq_self, and_self, or_true, true_or, or_self, false_or, or_false, yI_sI, yR_sI, yC_sI, yN_sI, yI_sR, yR_sR, yC_sR, yN_sR, not_true_eq_false, not_false_eq_true, false_implies, implies_true, Nat.zero_add, Nat.add_zero, Nat.le_refl, Nat.reduceSub, Int.reduceSub, Int.reduceLT, Int.sub_zero, Int.sub_self, List.getElem?_toArray, List.getElem?_cons_zero, List.getElem?_cons_succ, Int.toNat_zero, Int.toNat_one, Int.lt_irrefl, yI_sB, yR_sB, yC_sB, yN_sB, MSh_sB_eq, pS_plan_0, stp_iload_n, pS_plan_1, stp_aload_n, pS_plan_2, stp_getfield, qfS_19, rp_0_1, ss_C0 hS, ss_R0_1 hS, ss_C2 hS, pS_plan_5, stp_invokevirtual, qmS_96, cy_L_size, pS_plan_8, stp_iushr, pS_plan_9, stp_ifCond_ne, pS_plan_12, pS_plan_13, pS_plan_14, qfS_12, rp_0_0, ss_R0_0 hS, ss_C1 hS, pS_plan_17, qfS_83, rp_1_4, pS_plan_20, pS_plan_21, stp_ifCond_eq, pS_plan_24, pS_plan_25, stp_bipush, pS_plan_27, qmS_79, cy_S_refuse, pS_plan_30, stp_ireturn, pS_plan_31, pS_plan_32, pS_plan_33, qmS_221, cy_S_arePens, pS_plan_36, pS_plan_39, pS_plan_40, pS_plan_42, pS_plan_45, pS_plan_46, pS_plan_47, stp_invokestatic, qmS_224, pS_plan_50, stp_istore_n, pS_plan_51, pS_plan_52, stp_iconst, pS_plan_53, pS_plan_54, qmS_75, cy_S_within, pS_plan_57, pS_plan_60, pS_plan_61, pS_plan_64, pS_plan_65, stp_if_icmp_eq, pS_plan_68, pS_plan_69, pS_plan_71, pS_plan_74, pS_plan_75, pS_plan_76, pS_plan_77, qmS_229, cy_S_mayAllBeDriven, pS_plan_80, pS_plan_83, pS_plan_84, pS_plan_85, qmS_232, cy_S_hasLotInOne, pS_plan_88, pS_plan_91, pS_plan_92, pS_plan_94, pS_plan_97, pS_plan_98, pS_plan_99, pS_plan_100, pS_plan_101, qmS_235, cy_S_readyPlanner, pS_plan_104, pS_plan_105, qfS_49, rp_0_5, ss_R0_5 hS, ss_C6 hS, pS_plan_108, pS_plan_109, qfS_71, rp_0_9, pS_plan_112, qmS_238, cy_P_search, pS_plan_115, pS_plan_118, pS_plan_119, pS_plan_122, qfS_241, rp_6_13, pS_plan_125, stp_goto, pS_plan_128, pS_plan_129, pS_plan_131, pS_plan_134, bp_m3, bp_m5, ic_1, ic_4, bp_m7, bp_m2, nv_S_plan, ml_S_plan, eq_true h6, rm, rh, Option.toList_some, Bool.not_false, t1, rfS_7 hS, lvS_within, lvS_mayAllBeDriven, lvS_hasLotInOne, lvS_refuse]
                exact rf 7 (by decide) (d7 (by unfold plN; rw [h8, Bool.or_true, Bool.true_or]))
              | false =>
                rw [h8] at rh
                have b31 := bitN_31 x
                have b31y := bitN_31 y
                have h6' : bitN y = bitN x := (nI_eq (by omega) (by omega)).mp h6
                have hN : plN w x y = false := by
                  unfold plN plC
                  rw [h5, h7, h8, decide_eq_true h6.symm]
                  rfl
                have hd : plD w x y = 0 := by unfold plD; rw [hA, hK', hN, if_neg (by decide), if_neg (by decide), if_neg (by decide)]
                obtain ⟨i1, i2⟩ := inR_spec h5
                rw [show (1 : Int32) = nI 1 from rfl, nI_ltI (by omega) (by omega)] at i1
                rw [show (4 : Int32) = nI 4 from rfl, nI_ltI (by omega) (by omega)] at i2
                have nL : ∀ j, j < cn w 17 → btB x j = true → ¬ wI w 123 0 j = -1 := fun j hj hb z => by
                  have : anyN (plLF w x) (cn w 17) = true := anyN_t hj (by unfold plLF; rw [hb, decide_eq_true z]; rfl)
                  rw [h7] at this; cases this
                have nK : ∀ p, p < cn w 3 → btB y p = true → wI w 104 0 p = 1 := fun p hp hb => by
                  apply Classical.byContradiction
                  intro z
                  have : anyN (plKF w y) (cn w 3) = true := anyN_t hp (by unfold plKF; rw [hb, decide_eq_false z]; rfl)
                  rw [hK] at this; cases this
                have nT : ∀ p, p < cn w 3 → btB y p = true → isTkn w (nI p) = false := fun p hp hb => by
                  cases z : isTkn w (nI p) with
                  | false => rfl
                  | true =>
                    have : anyN (plTF w y) (cn w 3) = true := anyN_t hp (by unfold plTF; rw [hb, z]; rfl)
                    rw [h8] at this; cases this
                have call3 := smS_readyPlanner (l := l) (G := G) (x := x) (y := y) (pa := fun j => (wI w 123 0 j).toNatClampNeg) (iv_y h) hl.2.2.2 (by rw [ex]; omega) (by rw [ey]; omega) (fun j hj hb => by
                  obtain ⟨p, hp, e⟩ := MOk_at2 hM hj (nL j hj hb)
                  show wI w 123 0 j = nI (wI w 123 0 j).toNatClampNeg ∧ _
                  rw [e, nI_clamp (by omega)]
                  exact ⟨rfl, hp⟩)
                simp only [reduceCtorEq, fv0, fv1, fv2, fv3, bI_0, bI_1, bft, MSh_sI_eq, fsP_T, inL_0, inL_s, pad_0, pad_n, pad_s, wpn_s, wp1_s, lg_0, lg_s, lset_0, lset_s, kil_0, kil_s, st1_s, st2_s, isL_i, isL_l, isL_r, isL_n, spl_0, spl_s, cll_n, cll_s, catS_0, catS_s, jmp_s, alk_0, alk_s, otl_n, otl_s, List.nil_append, List.cons_append, List.contains_cons, List.contains_nil, Nat.reduceBEq, Bool.or_false, Bool.false_or, Bool.or_self, Bool.false_eq_true, Bool.true_or, Bool.or_true, if_true, if_false, ite_true, ite_false, ↓reduceIte, List.length_cons, List.length_nil, Nat.reduceAdd, Nat.reduceLT, Nat.reduceLeDiff, Nat.reduceEqDiff, Int.reduceAdd, Int.reduceLE, Int.toNat_natCast, Int.reduceToNat, Int.cast_ofNat_Int, true_and, and_true, false_and, and_false, true_implies, forall_const, eq_self, and_self, or_true, true_or, or_self, false_or, or_false, yI_sI, yR_sI, yC_sI, yN_sI, yI_sR, yR_sR, yC_sR, yN_sR, not_true_eq_false, not_false_eq_true, false_implies, implies_true, Nat.zero_add, Nat.add_zero, Nat.le_refl, Nat.reduceSub, Int.reduceSub, Int.reduceLT, Int.sub_zero, Int.sub_self, List.getElem?_toArray, List.getElem?_cons_zero, List.getElem?_cons_succ, Int.toNat_zero, Int.toNat_one, Int.lt_irrefl, yI_sB, yR_sB, yC_sB, yN_sB, MSh_sB_eq, pS_plan_0, stp_iload_n, pS_plan_1, stp_aload_n, pS_plan_2, stp_getfield, qfS_19, rp_0_1, ss_C0 hS, ss_R0_1 hS, ss_C2 hS, pS_plan_5, stp_invokevirtual, qmS_96, cy_L_size, pS_plan_8, stp_iushr, pS_plan_9, stp_ifCond_ne, pS_plan_12, pS_plan_13, pS_plan_14, qfS_12, rp_0_0, ss_R0_0 hS, ss_C1 hS, pS_plan_17, qfS_83, rp_1_4, pS_plan_20, pS_plan_21, stp_ifCond_eq, pS_plan_24, pS_plan_25, stp_bipush, pS_plan_27, qmS_79, cy_S_refuse, pS_plan_30, stp_ireturn, pS_plan_31, pS_plan_32, pS_plan_33, qmS_221, cy_S_arePens, pS_plan_36, pS_plan_39, pS_plan_40, pS_plan_42, pS_plan_45, pS_plan_46, pS_plan_47, stp_invokestatic, qmS_224, pS_plan_50, stp_istore_n, pS_plan_51, pS_plan_52, stp_iconst, pS_plan_53, pS_plan_54, qmS_75, cy_S_within, pS_plan_57, pS_plan_60, pS_plan_61, pS_plan_64, pS_plan_65, stp_if_icmp_eq, pS_plan_68, pS_plan_69, pS_plan_71, pS_plan_74, pS_plan_75, pS_plan_76, pS_plan_77, qmS_229, cy_S_mayAllBeDriven, pS_plan_80, pS_plan_83, pS_plan_84, pS_plan_85, qmS_232, cy_S_hasLotInOne, pS_plan_88, pS_plan_91, pS_plan_92, pS_plan_94, pS_plan_97, pS_plan_98, pS_plan_99, pS_plan_100, pS_plan_101, qmS_235, cy_S_readyPlanner, pS_plan_104, pS_plan_105, qfS_49, rp_0_5, ss_R0_5 hS, ss_C6 hS, pS_plan_108, pS_plan_109, qfS_71, rp_0_9, pS_plan_112, qmS_238, cy_P_search, pS_plan_115, pS_plan_118, pS_plan_119, pS_plan_122, qfS_241, rp_6_13, pS_plan_125, stp_goto, pS_plan_128, pS_plan_129, pS_plan_131, pS_plan_134, bp_m3, bp_m5, ic_1, ic_4, bp_m7, bp_m2, nv_S_plan, ml_S_plan, eq_true h6, rm, rh, Option.toList_some, Bool.not_false, t1, lvS_within, lvS_mayAllBeDriven, lvS_hasLotInOne, lvS_refuse]
                refine ⟨7, 0, 0, by decide, by decide, by decide, call3.mono fun rr w2 h' => ?_⟩
                obtain ⟨rfl, eL, eP, hRp⟩ := h'
                obtain ⟨C1, C2, C3, C4, C5⟩ := pn_S (mny := bitN x) h ex (ey.trans h6') (by omega) nK nT nL hRp
                have hS2 : SSh w2 := SSh_of hS hRp.1
                have e9 : wI w2 0 0 9 = nI (cn w 2) := by rw [hRp.2.1 _ _ _ (by omega), h0.1]; exact T1.1
                have F1' : CpE w2 (F.map (fun f => f.1)) := CpE_cg (w := w) (Exw_2 hRp.1) (fun t k i ht => hRp.2.1 t k i (by omega)) F1
                have s125 : ∀ j, j < cn w 17 → btB x j = true → wI w 125 0 j = -1 := fun j hj hb => by
                  obtain ⟨-, -, -, -, -, -, -, -, -, -, -, -, -, -, -, -, -, -, -, -, -, -, d5, d6⟩ := (iv_L h hj).2.1
                  exact d6.mpr (Classical.byContradiction fun z => nL j hj hb (d5.mpr z))
                have inj : ∀ i i', i < bitN x → i' < bitN x → eL i = eL i' → i = i' := fun i i' hi hi' z => (C1.2.2.2.2.2.2.1 i i' hi hi').1 z
                have cap : ∀ k, ((F.map (fun f => f.1)).filter (fun e => decide (e.1 = k))).length + bitN x ≤ 24 := fun k => by
                  have := own_cap (k := k) ((List.range (bitN x)).map eL) F4 (by
                    unfold List.Nodup
                    rw [List.pairwise_map]
                    refine List.Pairwise.imp_of_mem (fun {i i'} hi hi' hne z => hne (inj i i' (List.mem_range.mp hi) (List.mem_range.mp hi') z)) (List.nodup_range (n := bitN x))) (fun j hj => by
                    obtain ⟨i, hi, rfl⟩ := List.mem_map.mp hj
                    have hi := List.mem_range.mp hi
                    exact ⟨C5 i hi, s125 _ (C5 i hi) (C4 i hi).1⟩) b17
                  rw [List.length_map, List.length_range] at this
                  rw [List.filter_map, List.length_map]
                  exact this
                have call4 := smP_search (l := l) (G := G) (w := w2) (B := 1400 * c) C1 F1' (by rw [C2]; exact F3) (by omega) (by omega) cap C4
                rw [C2, C3] at call4
                have eR : plR w x y (cn w 2) (F.map (fun f => f.1)) = srch (grf w) (dsM w) (fun j => (wI w 123 0 j).toNatClampNeg) (cn w 2) (bitN x) (bitN x) eL eP (bitN x) 0 (btB x) (btB y) (cn w 2) (F.map (fun f => f.1)) pl00 (none, pl00) := by
                  unfold plR srM
                  rw [srch_cmp (L0 := btB x) (P0 := btB y) (eL := eL) (eP := eP) hRp.2.2.2.2.1 hRp.2.2.2.2.2.1 (bitN x) 0 (btB x) (btB y) (cn w 2) _ pl00 (none, pl00) (fun _ z => z) (fun _ z => z), ex, ey, h6']
                revert call4 eR
                generalize srch (grf w) (dsM w) (fun j => (wI w 123 0 j).toNatClampNeg) (cn w 2) (bitN x) (bitN x) eL eP (bitN x) 0 (btB x) (btB y) (cn w 2) (F.map (fun f => f.1)) pl00 (none, pl00) = R
                intro call4 eR
                refine wpn_ok (M := mS_plan) (C := cenS) (X := (alk [(79, lvS_refuse, fsS_refuse)])) (tb := tS_plan) (st := []) eoS (XOk_cons qmS_79 (okS_refuse l G) XOk_nil) kS_plan 60 _ _ _ _ _ _ ?_
                simp only [reduceCtorEq, fv0, fv1, fv2, fv3, bI_0, bI_1, bft, MSh_sI_eq, fsP_T, inL_0, inL_s, pad_0, pad_n, pad_s, wpn_s, wp1_s, lg_0, lg_s, lset_0, lset_s, kil_0, kil_s, st1_s, st2_s, isL_i, isL_l, isL_r, isL_n, spl_0, spl_s, cll_n, cll_s, catS_0, catS_s, jmp_s, alk_0, alk_s, otl_n, otl_s, List.nil_append, List.cons_append, List.contains_cons, List.contains_nil, Nat.reduceBEq, Bool.or_false, Bool.false_or, Bool.or_self, Bool.false_eq_true, Bool.true_or, Bool.or_true, if_true, if_false, ite_true, ite_false, ↓reduceIte, List.length_cons, List.length_nil, Nat.reduceAdd, Nat.reduceLT, Nat.reduceLeDiff, Nat.reduceEqDiff, Int.reduceAdd, Int.reduceLE, Int.toNat_natCast, Int.reduceToNat, Int.cast_ofNat_Int, true_and, and_true, false_and, and_false, true_implies, forall_const, eq_self, and_self, or_true, true_or, or_self, false_or, or_false, yI_sI, yR_sI, yC_sI, yN_sI, yI_sR, yR_sR, yC_sR, yN_sR, not_true_eq_false, not_false_eq_true, false_implies, implies_true, Nat.zero_add, Nat.add_zero, Nat.le_refl, Nat.reduceSub, Int.reduceSub, Int.reduceLT, Int.sub_zero, Int.sub_self, List.getElem?_toArray, List.getElem?_cons_zero, List.getElem?_cons_succ, Int.toNat_zero, Int.toNat_one, Int.lt_irrefl, yI_sB, yR_sB, yC_sB, yN_sB, MSh_sB_eq, pS_plan_0, stp_iload_n, pS_plan_1, stp_aload_n, pS_plan_2, stp_getfield, qfS_19, rp_0_1, ss_C0 hS2, ss_R0_1 hS2, ss_C2 hS2, pS_plan_5, stp_invokevirtual, qmS_96, cy_L_size, pS_plan_8, stp_iushr, pS_plan_9, stp_ifCond_ne, pS_plan_12, pS_plan_13, pS_plan_14, qfS_12, rp_0_0, ss_R0_0 hS2, ss_C1 hS2, pS_plan_17, qfS_83, rp_1_4, pS_plan_20, pS_plan_21, stp_ifCond_eq, pS_plan_24, pS_plan_25, stp_bipush, pS_plan_27, qmS_79, cy_S_refuse, pS_plan_30, stp_ireturn, pS_plan_31, pS_plan_32, pS_plan_33, qmS_221, cy_S_arePens, pS_plan_36, pS_plan_39, pS_plan_40, pS_plan_42, pS_plan_45, pS_plan_46, pS_plan_47, stp_invokestatic, qmS_224, pS_plan_50, stp_istore_n, pS_plan_51, pS_plan_52, stp_iconst, pS_plan_53, pS_plan_54, qmS_75, cy_S_within, pS_plan_57, pS_plan_60, pS_plan_61, pS_plan_64, pS_plan_65, stp_if_icmp_eq, pS_plan_68, pS_plan_69, pS_plan_71, pS_plan_74, pS_plan_75, pS_plan_76, pS_plan_77, qmS_229, cy_S_mayAllBeDriven, pS_plan_80, pS_plan_83, pS_plan_84, pS_plan_85, qmS_232, cy_S_hasLotInOne, pS_plan_88, pS_plan_91, pS_plan_92, pS_plan_94, pS_plan_97, pS_plan_98, pS_plan_99, pS_plan_100, pS_plan_101, qmS_235, cy_S_readyPlanner, pS_plan_104, pS_plan_105, qfS_49, rp_0_5, ss_R0_5 hS2, ss_C6 hS2, pS_plan_108, pS_plan_109, qfS_71, rp_0_9, pS_plan_112, qmS_238, cy_P_search, pS_plan_115, pS_plan_118, pS_plan_119, pS_plan_122, qfS_241, rp_6_13, pS_plan_125, stp_goto, pS_plan_128, pS_plan_129, pS_plan_131, pS_plan_134, bp_m3, bp_m5, ic_1, ic_4, bp_m7, bp_m2, nv_S_plan, ml_S_plan, e9, Option.toList_none, lvS_refuse]
                refine ⟨16, 0, 0, by decide, by decide, by decide, call4.mono fun rr w3 h' => ?_⟩
                obtain ⟨rfl, hJ⟩ := h'
                have hS3 : SSh w3 := SSh_of hS2 hJ.1.1
                obtain ⟨G1, G2⟩ := pn_fin (l := l) (G := G) h hc F1 F2 F3 F4 (by omega) (by omega) hd hRp eR hJ
                refine wpn_ok (M := mS_plan) (C := cenS) (X := (alk [(79, lvS_refuse, fsS_refuse)])) (tb := tS_plan) (st := []) eoS (XOk_cons qmS_79 (okS_refuse l G) XOk_nil) kS_plan 60 _ _ _ _ _ _ ?_
                cases hv : R.1 with
                | none =>
                  simp only [reduceCtorEq, fv0, fv1, fv2, fv3, bI_0, bI_1, bft, MSh_sI_eq, fsP_T, inL_0, inL_s, pad_0, pad_n, pad_s, wpn_s, wp1_s, lg_0, lg_s, lset_0, lset_s, kil_0, kil_s, st1_s, st2_s, isL_i, isL_l, isL_r, isL_n, spl_0, spl_s, cll_n, cll_s, catS_0, catS_s, jmp_s, alk_0, alk_s, otl_n, otl_s, List.nil_append, List.cons_append, List.contains_cons, List.contains_nil, Nat.reduceBEq, Bool.or_false, Bool.false_or, Bool.or_self, Bool.false_eq_true, Bool.true_or, Bool.or_true, if_true, if_false, ite_true, ite_false, ↓reduceIte, List.length_cons, List.length_nil, Nat.reduceAdd, Nat.reduceLT, Nat.reduceLeDiff, Nat.reduceEqDiff, Int.reduceAdd, Int.reduceLE, Int.toNat_natCast, Int.reduceToNat, Int.cast_ofNat_Int, true_and, and_true, false_and, and_false, true_implies, forall_const, eq_self, and_self, or_true, true_or, or_self, false_or, or_false, yI_sI, yR_sI, yC_sI, yN_sI, yI_sR, yR_sR, yC_sR, yN_sR, not_true_eq_false, not_false_eq_true, false_implies, implies_true, Nat.zero_add, Nat.add_zero, Nat.le_refl, Nat.reduceSub, Int.reduceSub, Int.reduceLT, Int.sub_zero, Int.sub_self, List.getElem?_toArray, List.getElem?_cons_zero, List.getElem?_cons_succ, Int.toNat_zero, Int.toNat_one, Int.lt_irrefl, yI_sB, yR_sB, yC_sB, yN_sB, MSh_sB_eq, pS_plan_0, stp_iload_n, pS_plan_1, stp_aload_n, pS_plan_2, stp_getfield, qfS_19, rp_0_1, ss_C0 hS3, ss_R0_1 hS3, ss_C2 hS3, pS_plan_5, stp_invokevirtual, qmS_96, cy_L_size, pS_plan_8, stp_iushr, pS_plan_9, stp_ifCond_ne, pS_plan_12, pS_plan_13, pS_plan_14, qfS_12, rp_0_0, ss_R0_0 hS3, ss_C1 hS3, pS_plan_17, qfS_83, rp_1_4, pS_plan_20, pS_plan_21, stp_ifCond_eq, pS_plan_24, pS_plan_25, stp_bipush, pS_plan_27, qmS_79, cy_S_refuse, pS_plan_30, stp_ireturn, pS_plan_31, pS_plan_32, pS_plan_33, qmS_221, cy_S_arePens, pS_plan_36, pS_plan_39, pS_plan_40, pS_plan_42, pS_plan_45, pS_plan_46, pS_plan_47, stp_invokestatic, qmS_224, pS_plan_50, stp_istore_n, pS_plan_51, pS_plan_52, stp_iconst, pS_plan_53, pS_plan_54, qmS_75, cy_S_within, pS_plan_57, pS_plan_60, pS_plan_61, pS_plan_64, pS_plan_65, stp_if_icmp_eq, pS_plan_68, pS_plan_69, pS_plan_71, pS_plan_74, pS_plan_75, pS_plan_76, pS_plan_77, qmS_229, cy_S_mayAllBeDriven, pS_plan_80, pS_plan_83, pS_plan_84, pS_plan_85, qmS_232, cy_S_hasLotInOne, pS_plan_88, pS_plan_91, pS_plan_92, pS_plan_94, pS_plan_97, pS_plan_98, pS_plan_99, pS_plan_100, pS_plan_101, qmS_235, cy_S_readyPlanner, pS_plan_104, pS_plan_105, qfS_49, rp_0_5, ss_R0_5 hS3, ss_C6 hS3, pS_plan_108, pS_plan_109, qfS_71, rp_0_9, pS_plan_112, qmS_238, cy_P_search, pS_plan_115, pS_plan_118, pS_plan_119, pS_plan_122, qfS_241, rp_6_13, pS_plan_125, stp_goto, pS_plan_128, pS_plan_129, pS_plan_131, pS_plan_134, bp_m3, bp_m5, ic_1, ic_4, bp_m7, bp_m2, nv_S_plan, ml_S_plan, Option.toList_some, Option.isSome_none, rfS_2 hS3, lvS_refuse]
                  exact G2 hv
                | some v =>
                  simp only [reduceCtorEq, fv0, fv1, fv2, fv3, bI_0, bI_1, bft, MSh_sI_eq, fsP_T, inL_0, inL_s, pad_0, pad_n, pad_s, wpn_s, wp1_s, lg_0, lg_s, lset_0, lset_s, kil_0, kil_s, st1_s, st2_s, isL_i, isL_l, isL_r, isL_n, spl_0, spl_s, cll_n, cll_s, catS_0, catS_s, jmp_s, alk_0, alk_s, otl_n, otl_s, List.nil_append, List.cons_append, List.contains_cons, List.contains_nil, Nat.reduceBEq, Bool.or_false, Bool.false_or, Bool.or_self, Bool.false_eq_true, Bool.true_or, Bool.or_true, if_true, if_false, ite_true, ite_false, ↓reduceIte, List.length_cons, List.length_nil, Nat.reduceAdd, Nat.reduceLT, Nat.reduceLeDiff, Nat.reduceEqDiff, Int.reduceAdd, Int.reduceLE, Int.toNat_natCast, Int.reduceToNat, Int.cast_ofNat_Int, true_and, and_true, false_and, and_false, true_implies, forall_const, eq_self, and_self, or_true, true_or, or_self, false_or, or_false, yI_sI, yR_sI, yC_sI, yN_sI, yI_sR, yR_sR, yC_sR, yN_sR, not_true_eq_false, not_false_eq_true, false_implies, implies_true, Nat.zero_add, Nat.add_zero, Nat.le_refl, Nat.reduceSub, Int.reduceSub, Int.reduceLT, Int.sub_zero, Int.sub_self, List.getElem?_toArray, List.getElem?_cons_zero, List.getElem?_cons_succ, Int.toNat_zero, Int.toNat_one, Int.lt_irrefl, yI_sB, yR_sB, yC_sB, yN_sB, MSh_sB_eq, pS_plan_0, stp_iload_n, pS_plan_1, stp_aload_n, pS_plan_2, stp_getfield, qfS_19, rp_0_1, ss_C0 hS3, ss_R0_1 hS3, ss_C2 hS3, pS_plan_5, stp_invokevirtual, qmS_96, cy_L_size, pS_plan_8, stp_iushr, pS_plan_9, stp_ifCond_ne, pS_plan_12, pS_plan_13, pS_plan_14, qfS_12, rp_0_0, ss_R0_0 hS3, ss_C1 hS3, pS_plan_17, qfS_83, rp_1_4, pS_plan_20, pS_plan_21, stp_ifCond_eq, pS_plan_24, pS_plan_25, stp_bipush, pS_plan_27, qmS_79, cy_S_refuse, pS_plan_30, stp_ireturn, pS_plan_31, pS_plan_32, pS_plan_33, qmS_221, cy_S_arePens, pS_plan_36, pS_plan_39, pS_plan_40, pS_plan_42, pS_plan_45, pS_plan_46, pS_plan_47, stp_invokestatic, qmS_224, pS_plan_50, stp_istore_n, pS_plan_51, pS_plan_52, stp_iconst, pS_plan_53, pS_plan_54, qmS_75, cy_S_within, pS_plan_57, pS_plan_60, pS_plan_61, pS_plan_64, pS_plan_65, stp_if_icmp_eq, pS_plan_68, pS_plan_69, pS_plan_71, pS_plan_74, pS_plan_75, pS_plan_76, pS_plan_77, qmS_229, cy_S_mayAllBeDriven, pS_plan_80, pS_plan_83, pS_plan_84, pS_plan_85, qmS_232, cy_S_hasLotInOne, pS_plan_88, pS_plan_91, pS_plan_92, pS_plan_94, pS_plan_97, pS_plan_98, pS_plan_99, pS_plan_100, pS_plan_101, qmS_235, cy_S_readyPlanner, pS_plan_104, pS_plan_105, qfS_49, rp_0_5, ss_R0_5 hS3, ss_C6 hS3, pS_plan_108, pS_plan_109, qfS_71, rp_0_9, pS_plan_112, qmS_238, cy_P_search, pS_plan_115, pS_plan_118, pS_plan_119, pS_plan_122, qfS_241, rp_6_13, pS_plan_125, stp_goto, pS_plan_128, pS_plan_129, pS_plan_131, pS_plan_134, bp_m3, bp_m5, ic_1, ic_4, bp_m7, bp_m2, nv_S_plan, ml_S_plan, Option.toList_some, Option.isSome_some, t1, lvS_refuse]
                  exact G1 v hv
end
