/-! readyPlanner, whole -/
def RpP (w w' : Wd) (x y : Int32) (pa eL eP : Nat → Nat) : Prop := w'.2 = w.2 ∧ (∀ t k q, ¬ (((t = 8 ∨ t = 184 ∨ t = 185) ∧ k < 16) ∨ t = 177 ∨ t = 178 ∨ (t = 6 ∧ k = 0 ∧ (q = 8 ∨ q = 9))) → wI w' t k q = wI w t k q) ∧ wI w' 6 0 8 = nI (cnN (btB x) (cn w 17)) ∧ wI w' 6 0 9 = nI (cnN (btB y) (cn w 3)) ∧ (∀ j, j < cn w 17 → btB x j = true → eL (cnN (btB x) j) = j) ∧ (∀ j, j < cn w 3 → btB y j = true → eP (cnN (btB y) j) = j) ∧ (∀ q, q < cnN (btB x) (cn w 17) → wI w' 177 0 q = nI (eL q)) ∧ (∀ q, q < cnN (btB y) (cn w 3) → wI w' 178 0 q = nI (eP q)) ∧ ∀ q r, q < cnN (btB x) (cn w 17) → r < cnN (btB y) (cn w 3) → WyF w' (4 * q + r) (pa (eL q)) (eP r)
theorem RpP_W {w w' : Wd} {x y : Int32} {pa eL eP : Nat → Nat} (h : RpP w w' x y pa eL eP) : SmW w w' := ⟨h.1, fun t k q hn => h.2.1 t k q (by omega)⟩
theorem en_ok {p : Nat → Bool} {e : Nat → Nat} {n q : Nat} (h : ∀ j, j < n → p j = true → e (cnN p j) = j) (hq : q < cnN p n) : e q < n ∧ p (e q) = true ∧ cnN p (e q) = q := by
  obtain ⟨j, h1, h2, h3⟩ := cnN_at hq
  have := h j h1 h2
  rw [h3] at this
  rw [this]
  exact ⟨h1, h2, h3⟩
section
variable {l : Launch} {G : Gc} {w : Wd}
set_option maxRecDepth 100000 in
set_option maxHeartbeats 4000000 in
theorem smS_readyPlanner {x y : Int32} {pa : Nat → Nat} (hC : Cpy w) (hL : CpL w) (hx4 : cnN (btB x) (cn w 17) ≤ 4) (hy4 : cnN (btB y) (cn w 3) ≤ 4) (hat : ∀ j, j < cn w 17 → btB x j = true → wI w 123 0 j = nI (pa j) ∧ pa j < cn w 3) : Sem l G mS_readyPlanner 7 0 0 [.inr (.inr (some (0, 0))), .inl x, .inl y] w (fun r w' => r = none ∧ ∃ eL eP, RpP w w' x y pa eL eP) := by
  have hS := hC.1
  have h14 := hC.2.2.2.1.2.1.2
  have h24 := hL.1.2.1
  have rc := ruP_clear hS
  generalize hw1 : sI (sI w 6 0 8 0) 6 0 9 0 = w1 at rc
  have e1 : ∀ t k q, wI w1 t k q = if t = 6 ∧ k = 0 ∧ q = 9 then 0 else if t = 6 ∧ k = 0 ∧ q = 8 then 0 else wI w t k q := fun t k q => by rw [← hw1, yI_sI, yI_sI]
  have d1 : w1.2 = w.2 := by rw [← hw1, sI_2, sI_2]
  have sm1 : SmW w w1 := ⟨d1, fun t k q hn => by rw [e1, if_neg (by omega), if_neg (by omega)]⟩
  have hC1 := Cpy_W sm1 hC
  have c3 := SmW_c sm1 3
  have c17 := SmW_c sm1 17
  have hA0 : RpA w1 w1 y 0 := ⟨rfl, fun _ _ _ _ => rfl, by rw [e1, if_neg (by omega), if_pos ⟨rfl, rfl, rfl⟩], by rw [e1, if_pos ⟨rfl, rfl, rfl⟩]; rfl, fun j hj => by omega⟩
  have key := lpS_readyA (l := l) (G := G) (n := 7) (w0 := w1) (x := x) (y := y) (Q := fun r w' => r = none ∧ ∃ eL eP, RpP w w' x y pa eL eP) (by decide) hC1 (by rw [c3]; exact hy4) (fun w2 hA => ?_) (cn w1 3) 0 w1 (by omega) hA0
  · refine Sem_of (by decide) rfl (Nat.le_of_ble_eq_true rfl) ?_
    rw [nI_0] at key
    refine wpn_ok (M := mS_readyPlanner) (C := cenS) (X := (alk [(400, lvP_clear, fsP_clear)])) (tb := tS_readyPlanner) (st := [9]) eoS (XOk_cons qmS_400 (okP_clear l G) XOk_nil) kS_readyPlanner 60 _ _ _ _ _ _ ?_
    simp only [reduceCtorEq, fv0, fv1, fv2, fv3, bI_0, bI_1, bft, MSh_sI_eq, fsP_T, inL_0, inL_s, pad_0, pad_n, pad_s, wpn_s, wp1_s, lg_0, lg_s, lset_0, lset_s, kil_0, kil_s, st1_s, st2_s, isL_i, isL_l, isL_r, isL_n, spl_0, spl_s, cll_n, cll_s, catS_0, catS_s, jmp_s, alk_0, alk_s, otl_n, otl_s, List.nil_append, List.cons_append, List.contains_cons, List.contains_nil, Nat.reduceBEq, Bool.or_false, Bool.false_or, Bool.or_self, Bool.false_eq_true, Bool.true_or, Bool.or_true, if_true, if_false, ite_true, ite_false, ↓reduceIte, List.length_cons, List.length_nil, Nat.reduceAdd, Nat.reduceLT, Nat.reduceLeDiff, Nat.reduceEqDiff, Int.reduceAdd, Int.reduceLE, Int.toNat_natCast, Int.reduceToNat, Int.cast_ofNat_Int, true_and, and_true, false_and, and_false, true_implies, forall_const, eq_self, and_self, or_true, true_or, or_self, false_or, or_false, yI_sI, yR_sI, yC_sI, yN_sI, yI_sR, yR_sR, yC_sR, yN_sR, not_true_eq_false, not_false_eq_true, false_implies, implies_true, Nat.zero_add, Nat.add_zero, Nat.le_refl, Nat.reduceSub, Int.reduceSub, Int.reduceLT, Int.sub_zero, Int.sub_self, List.getElem?_toArray, List.getElem?_cons_zero, List.getElem?_cons_succ, Int.toNat_zero, Int.toNat_one, Int.lt_irrefl, yI_sB, yR_sB, yC_sB, yN_sB, MSh_sB_eq, pS_readyPlanner_0, stp_aload_n, pS_readyPlanner_1, stp_getfield, qfS_49, rp_0_5, ss_C0 hS, ss_R0_5 hS, ss_C6 hS, pS_readyPlanner_4, stp_invokevirtual, qmS_400, cy_P_clear, pS_readyPlanner_7, stp_iconst, pS_readyPlanner_8, stp_istore_n, pS_readyPlanner_9, stp_iload_n, pS_readyPlanner_10, pS_readyPlanner_11, qfS_12, rp_0_0, ss_R0_0 hS, ss_C1 hS, pS_readyPlanner_14, qfS_83, rp_1_4, pS_readyPlanner_17, stp_if_icmp_ge, pS_readyPlanner_20, pS_readyPlanner_21, pS_readyPlanner_22, stp_invokestatic, qmS_397, cy_S_inSet, pS_readyPlanner_25, stp_ifCond_eq, pS_readyPlanner_28, pS_readyPlanner_29, pS_readyPlanner_32, pS_readyPlanner_33, qmS_403, cy_P_addPen, pS_readyPlanner_36, stp_iinc, pS_readyPlanner_39, stp_goto, pS_readyPlanner_42, pS_readyPlanner_43, pS_readyPlanner_44, pS_readyPlanner_45, pS_readyPlanner_46, qfS_19, rp_0_1, ss_R0_1 hS, ss_C2 hS, pS_readyPlanner_49, qmS_96, cy_L_size, pS_readyPlanner_52, pS_readyPlanner_55, pS_readyPlanner_56, pS_readyPlanner_57, pS_readyPlanner_60, pS_readyPlanner_63, pS_readyPlanner_64, pS_readyPlanner_67, pS_readyPlanner_68, pS_readyPlanner_69, pS_readyPlanner_72, pS_readyPlanner_73, qmS_277, cy_L_get, pS_readyPlanner_76, stp_checkcast, qtS_132, pS_readyPlanner_79, qfS_167, rp_10_7, pS_readyPlanner_82, qmS_406, cy_P_addLot, pS_readyPlanner_85, pS_readyPlanner_88, pS_readyPlanner_91, stp_return_, ic_0, ic_1, nv_S_readyPlanner, ml_S_readyPlanner, rc, lvP_clear]
    exact key
  · rw [c3] at hA
    have sm2 := RpA_W hA
    have hC2 := Cpy_W sm2 hC1
    have c3' := SmW_c sm2 3
    have c17' := SmW_c sm2 17
    have heP : ∀ j, j < cn w 3 → btB y j = true → (wI w2 178 0 (cnN (btB y) j)).toNatClampNeg = j := fun j hj hb => by rw [hA.2.2.2.2 j hj hb]; exact nI_clamp (by omega)
    have hL2 : CpL w2 := by
      obtain ⟨l1, l2⟩ := hL
      have f : ∀ t k q, ¬ (t = 178 ∨ (t = 6 ∧ k = 0 ∧ (q = 8 ∨ q = 9))) → wI w2 t k q = wI w t k q := fun t k q hn => by rw [hA.2.1 t k q hn, e1, if_neg (by omega), if_neg (by omega)]
      have cc : cn w2 17 = cn w 17 := c17'.trans c17
      have d2 : w2.2 = w.2 := hA.1.trans d1
      refine ⟨by rw [cc]; exact LiS_cg d2 (f 2 1 2 (by omega)) l1, fun j hj => ?_⟩
      rw [cc] at hj
      obtain ⟨t1, t2⟩ := l2 j hj
      refine ⟨LtS_cg d2 t1, ?_⟩
      unfold LtC at t2 ⊢
      have g : ∀ t k q, 10 ≤ t ∧ t ≤ 11 ∨ 100 ≤ t ∧ t ≤ 170 ∨ t = 187 ∨ 200 ≤ t → wI w2 t k q = wI w t k q := fun t k q hn => f t k q (by omega)
      simp only [g 10 _ _ (by omega), g 11 _ _ (by omega), g 118 _ _ (by omega), g 119 _ _ (by omega), g 120 _ _ (by omega), g 121 _ _ (by omega), g 122 _ _ (by omega), g 123 _ _ (by omega), g 124 _ _ (by omega), g 125 _ _ (by omega), g 126 _ _ (by omega), g 128 _ _ (by omega), g 129 _ _ (by omega), g 131 _ _ (by omega), g 132 _ _ (by omega), g 133 _ _ (by omega), g 134 _ _ (by omega), g 136 _ _ (by omega), g 187 _ _ (by omega), g 227 _ _ (by omega), g 230 _ _ (by omega), g 235 _ _ (by omega), g 239 _ _ (by omega)]
      exact t2
    have hp : ∀ q, q < cnN (btB y) (cn w 3) → (fun q => (wI w2 178 0 q).toNatClampNeg) q < cn w2 3 ∧ wI w2 178 0 q = nI ((fun q => (wI w2 178 0 q).toNatClampNeg) q) := fun q hq => by
      obtain ⟨j, h1, h2, h3⟩ := cnN_at hq
      have a := hA.2.2.2.2 j h1 h2
      rw [h3] at a
      simp only [a, nI_clamp (show j < 2 ^ 31 by omega)]
      rw [c3', c3]
      exact ⟨h1, trivial⟩
    have hat2 : ∀ i, i < cn w2 17 → btB x i = true → wI w2 123 0 i = nI (pa i) ∧ pa i < cn w2 3 := fun i hi hb => by
      rw [c17', c17] at hi
      obtain ⟨a1, a2⟩ := hat i hi hb
      rw [hA.2.1 123 0 i (by omega), e1, if_neg (by omega), if_neg (by omega), c3', c3]
      exact ⟨a1, a2⟩
    have hB0 : RpB w2 w2 x (cnN (btB y) (cn w 3)) pa (fun q => (wI w2 178 0 q).toNatClampNeg) 0 := ⟨rfl, fun _ _ _ _ => rfl, hA.2.2.1, hA.2.2.2.1, fun q hq => (hp q hq).2, fun j hj => by omega⟩
    refine lpS_readyB (by decide) hC2 hL2 (by rw [c17', c17]; exact hx4) hy4 (fun q hq => (hp q hq).1) hat2 (fun w3 hB => ⟨rfl, ?_⟩) (cn w2 17) 0 w2 (by omega) hB0
    rw [c17', c17] at hB
    obtain ⟨b1, b2, b3, b4, b5, b6⟩ := hB
    have heL : ∀ j, j < cn w 17 → btB x j = true → (fun q => (wI w3 177 0 q).toNatClampNeg) (cnN (btB x) j) = j := fun j hj hb => by simp only [(b6 j hj hb).1]; exact nI_clamp (by omega)
    refine ⟨fun q => (wI w3 177 0 q).toNatClampNeg, fun q => (wI w2 178 0 q).toNatClampNeg, b1.trans (hA.1.trans d1), fun t k q hn => by rw [b2 t k q hn, hA.2.1 t k q (by omega), e1, if_neg (by omega), if_neg (by omega)], b3, b4, heL, heP, fun q hq => ?_, b5, fun q r hq hr => ?_⟩
    · obtain ⟨j, h1, h2, h3⟩ := cnN_at hq
      have a := (b6 j h1 h2).1
      rw [h3] at a
      simp only [a, nI_clamp (show j < 2 ^ 31 by omega)]
    · obtain ⟨j, h1, h2, h3⟩ := cnN_at hq
      have e := heL j h1 h2
      rw [h3] at e
      rw [e]
      have a := (b6 j h1 h2).2 r hr
      rw [h3] at a
      exact a
end
