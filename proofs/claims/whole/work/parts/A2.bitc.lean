/-! Integer.bitCount -/
theorem and_lane (a b : Nat) : a &&& b = ((a % 256) &&& (b % 256)) + 256 * ((a / 256) &&& (b / 256)) := by
  have h1 : (a &&& b) % 2 ^ 8 = (a % 2 ^ 8) &&& (b % 2 ^ 8) := Nat.and_mod_two_pow
  have h2 : (a &&& b) / 2 ^ 8 = (a / 2 ^ 8) &&& (b / 2 ^ 8) := Nat.and_div_two_pow
  have h3 := Nat.mod_add_div (a &&& b) 256
  rw [show (2 : Nat) ^ 8 = 256 by decide] at h1 h2
  rw [← h1, ← h2]
  exact h3.symm
def bc1 (x m : Nat) : Nat := x - ((x / 2) &&& m)
def bc2 (x m : Nat) : Nat := (x &&& m) + ((x / 4) &&& m)
def bc3 (x m : Nat) : Nat := (x + x / 16) &&& m
theorem bc_d1 : ∀ b, b < 256 → ∀ r, r < 2 → (b / 2 + 128 * r) &&& 85 = (b / 2) &&& 85 := by decide +kernel
theorem bc_d2 : ∀ b, b < 256 → ∀ r, r < 4 → (b / 4 + 64 * r) &&& 51 = (b / 4) &&& 51 := by decide +kernel
theorem bc_d3 : ∀ b, b < 256 → bc1 b 85 < 256 ∧ bc2 (bc1 b 85) 51 % 16 ≤ 4 ∧ bc2 (bc1 b 85) 51 / 16 ≤ 4 ∧ bc3 (bc2 (bc1 b 85) 51) 15 = cnN (fun i => b.testBit i) 8 ∧ bc3 (bc2 (bc1 b 85) 51) 15 ≤ 8 := by decide +kernel
theorem bc_l1 {b R M : Nat} (hb : b < 256) : bc1 (b + 256 * R) (85 + 256 * M) = bc1 b 85 + 256 * bc1 R M := by
  unfold bc1
  rw [and_lane ((b + 256 * R) / 2), show (b + 256 * R) / 2 % 256 = b / 2 + 128 * (R % 2) by omega, show (b + 256 * R) / 2 / 256 = R / 2 by omega, show (85 + 256 * M) % 256 = 85 by omega, show (85 + 256 * M) / 256 = M by omega, bc_d1 b hb (R % 2) (by omega)]
  have h1 : (b / 2 &&& 85) ≤ b / 2 := Nat.and_le_left
  have h2 : (R / 2 &&& M) ≤ R / 2 := Nat.and_le_left
  omega
theorem bc_l2 {b R M : Nat} (hb : b < 256) : bc2 (b + 256 * R) (51 + 256 * M) = bc2 b 51 + 256 * bc2 R M := by
  unfold bc2
  rw [and_lane ((b + 256 * R) / 4), and_lane (b + 256 * R), show (b + 256 * R) / 4 % 256 = b / 4 + 64 * (R % 4) by omega, show (b + 256 * R) / 4 / 256 = R / 4 by omega, show (51 + 256 * M) % 256 = 51 by omega, show (51 + 256 * M) / 256 = M by omega, bc_d2 b hb (R % 4) (by omega), show (b + 256 * R) % 256 = b by omega, show (b + 256 * R) / 256 = R by omega]
  omega
theorem bc_l3 {b R M : Nat} (h1 : b % 16 ≤ 4) (h2 : b / 16 ≤ 4) (h3 : R % 16 ≤ 4) : bc3 (b + 256 * R) (15 + 256 * M) = bc3 b 15 + 256 * bc3 R M := by
  unfold bc3
  have h15 : ∀ a, a &&& 15 = a % 16 := fun a => Nat.and_two_pow_sub_one_eq_mod a 4
  rw [and_lane (b + 256 * R + (b + 256 * R) / 16), show (15 + 256 * M) % 256 = 15 by omega, show (15 + 256 * M) / 256 = M by omega, show (b + 256 * R + (b + 256 * R) / 16) / 256 = R + R / 16 by omega, h15, h15, show (b + 256 * R + (b + 256 * R) / 16) % 256 % 16 = (b + b / 16) % 16 by omega]
theorem cn_lane (f : Nat → Bool) (n : Nat) : cnN f (n + 8) = cnN f n + cnN (fun i => f (n + i)) 8 := by
  simp only [cnN, Nat.add_zero]
  omega
theorem bc_nat {X : Nat} (hX : X < 2 ^ 32) : ∃ p0 p1 p2 p3, bc3 (bc2 (bc1 X 1431655765) 858993459) 252645135 = p0 + 256 * (p1 + 256 * (p2 + 256 * p3)) ∧ p0 ≤ 8 ∧ p1 ≤ 8 ∧ p2 ≤ 8 ∧ p3 ≤ 8 ∧ cnN (fun i => X.testBit i) 32 = p0 + p1 + p2 + p3 ∧ bc2 (bc1 X 1431655765) 858993459 < 2 ^ 31 ∧ bc1 X 1431655765 < 2 ^ 32 := by
  have hX' : X < 4294967296 := hX
  obtain ⟨b0, b1, b2, b3, h0, h1, h2, h3, e⟩ : ∃ b0 b1 b2 b3, b0 < 256 ∧ b1 < 256 ∧ b2 < 256 ∧ b3 < 256 ∧ X = b0 + 256 * (b1 + 256 * (b2 + 256 * b3)) := ⟨X % 256, X / 256 % 256, X / 65536 % 256, X / 16777216, by omega, by omega, by omega, by omega, by omega⟩
  obtain ⟨a0, c0, d0, f0, g0⟩ := bc_d3 b0 h0
  obtain ⟨a1, c1, d1, f1, g1⟩ := bc_d3 b1 h1
  obtain ⟨a2, c2, d2, f2, g2⟩ := bc_d3 b2 h2
  obtain ⟨a3, c3, d3, f3, g3⟩ := bc_d3 b3 h3
  have s1 : bc1 X 1431655765 = bc1 b0 85 + 256 * (bc1 b1 85 + 256 * (bc1 b2 85 + 256 * bc1 b3 85)) := by
    rw [e, show 1431655765 = 85 + 256 * (85 + 256 * (85 + 256 * 85)) by decide, bc_l1 h0, bc_l1 h1, bc_l1 h2]
  have s2 : bc2 (bc1 X 1431655765) 858993459 = bc2 (bc1 b0 85) 51 + 256 * (bc2 (bc1 b1 85) 51 + 256 * (bc2 (bc1 b2 85) 51 + 256 * bc2 (bc1 b3 85) 51)) := by
    rw [s1, show 858993459 = 51 + 256 * (51 + 256 * (51 + 256 * 51)) by decide, bc_l2 a0, bc_l2 a1, bc_l2 a2]
  have s3 : bc3 (bc2 (bc1 X 1431655765) 858993459) 252645135 = bc3 (bc2 (bc1 b0 85) 51) 15 + 256 * (bc3 (bc2 (bc1 b1 85) 51) 15 + 256 * (bc3 (bc2 (bc1 b2 85) 51) 15 + 256 * bc3 (bc2 (bc1 b3 85) 51) 15)) := by
    rw [s2, show 252645135 = 15 + 256 * (15 + 256 * (15 + 256 * 15)) by decide, bc_l3 c0 d0 (by omega), bc_l3 c1 d1 (by omega), bc_l3 c2 d2 (by omega)]
  refine ⟨_, _, _, _, s3, g0, g1, g2, g3, ?_, by rw [s2]; omega, by rw [s1]; omega⟩
  rw [f0, f1, f2, f3]
  have t : ∀ k b, X / 2 ^ k % 256 = b → ∀ i, i < 8 → X.testBit (k + i) = b.testBit i := fun k b hb i hi => by
    rw [← hb, show (256 : Nat) = 2 ^ 8 by decide, Nat.testBit_mod_two_pow, Nat.testBit_div_two_pow, decide_eq_true hi, Bool.true_and, Nat.add_comm]
  have cg : ∀ k b, X / 2 ^ k % 256 = b → cnN (fun i => X.testBit (k + i)) 8 = cnN (fun i => b.testBit i) 8 := fun k b hb => by
    have := t k b hb
    simp only [cnN, this 0 (by omega), this 1 (by omega), this 2 (by omega), this 3 (by omega), this 4 (by omega), this 5 (by omega), this 6 (by omega), this 7 (by omega)]
  rw [show 32 = 0 + 8 + 8 + 8 + 8 by decide, cn_lane, cn_lane, cn_lane, cn_lane, cg 0 b0 (by omega), cg (0 + 8) b1 (by omega), cg (0 + 8 + 8) b2 (by omega), cg (0 + 8 + 8 + 8) b3 (by omega)]
  simp only [cnN, Nat.zero_add]
theorem bc_end {V p0 p1 p2 p3 : Nat} (e : V = p0 + 256 * (p1 + 256 * (p2 + 256 * p3))) (g0 : p0 ≤ 8) (g1 : p1 ≤ 8) (g2 : p2 ≤ 8) (g3 : p3 ≤ 8) : (V + V / 2 ^ 8 + (V + V / 2 ^ 8) / 2 ^ 16) % 2 ^ 6 = p0 + p1 + p2 + p3 := by
  have h1 : V / 2 ^ 8 = p1 + 256 * (p2 + 256 * p3) := by omega
  have h2 : (V + V / 2 ^ 8) / 2 ^ 16 = (p2 + p3) + 256 * p3 := by rw [h1, e]; omega
  rw [h2, h1, e]
  omega
theorem nI_and {a b : Nat} (ha : a < 2 ^ 32) (hb : b < 2 ^ 32) : nI a &&& nI b = nI (a &&& b) := by
  apply Int32.toBitVec_inj.mp
  apply BitVec.eq_of_toNat_eq
  rw [Int32.toBitVec_and, BitVec.toNat_and, pk_tn ha, pk_tn hb, pk_tn (Nat.lt_of_le_of_lt Nat.and_le_left ha)]
theorem bitN_nI {X : Nat} (hX : X < 2 ^ 31) : bitN (nI X) = cnN (fun i => X.testBit i) 32 := by
  unfold bitN
  have e : ∀ i, btB (nI X) i = X.testBit i := fun i => by
    unfold btB
    rw [BitVec.getLsbD, pk_tn (by omega)]
  have e31 : X.testBit 31 = false := Nat.testBit_lt_two_pow hX
  have q : cnN (fun i => X.testBit i) 32 = cnN (fun i => X.testBit i) 31 + (if X.testBit 31 = true then 1 else 0) := rfl
  rw [q, e31, show btB (nI X) = fun i => X.testBit i from funext e]
  simp
section
variable {l : Launch} {G : Gc} {w : Wd}
set_option maxRecDepth 100000 in
set_option maxHeartbeats 4000000 in
theorem smJi_bitCount {X : Nat} (hX : X < 2 ^ 31) : Sem l G mJi_bitCount 1 0 0 [.inl (nI X)] w (fun r w' => r = some (.inl (nI (bitN (nI X)))) ∧ w' = w) := by
  refine Sem_of (by decide) rfl (Nat.le_of_ble_eq_true rfl) ?_
  obtain ⟨p0, p1, p2, p3, e3, g0, g1, g2, g3, e4, b2, b1⟩ := bc_nat (X := X) (by omega)
  have u1 := pk_ushrN (n := X) (by omega) 1 1 (by decide)
  have E1 : nI X - (nI (X / 2 ^ 1) &&& 1431655765) = nI (bc1 X 1431655765) := by
    rw [show (1431655765 : Int32) = nI 1431655765 from rfl, nI_and (by omega) (by decide), nI_sub (Nat.le_trans Nat.and_le_left (by omega))]
    rfl
  generalize hY : bc1 X 1431655765 = Y at E1 e3 b1 b2
  have u2 := pk_ushrN (n := Y) (by omega) 2 2 (by decide)
  have E2 : (nI Y &&& 858993459) + (nI (Y / 2 ^ 2) &&& 858993459) = nI (bc2 Y 858993459) := by
    rw [show (858993459 : Int32) = nI 858993459 from rfl, nI_and (by omega) (by decide), nI_and (by omega) (by decide), nI_add]
    rfl
  generalize hZ : bc2 Y 858993459 = Z at E2 e3 b2
  have u3 := pk_ushrN (n := Z) (by omega) 4 4 (by decide)
  have E3 : (nI Z + nI (Z / 2 ^ 4)) &&& 252645135 = nI (bc3 Z 252645135) := by
    rw [show (252645135 : Int32) = nI 252645135 from rfl, nI_add, nI_and (by omega) (by decide)]
    rfl
  rw [nI_add] at E3
  generalize hV : bc3 Z 252645135 = V at E3 e3
  have u4 := pk_ushrN (n := V) (by omega) 8 8 (by decide)
  have u5 := pk_ushrN (n := V + V / 2 ^ 8) (by omega) 16 16 (by decide)
  have E4 := pk_andN (n := V + V / 2 ^ 8 + (V + V / 2 ^ 8) / 2 ^ 16) (by omega) (m := 63) 6 (by decide)
  refine wpn_ok (M := mJi_bitCount) (C := cenJi) (X := (alk [])) (tb := tJi_bitCount) (st := [4]) eoJi XOk_nil kJi_bitCount 60 _ _ _ _ _ _ ?_
  simp only [reduceCtorEq, fv0, fv1, fv2, fv3, bI_0, bI_1, bft, MSh_sI_eq, fsP_T, inL_0, inL_s, pad_0, pad_n, pad_s, wpn_s, wp1_s, lg_0, lg_s, lset_0, lset_s, kil_0, kil_s, st1_s, st2_s, isL_i, isL_l, isL_r, isL_n, spl_0, spl_s, cll_n, cll_s, catS_0, catS_s, jmp_s, alk_0, alk_s, otl_n, otl_s, List.nil_append, List.cons_append, List.contains_cons, List.contains_nil, Nat.reduceBEq, Bool.or_false, Bool.false_or, Bool.or_self, Bool.false_eq_true, Bool.true_or, Bool.or_true, if_true, if_false, ite_true, ite_false, ↓reduceIte, List.length_cons, List.length_nil, Nat.reduceAdd, Nat.reduceLT, Nat.reduceLeDiff, Nat.reduceEqDiff, Int.reduceAdd, Int.reduceLE, Int.toNat_natCast, Int.reduceToNat, Int.cast_ofNat_Int, true_and, and_true, false_and, and_false, true_implies, forall_const, eq_self, and_self, or_true, true_or, or_self, false_or, or_false, yI_sI, yR_sI, yC_sI, yN_sI, yI_sR, yR_sR, yC_sR, yN_sR, not_true_eq_false, not_false_eq_true, false_implies, implies_true, Nat.zero_add, Nat.add_zero, Nat.le_refl, Nat.reduceSub, Int.reduceSub, Int.reduceLT, Int.sub_zero, Int.sub_self, List.getElem?_toArray, List.getElem?_cons_zero, List.getElem?_cons_succ, Int.toNat_zero, Int.toNat_one, Int.lt_irrefl, yI_sB, yR_sB, yC_sB, yN_sB, MSh_sB_eq, pJi_bitCount_0, stp_iload_n, pJi_bitCount_1, pJi_bitCount_2, stp_iconst, pJi_bitCount_3, stp_iushr, pJi_bitCount_4, pJi_bitCount_7, stp_iand, pJi_bitCount_8, stp_isub, pJi_bitCount_9, stp_istore_n, pJi_bitCount_10, pJi_bitCount_11, pJi_bitCount_14, pJi_bitCount_15, pJi_bitCount_16, pJi_bitCount_17, pJi_bitCount_18, pJi_bitCount_21, pJi_bitCount_22, stp_iadd, pJi_bitCount_23, pJi_bitCount_24, pJi_bitCount_25, pJi_bitCount_26, pJi_bitCount_27, pJi_bitCount_28, pJi_bitCount_29, pJi_bitCount_32, pJi_bitCount_33, pJi_bitCount_34, pJi_bitCount_35, pJi_bitCount_36, stp_bipush, pJi_bitCount_38, pJi_bitCount_39, pJi_bitCount_40, pJi_bitCount_41, pJi_bitCount_42, pJi_bitCount_43, pJi_bitCount_45, pJi_bitCount_46, pJi_bitCount_47, pJi_bitCount_48, pJi_bitCount_49, pJi_bitCount_51, pJi_bitCount_52, stp_ireturn, ic_1, ic_2, ic_4, bp_8, bp_16, bp_63, nv_Ji_bitCount, ml_Ji_bitCount]
  rw [u1]
  refine wp_ldcw eoJi kJi_bitCount pJi_bitCount_4 qkJi_265 ?_
  refine wpn_ok (M := mJi_bitCount) (C := cenJi) (X := (alk [])) (tb := tJi_bitCount) (st := [11]) eoJi XOk_nil kJi_bitCount 60 _ _ _ _ _ _ ?_
  simp only [reduceCtorEq, fv0, fv1, fv2, fv3, bI_0, bI_1, bft, MSh_sI_eq, fsP_T, inL_0, inL_s, pad_0, pad_n, pad_s, wpn_s, wp1_s, lg_0, lg_s, lset_0, lset_s, kil_0, kil_s, st1_s, st2_s, isL_i, isL_l, isL_r, isL_n, spl_0, spl_s, cll_n, cll_s, catS_0, catS_s, jmp_s, alk_0, alk_s, otl_n, otl_s, List.nil_append, List.cons_append, List.contains_cons, List.contains_nil, Nat.reduceBEq, Bool.or_false, Bool.false_or, Bool.or_self, Bool.false_eq_true, Bool.true_or, Bool.or_true, if_true, if_false, ite_true, ite_false, ↓reduceIte, List.length_cons, List.length_nil, Nat.reduceAdd, Nat.reduceLT, Nat.reduceLeDiff, Nat.reduceEqDiff, Int.reduceAdd, Int.reduceLE, Int.toNat_natCast, Int.reduceToNat, Int.cast_ofNat_Int, true_and, and_true, false_and, and_false, true_implies, forall_const, eq_self, and_self, or_true, true_or, or_self, false_or, or_false, yI_sI, yR_sI, yC_sI, yN_sI, yI_sR, yR_sR, yC_sR, yN_sR, not_true_eq_false, not_false_eq_true, false_implies, implies_true, Nat.zero_add, Nat.add_zero, Nat.le_refl, Nat.reduceSub, Int.reduceSub, Int.reduceLT, Int.sub_zero, Int.sub_self, List.getElem?_toArray, List.getElem?_cons_zero, List.getElem?_cons_succ, Int.toNat_zero, Int.toNat_one, Int.lt_irrefl, yI_sB, yR_sB, yC_sB, yN_sB, MSh_sB_eq, pJi_bitCount_0, stp_iload_n, pJi_bitCount_1, pJi_bitCount_2, stp_iconst, pJi_bitCount_3, stp_iushr, pJi_bitCount_4, pJi_bitCount_7, stp_iand, pJi_bitCount_8, stp_isub, pJi_bitCount_9, stp_istore_n, pJi_bitCount_10, pJi_bitCount_11, pJi_bitCount_14, pJi_bitCount_15, pJi_bitCount_16, pJi_bitCount_17, pJi_bitCount_18, pJi_bitCount_21, pJi_bitCount_22, stp_iadd, pJi_bitCount_23, pJi_bitCount_24, pJi_bitCount_25, pJi_bitCount_26, pJi_bitCount_27, pJi_bitCount_28, pJi_bitCount_29, pJi_bitCount_32, pJi_bitCount_33, pJi_bitCount_34, pJi_bitCount_35, pJi_bitCount_36, stp_bipush, pJi_bitCount_38, pJi_bitCount_39, pJi_bitCount_40, pJi_bitCount_41, pJi_bitCount_42, pJi_bitCount_43, pJi_bitCount_45, pJi_bitCount_46, pJi_bitCount_47, pJi_bitCount_48, pJi_bitCount_49, pJi_bitCount_51, pJi_bitCount_52, stp_ireturn, ic_1, ic_2, ic_4, bp_8, bp_16, bp_63, nv_Ji_bitCount, ml_Ji_bitCount, E1]
  refine wp_ldcw eoJi kJi_bitCount pJi_bitCount_11 qkJi_266 ?_
  refine wpn_ok (M := mJi_bitCount) (C := cenJi) (X := (alk [])) (tb := tJi_bitCount) (st := [18]) eoJi XOk_nil kJi_bitCount 60 _ _ _ _ _ _ ?_
  simp only [reduceCtorEq, fv0, fv1, fv2, fv3, bI_0, bI_1, bft, MSh_sI_eq, fsP_T, inL_0, inL_s, pad_0, pad_n, pad_s, wpn_s, wp1_s, lg_0, lg_s, lset_0, lset_s, kil_0, kil_s, st1_s, st2_s, isL_i, isL_l, isL_r, isL_n, spl_0, spl_s, cll_n, cll_s, catS_0, catS_s, jmp_s, alk_0, alk_s, otl_n, otl_s, List.nil_append, List.cons_append, List.contains_cons, List.contains_nil, Nat.reduceBEq, Bool.or_false, Bool.false_or, Bool.or_self, Bool.false_eq_true, Bool.true_or, Bool.or_true, if_true, if_false, ite_true, ite_false, ↓reduceIte, List.length_cons, List.length_nil, Nat.reduceAdd, Nat.reduceLT, Nat.reduceLeDiff, Nat.reduceEqDiff, Int.reduceAdd, Int.reduceLE, Int.toNat_natCast, Int.reduceToNat, Int.cast_ofNat_Int, true_and, and_true, false_and, and_false, true_implies, forall_const, eq_self, and_self, or_true, true_or, or_self, false_or, or_false, yI_sI, yR_sI, yC_sI, yN_sI, yI_sR, yR_sR, yC_sR, yN_sR, not_true_eq_false, not_false_eq_true, false_implies, implies_true, Nat.zero_add, Nat.add_zero, Nat.le_refl, Nat.reduceSub, Int.reduceSub, Int.reduceLT, Int.sub_zero, Int.sub_self, List.getElem?_toArray, List.getElem?_cons_zero, List.getElem?_cons_succ, Int.toNat_zero, Int.toNat_one, Int.lt_irrefl, yI_sB, yR_sB, yC_sB, yN_sB, MSh_sB_eq, pJi_bitCount_0, stp_iload_n, pJi_bitCount_1, pJi_bitCount_2, stp_iconst, pJi_bitCount_3, stp_iushr, pJi_bitCount_4, pJi_bitCount_7, stp_iand, pJi_bitCount_8, stp_isub, pJi_bitCount_9, stp_istore_n, pJi_bitCount_10, pJi_bitCount_11, pJi_bitCount_14, pJi_bitCount_15, pJi_bitCount_16, pJi_bitCount_17, pJi_bitCount_18, pJi_bitCount_21, pJi_bitCount_22, stp_iadd, pJi_bitCount_23, pJi_bitCount_24, pJi_bitCount_25, pJi_bitCount_26, pJi_bitCount_27, pJi_bitCount_28, pJi_bitCount_29, pJi_bitCount_32, pJi_bitCount_33, pJi_bitCount_34, pJi_bitCount_35, pJi_bitCount_36, stp_bipush, pJi_bitCount_38, pJi_bitCount_39, pJi_bitCount_40, pJi_bitCount_41, pJi_bitCount_42, pJi_bitCount_43, pJi_bitCount_45, pJi_bitCount_46, pJi_bitCount_47, pJi_bitCount_48, pJi_bitCount_49, pJi_bitCount_51, pJi_bitCount_52, stp_ireturn, ic_1, ic_2, ic_4, bp_8, bp_16, bp_63, nv_Ji_bitCount, ml_Ji_bitCount, u2]
  refine wp_ldcw eoJi kJi_bitCount pJi_bitCount_18 qkJi_266 ?_
  refine wpn_ok (M := mJi_bitCount) (C := cenJi) (X := (alk [])) (tb := tJi_bitCount) (st := [29]) eoJi XOk_nil kJi_bitCount 60 _ _ _ _ _ _ ?_
  simp only [reduceCtorEq, fv0, fv1, fv2, fv3, bI_0, bI_1, bft, MSh_sI_eq, fsP_T, inL_0, inL_s, pad_0, pad_n, pad_s, wpn_s, wp1_s, lg_0, lg_s, lset_0, lset_s, kil_0, kil_s, st1_s, st2_s, isL_i, isL_l, isL_r, isL_n, spl_0, spl_s, cll_n, cll_s, catS_0, catS_s, jmp_s, alk_0, alk_s, otl_n, otl_s, List.nil_append, List.cons_append, List.contains_cons, List.contains_nil, Nat.reduceBEq, Bool.or_false, Bool.false_or, Bool.or_self, Bool.false_eq_true, Bool.true_or, Bool.or_true, if_true, if_false, ite_true, ite_false, ↓reduceIte, List.length_cons, List.length_nil, Nat.reduceAdd, Nat.reduceLT, Nat.reduceLeDiff, Nat.reduceEqDiff, Int.reduceAdd, Int.reduceLE, Int.toNat_natCast, Int.reduceToNat, Int.cast_ofNat_Int, true_and, and_true, false_and, and_false, true_implies, forall_const, eq_self, and_self, or_true, true_or, or_self, false_or, or_false, yI_sI, yR_sI, yC_sI, yN_sI, yI_sR, yR_sR, yC_sR, yN_sR, not_true_eq_false, not_false_eq_true, false_implies, implies_true, Nat.zero_add, Nat.add_zero, Nat.le_refl, Nat.reduceSub, Int.reduceSub, Int.reduceLT, Int.sub_zero, Int.sub_self, List.getElem?_toArray, List.getElem?_cons_zero, List.getElem?_cons_succ, Int.toNat_zero, Int.toNat_one, Int.lt_irrefl, yI_sB, yR_sB, yC_sB, yN_sB, MSh_sB_eq, pJi_bitCount_0, stp_iload_n, pJi_bitCount_1, pJi_bitCount_2, stp_iconst, pJi_bitCount_3, stp_iushr, pJi_bitCount_4, pJi_bitCount_7, stp_iand, pJi_bitCount_8, stp_isub, pJi_bitCount_9, stp_istore_n, pJi_bitCount_10, pJi_bitCount_11, pJi_bitCount_14, pJi_bitCount_15, pJi_bitCount_16, pJi_bitCount_17, pJi_bitCount_18, pJi_bitCount_21, pJi_bitCount_22, stp_iadd, pJi_bitCount_23, pJi_bitCount_24, pJi_bitCount_25, pJi_bitCount_26, pJi_bitCount_27, pJi_bitCount_28, pJi_bitCount_29, pJi_bitCount_32, pJi_bitCount_33, pJi_bitCount_34, pJi_bitCount_35, pJi_bitCount_36, stp_bipush, pJi_bitCount_38, pJi_bitCount_39, pJi_bitCount_40, pJi_bitCount_41, pJi_bitCount_42, pJi_bitCount_43, pJi_bitCount_45, pJi_bitCount_46, pJi_bitCount_47, pJi_bitCount_48, pJi_bitCount_49, pJi_bitCount_51, pJi_bitCount_52, stp_ireturn, ic_1, ic_2, ic_4, bp_8, bp_16, bp_63, nv_Ji_bitCount, ml_Ji_bitCount, E2, u3]
  refine wp_ldcw eoJi kJi_bitCount pJi_bitCount_29 qkJi_267 ?_
  refine wpn_ok (M := mJi_bitCount) (C := cenJi) (X := (alk [])) (tb := tJi_bitCount) (st := []) eoJi XOk_nil kJi_bitCount 60 _ _ _ _ _ _ ?_
  simp only [reduceCtorEq, fv0, fv1, fv2, fv3, bI_0, bI_1, bft, MSh_sI_eq, fsP_T, inL_0, inL_s, pad_0, pad_n, pad_s, wpn_s, wp1_s, lg_0, lg_s, lset_0, lset_s, kil_0, kil_s, st1_s, st2_s, isL_i, isL_l, isL_r, isL_n, spl_0, spl_s, cll_n, cll_s, catS_0, catS_s, jmp_s, alk_0, alk_s, otl_n, otl_s, List.nil_append, List.cons_append, List.contains_cons, List.contains_nil, Nat.reduceBEq, Bool.or_false, Bool.false_or, Bool.or_self, Bool.false_eq_true, Bool.true_or, Bool.or_true, if_true, if_false, ite_true, ite_false, ↓reduceIte, List.length_cons, List.length_nil, Nat.reduceAdd, Nat.reduceLT, Nat.reduceLeDiff, Nat.reduceEqDiff, Int.reduceAdd, Int.reduceLE, Int.toNat_natCast, Int.reduceToNat, Int.cast_ofNat_Int, true_and, and_true, false_and, and_false, true_implies, forall_const, eq_self, and_self, or_true, true_or, or_self, false_or, or_false, yI_sI, yR_sI, yC_sI, yN_sI, yI_sR, yR_sR, yC_sR, yN_sR, not_true_eq_false, not_false_eq_true, false_implies, implies_true, Nat.zero_add, Nat.add_zero, Nat.le_refl, Nat.reduceSub, Int.reduceSub, Int.reduceLT, Int.sub_zero, Int.sub_self, List.getElem?_toArray, List.getElem?_cons_zero, List.getElem?_cons_succ, Int.toNat_zero, Int.toNat_one, Int.lt_irrefl, yI_sB, yR_sB, yC_sB, yN_sB, MSh_sB_eq, pJi_bitCount_0, stp_iload_n, pJi_bitCount_1, pJi_bitCount_2, stp_iconst, pJi_bitCount_3, stp_iushr, pJi_bitCount_4, pJi_bitCount_7, stp_iand, pJi_bitCount_8, stp_isub, pJi_bitCount_9, stp_istore_n, pJi_bitCount_10, pJi_bitCount_11, pJi_bitCount_14, pJi_bitCount_15, pJi_bitCount_16, pJi_bitCount_17, pJi_bitCount_18, pJi_bitCount_21, pJi_bitCount_22, stp_iadd, pJi_bitCount_23, pJi_bitCount_24, pJi_bitCount_25, pJi_bitCount_26, pJi_bitCount_27, pJi_bitCount_28, pJi_bitCount_29, pJi_bitCount_32, pJi_bitCount_33, pJi_bitCount_34, pJi_bitCount_35, pJi_bitCount_36, stp_bipush, pJi_bitCount_38, pJi_bitCount_39, pJi_bitCount_40, pJi_bitCount_41, pJi_bitCount_42, pJi_bitCount_43, pJi_bitCount_45, pJi_bitCount_46, pJi_bitCount_47, pJi_bitCount_48, pJi_bitCount_49, pJi_bitCount_51, pJi_bitCount_52, stp_ireturn, ic_1, ic_2, ic_4, bp_8, bp_16, bp_63, nv_Ji_bitCount, ml_Ji_bitCount, E3, u4, nI_add, u5, E4]
  rw [bitN_nI hX, e4, bc_end e3 g0 g1 g2 g3]
end
