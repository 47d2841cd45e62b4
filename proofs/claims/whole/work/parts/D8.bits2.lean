/-! sets of lots and of places -/
theorem us_bt (x : Int32) {l : Nat} (h : l < 32) (i : Nat) : btB (x.toUInt32 >>> ((nI l).toUInt32 &&& Int32.toUInt32 31)).toInt32 i = btB x (l + i) := by
  have h2 := pk_ushr x (nI l) l (sh_amtU l h)
  have e : (x.toUInt32 >>> ((nI l).toUInt32 &&& Int32.toUInt32 31)).toInt32.toBitVec = x.toBitVec >>> l := by
    apply BitVec.eq_of_toNat_eq
    rw [h2, BitVec.toNat_ushiftRight, Nat.shiftRight_eq_div_pow]
  unfold btB
  rw [e, BitVec.getLsbD_ushiftRight]
theorem ss_bt (x : Int32) {l : Nat} (h : l < 32) (i : Nat) (hi : i < 32) : btB (x >>> (nI l &&& 31)) i = if l + i < 32 then btB x (l + i) else x.toBitVec.msb := by
  have e : (x >>> (nI l &&& 31)).toBitVec = x.toBitVec.sshiftRight' ((nI l &&& 31).toBitVec.smod 32) := rfl
  unfold btB
  rw [e, BitVec.sshiftRight', sh_amt l h, BitVec.getLsbD_sshiftRight]
  simp [show ¬ 32 ≤ i by omega]
theorem bt_ext {x y : Int32} (h : ∀ i, i < 32 → btB x i = btB y i) : x = y := by
  apply Int32.toBitVec_inj.mp
  exact BitVec.eq_of_getLsbD_eq h
theorem bt_big (x : Int32) {i : Nat} (h : 32 ≤ i) : btB x i = false := BitVec.getLsbD_of_ge _ _ h
theorem lt0_bt (x : Int32) : (x < 0) ↔ btB x 31 = true := by
  have e : x.toBitVec.msb = btB x 31 := by
    unfold btB
    rw [BitVec.msb_eq_getLsbD_last]
  rw [← e, Int32.lt_iff_toBitVec_slt]
  show x.toBitVec.slt 0#32 = true ↔ _
  rw [BitVec.slt_zero_eq_msb]
theorem us_0 (x : Int32) {l : Nat} (h : l < 32) : (x.toUInt32 >>> ((nI l).toUInt32 &&& Int32.toUInt32 31)).toInt32 = 0 ↔ ∀ j, l ≤ j → btB x j = false := by
  constructor
  · intro e j hj
    have := us_bt x h (j - l)
    rw [e, show l + (j - l) = j by omega, bt_0] at this
    exact this.symm
  · intro hz
    refine bt_ext fun i hi => ?_
    rw [us_bt x h i, bt_0]
    exact hz _ (by omega)
theorem sh_0 (x : Int32) {l : Nat} (h : l < 32) : (¬ x < 0 ∧ x >>> (nI l &&& 31) = 0) ↔ ∀ j, l ≤ j → btB x j = false := by
  have em : x.toBitVec.msb = btB x 31 := by
    unfold btB
    rw [BitVec.msb_eq_getLsbD_last]
  rw [lt0_bt]
  constructor
  · rintro ⟨h1, h2⟩ j hj
    by_cases q : j < 32
    · have := ss_bt x h (j - l) (by omega)
      rw [h2, if_pos (by omega), show l + (j - l) = j by omega, bt_0] at this
      exact this.symm
    · exact bt_big x (by omega)
  · intro hz
    have h31 := hz 31 (by omega)
    refine ⟨by rw [h31]; decide, bt_ext fun i hi => ?_⟩
    rw [ss_bt x h i hi, bt_0]
    by_cases q : l + i < 32
    · rw [if_pos q]; exact hz _ (by omega)
    · rw [if_neg q, em]; exact h31
theorem cnN_up {p : Nat → Bool} {m : Nat} (h : ∀ j, m ≤ j → p j = false) : ∀ n, m ≤ n → cnN p n = cnN p m
  | 0, hn => by rw [show m = 0 by omega]
  | n + 1, hn => by
    by_cases q : m = n + 1
    · rw [q]
    · rw [cnN, h n (by omega), cnN_up h n (by omega)]
      rfl
theorem plA_iff {w : Wd} {x y : Int32} (h17 : okc w 17 24) (h3 : okc w 3 14) : plA w x y = false ↔ ((∀ j, cn w 17 ≤ j → btB x j = false) ∧ ∀ j, cn w 3 ≤ j → btB y j = false) := by
  have b1 := h17.2
  have b2 := h3.2
  rw [← sh_0 x (show cn w 17 < 32 by omega), ← sh_0 y (show cn w 3 < 32 by omega)]
  unfold plA
  rw [h17.1, h3.1]
  simp only [Bool.or_eq_false_iff, decide_eq_false_iff_not, Bool.not_eq_false', decide_eq_true_eq]
  exact ⟨fun ⟨a, b, c, d⟩ => ⟨⟨a, b⟩, c, d⟩, fun ⟨⟨a, b⟩, c, d⟩ => ⟨a, b, c, d⟩⟩
