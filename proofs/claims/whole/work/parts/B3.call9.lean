/-! calls: bid, weigh -/
section
variable {l : Launch} {G : Gc} {c : Nat} {w : Wd}
theorem bd_inv {j b : Nat} {p : Int32} (h : Inv c w) (hc : c < 1000) (hj : j < cn w 17) (hb : b < 5) : Inv (c + 1) (bdW (ofW w j b p) b j p) := by
  have hL := iv_L h hj
  obtain ⟨a1, a2, a3, a4, a5, a6, a7, a8, a9, b1, b2, b3, b4, b5, b6, b7, b8, b9, d1, d2, d3, d4, d5⟩ := hL.2.1
  obtain ⟨T, t1, t2, x, y, t3⟩ := hL.2.2.1
  have h38 := (iv_T h).2
  have e38 : wI (ofW w j b p) 13 0 38 = nI (cn w 38) := h38.1
  have e : ∀ t k i, wI (bdW (ofW w j b p) b j p) t k i = if t = 13 ∧ k = 0 ∧ i = 38 then nI (cn w 38 + 1) else if t = 137 ∧ k = 0 ∧ i = 5 * j + b then nI (cn w 38) else if t = 136 ∧ k = 0 ∧ i = 5 * j + b then p else if t = 188 ∧ k = j ∧ i = b then nI (T + 1) else if t = 187 ∧ k = j ∧ i = b then p else if t = 11 ∧ k = j ∧ i = 2 then nI (T + 1) else wI w t k i := fun t k i => by
    unfold bdW
    rw [e38, nI_1]
    unfold ofW
    rw [t1, nI_1, yI_sI, yI_sI, yI_sI, yI_sI, yI_sI, yI_sI]
  have h2 : (bdW (ofW w j b p) b j p).2 = w.2 := rfl
  revert e h2
  generalize bdW (ofW w j b p) b j p = w'
  intro e h2
  have g : ∀ t k i, ¬ ((t = 13 ∧ i = 38) ∨ ((t = 136 ∨ t = 137) ∧ i = 5 * j + b) ∨ ((t = 187 ∨ t = 188) ∧ k = j ∧ i = b) ∨ (t = 11 ∧ k = j ∧ i = 2)) → wI w' t k i = wI w t k i := fun t k i n => by
    rw [e, if_neg (by omega), if_neg (by omega), if_neg (by omega), if_neg (by omega), if_neg (by omega), if_neg (by omega)]
  have w38 : wI w' 13 0 38 = nI (cn w 38 + 1) := by rw [e, if_pos ⟨rfl, rfl, rfl⟩]
  have hle := h38.2
  have c38 : cn w' 38 = cn w 38 + 1 := by
    rw [cn, w38]
    exact nI_clamp (by omega)
  refine Inv_lot (w := w) (j := j) h2 ⟨LtS_e (Exw_2 h2) hL.1, ?_, ⟨T + 1, by rw [e, if_neg (by omega), if_neg (by omega), if_neg (by omega), if_neg (by omega), if_neg (by omega), if_pos ⟨rfl, rfl, rfl⟩], by omega, fun i => if i = b then T + 1 else x i, fun i => if i = b then cn w 38 else y i, fun i hi hn => ?_⟩, GoC_cg (Nat.le_succ c) (by rw [cn_cg (g 13 0 3 (by omega))]; exact Nat.le_refl _) (g _ _ _ (by omega)) (g _ _ _ (by omega)) (by rw [g _ _ _ (by omega)]; exact hL.2.2.2.2.2.1) (WgC_cg (fun t ht => g t 0 j (by omega)) hL.2.2.2.2.2.2) hL.2.2.2⟩ ⟨by rw [w38, c38], by omega⟩ (by omega) (fun t k i hn hn2 => g t k i (fun z => hn (by unfold LtK; omega))) h
  · have q6 : ∀ i, i < 5 → wI w' 187 j i = wI w' 136 0 (5 * j + i) := fun i hi => by
      by_cases z : i = b
      · subst z
        simp only [e, yI_sI, Nat.reduceEqDiff, Nat.reduceAdd, Nat.reduceMul, reduceCtorEq, false_and, and_false, true_and, and_true, if_false, if_true, ite_false, ite_true, ↓reduceIte, eq_self, and_self, or_true, true_or, not_true_eq_false, false_implies, implies_true]
      · rw [g _ _ _ (by omega), g _ _ _ (by omega)]; exact b6 i hi
    have q7 : ∀ i, i < 5 → bI (btB (wI w' 11 j 3) i) = wI w' 235 0 (5 * j + i) := fun i hi => by
      rw [g _ _ _ (by omega), g _ _ _ (by omega)]; exact b7 i hi
    unfold LtC
    refine ⟨?_, ?_, ?_, ?_, ?_, ?_, ?_, ?_, ?_, ?_, ?_, ?_, ?_, ?_, q6, q7, ?_⟩
    · rw [g _ _ _ (by omega), g _ _ _ (by omega)]; exact a1
    · rw [g _ _ _ (by omega), g _ _ _ (by omega)]; exact a2
    · rw [g _ _ _ (by omega), g _ _ _ (by omega)]; exact a3
    · rw [g _ _ _ (by omega), g _ _ _ (by omega)]; exact a4
    · rw [g _ _ _ (by omega), g _ _ _ (by omega)]; exact a5
    · rw [g _ _ _ (by omega), g _ _ _ (by omega)]; exact a6
    · rw [g _ _ _ (by omega), g _ _ _ (by omega)]; exact a7
    · rw [g _ _ _ (by omega), g _ _ _ (by omega)]; exact a8
    · rw [g _ _ _ (by omega), g _ _ _ (by omega)]; exact a9
    · rw [g _ _ _ (by omega), g _ _ _ (by omega)]; exact b1
    · rw [g _ _ _ (by omega), g _ _ _ (by omega)]; exact b2
    · rw [g _ _ _ (by omega), g _ _ _ (by omega)]; exact b3
    · rw [g _ _ _ (by omega), g _ _ _ (by omega)]; exact b4
    · rw [g _ _ _ (by omega), g _ _ _ (by omega)]; exact b5
    · rw [g 128 _ _ (by omega), g 11 _ 4 (by omega), g 129 _ _ (by omega), g 118 _ _ (by omega), g 230 _ _ (by omega), g 11 _ 5 (by omega), g 133 _ _ (by omega), g 11 _ 6 (by omega), g 120 _ _ (by omega), g 132 _ _ (by omega), g 11 _ 8 (by omega), g 131 _ _ (by omega), g 227 _ _ (by omega), g 134 _ _ (by omega), g 119 _ _ (by omega), g 123 _ _ (by omega), g 124 _ _ (by omega), g 125 _ _ (by omega)]
      exact ⟨b8, b9, d1, d2, d3, d4, d5⟩
  · have old : ∀ i', i' < 5 → ¬ i' = b → ¬ wI w' 136 0 (5 * j + i') ≤ 0 → ¬ wI w 136 0 (5 * j + i') ≤ 0 := fun i' hi' z hn' => by rw [g _ _ _ (by omega)] at hn'; exact hn'
    by_cases z : i = b
    · subst z
      simp only [if_true, ↓reduceIte]
      refine ⟨by rw [e, if_neg (by omega), if_neg (by omega), if_neg (by omega), if_pos ⟨rfl, rfl, rfl⟩], by rw [e, if_neg (by omega), if_pos ⟨rfl, rfl, rfl⟩], Nat.le_refl _, by omega, fun b' hb' hn' => ?_⟩
      by_cases z' : b' = i
      · rw [if_pos z', if_pos z']; omega
      · rw [if_neg z', if_neg z']
        obtain ⟨-, -, r3, r4, -⟩ := t3 b' hb' (old b' hb' z' hn')
        omega
    · simp only [z, if_false]
      obtain ⟨r1, r2, r3, r4, r5⟩ := t3 i hi (old i hi z hn)
      refine ⟨by rw [g _ _ _ (by omega)]; exact r1, by rw [g _ _ _ (by omega)]; exact r2, by omega, by omega, fun b' hb' hn' => ?_⟩
      by_cases z' : b' = b
      · rw [if_pos z', if_pos z']; omega
      · rw [if_neg z', if_neg z']; exact r5 b' hb' (old b' hb' z' hn')
end
