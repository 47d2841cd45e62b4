/-! all cells of the minutes, with an alley more -/
def mxU (w : Wd) (E : Nat → Nat → Nat) (c i j : Nat) : Wd := (fun t p q => if t = 173 ∧ q < c ∧ (p < i ∨ p = i ∧ q < j) then nI (E p q) else w.1 t p q, w.2)
theorem mxU_I (w : Wd) (E : Nat → Nat → Nat) (c i j t p q : Nat) : wI (mxU w E c i j) t p q = if t = 173 ∧ q < c ∧ (p < i ∨ p = i ∧ q < j) then nI (E p q) else wI w t p q := (rfl)
theorem mxU_2 (w : Wd) (E : Nat → Nat → Nat) (c i j : Nat) : (mxU w E c i j).2 = w.2 := rfl
theorem mxU_n {w : Wd} {E : Nat → Nat → Nat} {c i j t p q : Nat} (h : t ≠ 173) : wI (mxU w E c i j) t p q = wI w t p q := by rw [mxU_I, if_neg (fun z => h z.1)]
theorem mxU_c (w : Wd) (E : Nat → Nat → Nat) (c i j k : Nat) : cn (mxU w E c i j) k = cn w k := by unfold cn; rw [mxU_n (by omega)]
theorem mxU_0 (w : Wd) (E : Nat → Nat → Nat) (c : Nat) : mxU w E c 0 0 = w := by
  refine Wd_eq (fun t p q => ?_) (mxU_2 _ _ _ _ _)
  rw [mxU_I, if_neg (by omega)]
theorem mxU_r (w : Wd) (E : Nat → Nat → Nat) (c i : Nat) : mxU w E c i c = mxU w E c (i + 1) 0 := by
  refine Wd_eq (fun t p q => ?_) (by rw [mxU_2, mxU_2])
  rw [mxU_I, mxU_I]
  have e : (t = 173 ∧ q < c ∧ (p < i ∨ p = i ∧ q < c)) = (t = 173 ∧ q < c ∧ (p < i + 1 ∨ p = i + 1 ∧ q < 0)) := propext ⟨fun _ => by omega, fun _ => by omega⟩
  simp only [e]
theorem mxU_s {w : Wd} {E : Nat → Nat → Nat} {c i j : Nat} (hj : j < c) : sI (mxU w E c i j) 173 i j (nI (E i j)) = mxU w E c i (j + 1) := by
  refine Wd_eq (fun t p q => ?_) (by rw [sI_2, mxU_2, mxU_2])
  simp only [yI_sI, mxU_I]
  by_cases d : t = 173 ∧ p = i ∧ q = j
  · rw [if_pos d, if_pos (by omega), d.2.1, d.2.2]
  · have e : (t = 173 ∧ q < c ∧ (p < i ∨ p = i ∧ q < j + 1)) = (t = 173 ∧ q < c ∧ (p < i ∨ p = i ∧ q < j)) := propext ⟨fun _ => by omega, fun _ => by omega⟩
    rw [if_neg d]
    simp only [e]
theorem mxU_C0 {w : Wd} {E : Nat → Nat → Nat} {c i j : Nat} (h : Cp0 w) : Cp0 (mxU w E c i j) := by
  obtain ⟨c1, c2, c3, c4, c5, c6, c7, c8⟩ := h
  refine ⟨?_, ?_, ?_, ?_, fun b hb => ?_, fun p hp => ?_, fun i hi => ?_, fun i hi => ?_⟩
  · rw [mxU_n (by omega), mxU_n (by omega)]; exact c1
  · rw [mxU_n (by omega), mxU_n (by omega)]; exact c2
  · rw [mxU_n (by omega), mxU_n (by omega)]; exact c3
  · rw [mxU_n (by omega), mxU_n (by omega)]; exact c4
  · rw [mxU_n (by omega), mxU_n (by omega)]; exact c5 b hb
  · rw [mxU_c] at hp; rw [mxU_n (by omega), mxU_n (by omega), mxU_n (by omega), mxU_n (by omega)]; exact c6 p hp
  · rw [mxU_c] at hi; rw [mxU_n (by omega), mxU_n (by omega)]; exact c7 i hi
  · rw [mxU_c] at hi; rw [mxU_n (by omega), mxU_n (by omega), mxU_n (by omega), mxU_n (by omega)]; exact c8 i hi
theorem mxU_3 {w : Wd} {E : Nat → Nat → Nat} {c i j : Nat} (h : okc w 3 14) : okc (mxU w E c i j) 3 14 := by
  unfold okc
  rw [mxU_c, mxU_n (by omega)]
  exact h
