/-! find; when a way is free; drives of the class -/
theorem sI_2 (w : Wd) (t k i : Nat) (v : Int32) : (sI w t k i v).2 = w.2 := rfl
theorem fiS_0 {w : Wd} {a b x : Nat} : sI (sI w 8 x 2 0) 8 x 3 0 = fiS w a b x 0 := by
  refine Wd_eq (fun t k q => ?_) (by rw [sI_2, sI_2, fiS_2])
  rw [fiS_I]
  simp only [yI_sI]
  by_cases c1 : t = 8 ∧ k = x ∧ q = 3
  · simp only [if_pos c1, aN]; rfl
  · by_cases c2 : t = 8 ∧ k = x ∧ q = 2
    · simp only [if_neg c1, if_pos c2]; rfl
    · simp only [if_neg c1, if_neg c2, Nat.not_lt_zero, if_false]
      by_cases c5 : t = 185 ∧ k = x
      · rw [if_pos c5, c5.1, c5.2]
      · rw [if_neg c5]
        by_cases c6 : t = 184 ∧ k = x
        · rw [if_pos c6, c6.1, c6.2]
        · rw [if_neg c6]
theorem fiS_s {w : Wd} {a b x s : Nat} (hs : s < 2 ^ 31) : waW (fiS w a b x s) x (nI (wyK (grf w) (dsM w) a b s)) (nI (gfT (grf w) (wyK (grf w) (dsM w) a b s))) = fiS w a b x (s + 1) := by
  have e1 : wlN (fiS w a b x s) x = s := by unfold wlN; rw [fiS_I]; simp; exact nI_clamp hs
  have e2 : wI (fiS w a b x s) 8 x 3 = nI (aN (grf w) (wyK (grf w) (dsM w) a b) s) := by rw [fiS_I]; simp
  unfold waW
  rw [e1, e2]
  refine Wd_eq (fun t k q => ?_) (by rw [sI_2, sI_2, sI_2, sI_2, fiS_2, fiS_2])
  simp only [yI_sI, fiS_I]
  by_cases c1 : t = 8 ∧ k = x ∧ q = 3
  · simp only [if_pos c1, nI_add, aN]
  · by_cases c2 : t = 8 ∧ k = x ∧ q = 2
    · simp only [if_neg c1, if_pos c2]
    · simp only [if_neg c1, if_neg c2]
      by_cases c5 : t = 185 ∧ k = x
      · have d5 : ¬ (t = 184 ∧ k = x) := by omega
        by_cases z : q = s
        · simp only [if_pos c5, if_pos (show t = 185 ∧ k = x ∧ q = s from ⟨c5.1, c5.2, z⟩), if_pos (show q < s + 1 by omega)]; rw [z]
        · have e : (q < s + 1) = (q < s) := propext ⟨fun _ => by omega, fun _ => by omega⟩
          simp only [if_pos c5, if_neg (show ¬ (t = 185 ∧ k = x ∧ q = s) by omega), if_neg (show ¬ (t = 184 ∧ k = x ∧ q = s) by omega), e]
      · by_cases c6 : t = 184 ∧ k = x
        · by_cases z : q = s
          · simp only [if_neg c5, if_pos c6, if_neg (show ¬ (t = 185 ∧ k = x ∧ q = s) by omega), if_pos (show t = 184 ∧ k = x ∧ q = s from ⟨c6.1, c6.2, z⟩), if_pos (show q < s + 1 by omega)]; rw [z]
          · have e : (q < s + 1) = (q < s) := propext ⟨fun _ => by omega, fun _ => by omega⟩
            simp only [if_neg c5, if_pos c6, if_neg (show ¬ (t = 185 ∧ k = x ∧ q = s) by omega), if_neg (show ¬ (t = 184 ∧ k = x ∧ q = s) by omega), e]
        · simp only [if_neg c5, if_neg c6, if_neg (show ¬ (t = 185 ∧ k = x ∧ q = s) by omega), if_neg (show ¬ (t = 184 ∧ k = x ∧ q = s) by omega)]
