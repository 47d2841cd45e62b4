/-! an alley more keeps the minutes in order -/
theorem nwE_Mtr {g g' : Gf} {np a b t : Nat} {D : Nat → Nat → Nat} (h : Mtr g np D) (hn : gfN g' = gfN g + 1) (hs : ∀ k, k < gfN g → gfA g' k = gfA g k ∧ gfB g' k = gfB g k ∧ gfT g' k = gfT g k) (hA : gfA g' (gfN g) = a) (hB : gfB g' (gfN g) = b) (hT : gfT g' (gfN g) = t) (ha : a < np) (hb : b < np) (hab : ¬ a = b) (hg : gfOk g np) : Mtr g' np (nwE D a b t) := by
  have haa := h.1 a ha
  have hbb := h.1 b hb
  have px := pth_ext (g := g) (g' := g') (by omega) hs
  refine ⟨fun i hi => ?_, fun i j hi hj => ?_, fun i j k hi hj hk => nwE_tri h ha hb hi hj hk, fun k hk => ?_, fun i j hi hj hlt => ?_⟩
  · have := (nwE_le D a b t i i).1
    rw [h.1 i hi] at this
    omega
  · exact Nat.le_trans (nwE_le D a b t i j).1 (h.2.1 i j hi hj)
  · by_cases c : k < gfN g
    · obtain ⟨s1, s2, s3⟩ := hs k c
      obtain ⟨r1, r2⟩ := h.2.2.2.1 k c
      rw [s1, s2, s3]
      exact ⟨Nat.le_trans (nwE_le D a b t _ _).1 r1, Nat.le_trans (nwE_le D a b t _ _).1 r2⟩
    · have e : k = gfN g := by omega
      rw [e, hA, hB, hT]
      obtain ⟨-, q1, -⟩ := nwE_le D a b t a b
      obtain ⟨-, -, q2, -⟩ := nwE_le D a b t b a
      exact ⟨by omega, by omega⟩
  · obtain ⟨-, -, -, q⟩ := nwE_le D a b t i j
    rcases q with q | q | q
    · rw [q] at hlt ⊢
      obtain ⟨n, hn'⟩ := h.2.2.2.2 i j hi hj hlt
      exact ⟨n, px n i j _ hn'⟩
    · rw [q] at hlt ⊢
      obtain ⟨n1, p1⟩ := h.2.2.2.2 i a hi ha (by omega)
      obtain ⟨n2, p2⟩ := h.2.2.2.2 b j hb hj (by omega)
      have st : pth g' (n2 + 1) a j (t + D b j) := by
        refine ⟨gfN g, D b j, by omega, by simp [tcB, hA], by rw [hT], ?_⟩
        have : otN g' (gfN g) a = b := by unfold otN; rw [if_pos hA]; exact hB
        rw [this]
        exact px n2 b j _ p2
      have := pth_app st n1 i (D i a) (px n1 i a _ p1)
      rw [show D i a + t + D b j = D i a + (t + D b j) by omega]
      exact ⟨_, this⟩
    · rw [q] at hlt ⊢
      obtain ⟨n1, p1⟩ := h.2.2.2.2 i b hi hb (by omega)
      obtain ⟨n2, p2⟩ := h.2.2.2.2 a j ha hj (by omega)
      have st : pth g' (n2 + 1) b j (t + D a j) := by
        refine ⟨gfN g, D a j, by omega, by simp [tcB, hB], by rw [hT], ?_⟩
        have : otN g' (gfN g) b = a := by unfold otN; rw [hA, if_neg hab]
        rw [this]
        exact px n2 a j _ p2
      have := pth_app st n1 i (D i b) (px n1 i b _ p1)
      rw [show D i b + t + D a j = D i b + (t + D a j) by omega]
      exact ⟨_, this⟩
