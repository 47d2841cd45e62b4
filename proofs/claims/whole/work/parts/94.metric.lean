/-! an alley more: the minutes between all places -/
def nwE (D : Nat → Nat → Nat) (a b t i j : Nat) : Nat := min (D i j) (min (D i a + t + D b j) (D i b + t + D a j))
theorem nwE_le (D : Nat → Nat → Nat) (a b t i j : Nat) : nwE D a b t i j ≤ D i j ∧ nwE D a b t i j ≤ D i a + t + D b j ∧ nwE D a b t i j ≤ D i b + t + D a j ∧ (nwE D a b t i j = D i j ∨ nwE D a b t i j = D i a + t + D b j ∨ nwE D a b t i j = D i b + t + D a j) := by
  unfold nwE
  omega
theorem nwE_tri {g : Gf} {np a b t i j k : Nat} {D : Nat → Nat → Nat} (h : Mtr g np D) (ha : a < np) (hb : b < np) (hi : i < np) (hj : j < np) (hk : k < np) : nwE D a b t i j ≤ nwE D a b t i k + nwE D a b t k j := by
  obtain ⟨x1, x2, x3, -⟩ := nwE_le D a b t i j
  obtain ⟨-, -, -, y⟩ := nwE_le D a b t i k
  obtain ⟨-, -, -, z⟩ := nwE_le D a b t k j
  have tr := h.2.2.1
  have t1 := tr i j k hi hj hk
  have t2 := tr i a k hi ha hk
  have t3 := tr i b k hi hb hk
  have t4 := tr b j k hb hj hk
  have t5 := tr a j k ha hj hk
  have t6 := tr i j a hi hj ha
  have t7 := tr i j b hi hj hb
  rcases y with y | y | y <;> rcases z with z | z | z <;> rw [y, z] <;> omega
theorem nwE_mid {g : Gf} {np a b t i j : Nat} {D M : Nat → Nat → Nat} (h : Mtr g np D) (ha : a < np) (hb : b < np) (hi : i < np) (hj : j < np) (hM : ∀ p q, p < np → q < np → nwE D a b t p q ≤ M p q ∧ M p q ≤ D p q) : min (M i j) (min (M i a + t + M b j) (M i b + t + M a j)) = nwE D a b t i j := by
  have haa := h.1 a ha
  have hbb := h.1 b hb
  have m1 := hM i j hi hj
  have m2 := hM i a hi ha
  have m3 := hM b j hb hj
  have m4 := hM i b hi hb
  have m5 := hM a j ha hj
  have e1 : nwE D a b t a b ≤ t := by obtain ⟨-, q, -⟩ := nwE_le D a b t a b; omega
  have e2 : nwE D a b t b a ≤ t := by obtain ⟨-, -, q, -⟩ := nwE_le D a b t b a; omega
  have u1 := nwE_tri (t := t) h ha hb hi hj ha
  have u2 := nwE_tri (t := t) h ha hb ha hj hb
  have u3 := nwE_tri (t := t) h ha hb hi hj hb
  have u4 := nwE_tri (t := t) h ha hb hb hj ha
  obtain ⟨x1, x2, x3, x4⟩ := nwE_le D a b t i j
  omega
