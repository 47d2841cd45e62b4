/-! lists beside one that grows -/
theorem LiA_o {u w3 : Wd} {i n j n' : Nat} {el el' : Nat → Nat × Nat} {v : Nat × Nat} (hP : LiP u w3 i n el v) (hj : ¬ j = i) (hd : ∀ x, wR u 2 j 1 = some (300, x) → ¬ wR u 2 i 1 = some (300, x)) (h : LiA u j n' el') : LiA w3 j n' el' := by
  obtain ⟨p1, p2, p3, p4, p5, p6, p7⟩ := hP
  obtain ⟨a1, a2, a3, a4⟩ := h
  have r1 : wR w3 2 j 1 = wR u 2 j 1 := p2 _ _ _ (by omega) (by omega)
  refine ⟨by rw [p1 _ _ _ (by omega) (by omega)]; exact a1, a2, by rw [p3 _ (by omega)]; exact a3, ?_⟩
  rw [r1]
  rcases a4 with q | ⟨x, x1, x2, x3, x4, x5⟩
  · exact Or.inl q
  · have e : wN w3 300 x = wN u 300 x := p5 _ _ (by omega)
    refine Or.inr ⟨x, x1, by omega, by rw [e]; exact x3, by rw [e]; exact x4, fun q hq => ?_⟩
    rw [p2 _ _ _ (by omega) (fun z => by
      rcases z.2 with z | z
      · exact hd x x1 z
      · omega)]
    exact x5 q hq
theorem LiA_ar {w : Wd} {i n x : Nat} {el : Nat → Nat × Nat} (h : LiA w i n el) (hx : wR w 2 i 1 = some (300, x)) : x < wC w 300 := by
  rcases h.2.2.2 with ⟨-, q⟩ | ⟨y, y1, y2, -⟩
  · rw [q] at hx; cases hx
  · rw [y1] at hx; cases hx; exact y2
theorem LiD_P {u w3 : Wd} {i n : Nat} {el : Nat → Nat × Nat} {v : Nat × Nat} (hP : LiP u w3 i n el v) (ha : ∀ j, j < 3 → ∀ x, wR u 2 j 1 = some (300, x) → x < wC u 300) (h : LiD u) (hi : i < 3) : LiD w3 := by
  obtain ⟨p1, p2, p3, p4, p5, p6, p7⟩ := hP
  have r1 : ∀ j, ¬ j = i → wR w3 2 j 1 = wR u 2 j 1 := fun j hj => p2 _ _ _ (by omega) (by omega)
  intro a b ha3 hb3 hab x hx hx2
  by_cases c : a = i
  · subst c
    rw [r1 b (by omega)] at hx2
    rcases p7 x hx with q | q
    · exact h a b ha3 hb3 hab x q hx2
    · have := ha b hb3 x hx2; omega
  · rw [r1 a c] at hx
    by_cases d : b = i
    · subst d
      rcases p7 x hx2 with q | q
      · exact h a b ha3 hb3 hab x hx q
      · have := ha a ha3 x hx; omega
    · rw [r1 b d] at hx2
      exact h a b ha3 hb3 hab x hx hx2
theorem LiA_x {w w' : Wd} {i n : Nat} {el : Nat → Nat × Nat} (hR : ∀ k q, wR w' 2 k q = wR w 2 k q) (hR3 : ∀ k q, wR w' 300 k q = wR w 300 k q) (hC : wC w' 2 = wC w 2) (hC3 : wC w' 300 = wC w 300) (hN3 : ∀ k, wN w' 300 k = wN w 300 k) (hI : wI w' 2 i 2 = wI w 2 i 2) (h : LiA w i n el) : LiA w' i n el := by
  unfold LiA at h ⊢
  simp only [hR, hR3, hC, hC3, hN3, hI]
  exact h
theorem LiD_x {w w' : Wd} (hR : ∀ k q, wR w' 2 k q = wR w 2 k q) (h : LiD w) : LiD w' := by
  intro i j hi hj hn x hx
  rw [hR] at hx ⊢
  exact h i j hi hj hn x hx
theorem LiA_el {w : Wd} {i n : Nat} {el el' : Nat → Nat × Nat} (he : ∀ j, j < n → el j = el' j) (h : LiA w i n el) : LiA w i n el' := by
  refine ⟨h.1, h.2.1, h.2.2.1, h.2.2.2.imp id fun ⟨x, x1, x2, x3, x4, x5⟩ => ⟨x, x1, x2, x3, x4, fun j hj => ?_⟩⟩
  rw [← he j hj]
  exact x5 j hj
