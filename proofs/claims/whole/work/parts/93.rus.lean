/-! how the small methods are used -/
theorem ruR_begin {w : Wd} {s : Nat} (h : SSh w) (hs : s ≤ 14) : fsR_begin [.inr (.inr (some (7, 0))), .inl (nI s)] w = some (none, bgW w s) := by
  have : fsR_begin [.inr (.inr (some (7, 0))), .inl (nI s)] w = fsP (SSh w ∧ ∃ z, z ≤ 14 ∧ nI s = nI z) (none, bgW w (nI s).toNatClampNeg) := rfl
  rw [this, nI_clamp (by omega)]
  exact fsP_t ⟨h, s, hs, rfl⟩
theorem ruP_clear {w : Wd} (h : SSh w) : fsP_clear [.inr (.inr (some (6, 0)))] w = some (none, sI (sI w 6 0 8 0) 6 0 9 0) := fsP_t h
theorem ruP_addPen {w : Wd} {s : Nat} {p : Int32} (h : SSh w) (hs : s < 4) (e : wI w 6 0 9 = nI s) : fsP_addPen [.inr (.inr (some (6, 0))), .inl p] w = some (none, paW w s p) := by
  have : fsP_addPen [.inr (.inr (some (6, 0))), .inl p] w = fsP (SSh w ∧ ∃ s, s < 4 ∧ wI w 6 0 9 = nI s) (none, paW w (wI w 6 0 9).toNatClampNeg p) := rfl
  rw [this, fsP_t ⟨h, s, hs, e⟩, e, nI_clamp (by omega)]
theorem ruK_add {w : Wd} {s : Nat} {a b : Int32} (h : SSh w) (hs : s < 20) (e : wI w 5 0 2 = nI s) : fsK_add [.inr (.inr (some (5, 0))), .inl a, .inl b] w = some (none, kadW w s a b) := by
  have : fsK_add [.inr (.inr (some (5, 0))), .inl a, .inl b] w = fsP (SSh w ∧ ∃ s, s < 20 ∧ wI w 5 0 2 = nI s) (none, kadW w (wI w 5 0 2).toNatClampNeg a b) := rfl
  rw [this, fsP_t ⟨h, s, hs, e⟩, e, nI_clamp (by omega)]
theorem ruU_addTest {w : Wd} {m i : Nat} {a f s v : Int32} (h : RuS w m) (ha : a = 0 ∨ a = 1) (hi : i < 3) (e : wI w 12 m 6 = nI i) : fsU_addTest [.inr (.inr (some (12, m))), .inl a, .inl f, .inl s, .inl v] w = some (none, atW w m i a f s v) := by
  have : fsU_addTest [.inr (.inr (some (12, m))), .inl a, .inl f, .inl s, .inl v] w = fsP (RuS w m ∧ (a = 0 ∨ a = 1) ∧ ∃ i, i < 3 ∧ wI w 12 m 6 = nI i) (none, atW w m (wI w 12 m 6).toNatClampNeg a f s v) := rfl
  rw [this, fsP_t ⟨h, ha, i, hi, e⟩, e, nI_clamp (by omega)]
