/-! putting a drive off: the first minute at which every alley of a way is free -/
theorem ff_end {τ : Nat → Nat} {s T : Nat} : ∀ r y, ffA τ s T r y = y ∨ ∃ i, i < s ∧ ffA τ s T r y = τ i + T
  | 0, y => Or.inl rfl
  | r + 1, y => by
    simp only [ffA]
    cases hf : fstN (fun i => ovN T (τ i) y) s with
    | none => exact Or.inl rfl
    | some i =>
      rcases ff_end (τ := τ) (s := s) (T := T) r (τ i + T) with q | ⟨j, j1, j2⟩
      · exact Or.inr ⟨i, (fstN_s hf).1, q⟩
      · exact Or.inr ⟨j, j1, j2⟩
def poN (F : Nat → Nat → Nat) (κ a : Nat → Nat) : Nat → Nat → Nat
  | 0, t => t
  | i + 1, t => F (κ i) (poN F κ a i t + a i) - a i
def FOk (F : Nat → Nat → Nat) (good : Nat → Nat → Bool) (κ : Nat → Nat) (m : Nat) : Prop := ∀ i, i < m → ∀ y, y ≤ F (κ i) y ∧ good (κ i) (F (κ i) y) = true ∧ ∀ z, y ≤ z → z < F (κ i) y → good (κ i) z = false
theorem po_st {F : Nat → Nat → Nat} {good : Nat → Nat → Bool} {κ a : Nat → Nat} {m t i : Nat} (h : FOk F good κ m) (hi : i < m) : poN F κ a i t ≤ poN F κ a (i + 1) t ∧ poN F κ a (i + 1) t + a i = F (κ i) (poN F κ a i t + a i) := by
  have := (h i hi (poN F κ a i t + a i)).1
  simp only [poN]
  omega
theorem po_mono {F : Nat → Nat → Nat} {good : Nat → Nat → Bool} {κ a : Nat → Nat} {m t i : Nat} (h : FOk F good κ m) : ∀ j, i + j ≤ m → poN F κ a i t ≤ poN F κ a (i + j) t
  | 0, _ => Nat.le_refl _
  | j + 1, hj => Nat.le_trans (po_mono h j (by omega)) (po_st h (show i + j < m by omega)).1
theorem po_ge {F : Nat → Nat → Nat} {good : Nat → Nat → Bool} {κ a : Nat → Nat} {m t i : Nat} (h : FOk F good κ m) (hi : i ≤ m) : t ≤ poN F κ a i t := by
  have := po_mono (a := a) (t := t) (i := 0) h i (by omega)
  rw [Nat.zero_add] at this
  exact this
theorem po_ub {F : Nat → Nat → Nat} {good : Nat → Nat → Bool} {κ a : Nat → Nat} {m t s : Nat} (h : FOk F good κ m) (hs : ∀ i, i < m → good (κ i) (s + a i) = true) (ht : t ≤ s) : ∀ i, i ≤ m → poN F κ a i t ≤ s
  | 0, _ => ht
  | i + 1, hi => by
    have ih := po_ub h hs ht i (by omega)
    obtain ⟨e1, e2⟩ := po_st (a := a) (t := t) h (show i < m by omega)
    by_cases c : poN F κ a (i + 1) t ≤ s
    · exact c
    · have := (h i (by omega) (poN F κ a i t + a i)).2.2 (s + a i) (by omega) (by omega)
      rw [hs i (by omega)] at this
      cases this
theorem po_fix {F : Nat → Nat → Nat} {good : Nat → Nat → Bool} {κ a : Nat → Nat} {m t : Nat} (h : FOk F good κ m) (he : poN F κ a m t = t) : ∀ i, i < m → good (κ i) (t + a i) = true := by
  intro i hi
  have e0 := po_ge (a := a) (t := t) h (show i ≤ m by omega)
  obtain ⟨e1, e2⟩ := po_st (a := a) (t := t) h hi
  have e3 := po_mono (a := a) (t := t) (i := i + 1) h (m - (i + 1)) (by omega)
  rw [show i + 1 + (m - (i + 1)) = m by omega, he] at e3
  have e4 : poN F κ a i t = t := by omega
  have e5 : poN F κ a (i + 1) t = t := by omega
  rw [e4, e5] at e2
  have := (h i hi (t + a i)).2.1
  rw [← e2] at this
  exact this
theorem po_end {F : Nat → Nat → Nat} {good : Nat → Nat → Bool} {τ : Nat → Nat → Nat} {sz T κ a : Nat → Nat} {m t : Nat} (h : FOk F good κ m) (hF : ∀ i, i < m → ∀ y, F (κ i) y = y ∨ ∃ j, j < sz (κ i) ∧ F (κ i) y = τ (κ i) j + T (κ i)) : ∀ i, i ≤ m → poN F κ a i t = t ∨ ∃ p j, p < i ∧ j < sz (κ p) ∧ poN F κ a i t + a p = τ (κ p) j + T (κ p)
  | 0, _ => Or.inl rfl
  | i + 1, hi => by
    obtain ⟨e1, e2⟩ := po_st (a := a) (t := t) h (show i < m by omega)
    rcases hF i (by omega) (poN F κ a i t + a i) with q | ⟨j, j1, j2⟩
    · have e : poN F κ a (i + 1) t = poN F κ a i t := by omega
      rw [e]
      rcases po_end (a := a) (t := t) h hF i (by omega) with q | ⟨p, j, p1, p2, p3⟩
      · exact Or.inl q
      · exact Or.inr ⟨p, j, by omega, p2, p3⟩
    · exact Or.inr ⟨i, j, by omega, j1, by omega⟩
def sNn (f : Nat → Nat) : Nat → Nat
  | 0 => 0
  | n + 1 => sNn f n + f n
theorem sNn_le {f f' : Nat → Nat} : ∀ n, (∀ i, i < n → f i ≤ f' i) → sNn f n ≤ sNn f' n
  | 0, _ => Nat.le_refl _
  | n + 1, h => Nat.add_le_add (sNn_le n (fun i hi => h i (by omega))) (h n (by omega))
theorem sNn_lt {f f' : Nat → Nat} {p : Nat} (hp : f p < f' p) : ∀ n, p < n → (∀ i, i < n → f i ≤ f' i) → sNn f n < sNn f' n
  | 0, h0, _ => by omega
  | n + 1, h1, h => by
    simp only [sNn]
    have e := h n (by omega)
    by_cases c : p = n
    · subst c
      have := sNn_le p (fun i hi => h i (by omega))
      omega
    · have := sNn_lt hp n (by omega) (fun i hi => h i (by omega))
      omega
theorem sNn_bd {f : Nat → Nat} {B : Nat} : ∀ n, (∀ i, i < n → f i ≤ B) → sNn f n ≤ n * B
  | 0, _ => by simp [sNn]
  | n + 1, h => by
    have e := sNn_bd n (fun i hi => h i (by omega))
    have e2 := h n (by omega)
    simp only [sNn]
    rw [Nat.add_mul]
    omega
def muN (τ : Nat → Nat → Nat) (sz T κ a : Nat → Nat) (m t : Nat) : Nat := sNn (fun i => cnN (fun j => decide (t + a i < τ (κ i) j + T (κ i))) (sz (κ i))) m
theorem mu_lt {τ : Nat → Nat → Nat} {sz T κ a : Nat → Nat} {m t t' p j : Nat} (ht : t < t') (hp : p < m) (hj : j < sz (κ p)) (he : t' + a p = τ (κ p) j + T (κ p)) : muN τ sz T κ a m t' < muN τ sz T κ a m t := by
  unfold muN
  refine sNn_lt (p := p) ?_ m hp (fun i hi => ?_)
  · refine cnN_lt (q := j) ?_ ?_ _ hj (fun q _ hq => ?_)
    · simp only [decide_eq_false_iff_not]; omega
    · simp only [decide_eq_true_eq]; omega
    · simp only [decide_eq_true_eq] at hq ⊢; omega
  · refine cnN_le _ (fun q _ hq => ?_)
    simp only [decide_eq_true_eq] at hq ⊢; omega
theorem mu_bd {τ : Nat → Nat → Nat} {sz T κ a : Nat → Nat} {m t B : Nat} (h : ∀ i, i < m → sz (κ i) ≤ B) : muN τ sz T κ a m t ≤ m * B := sNn_bd m (fun i hi => Nat.le_trans (cnN_n _) (h i hi))
/-- the entries of the class are those of the reference -/
def CpE (w : Wd) (E : List Ent) : Prop := ∀ k, k < cn w 6 → AlQ w k ∧ (List.range (szA w k)).map (tkv w k) = (E.filter (fun e => decide (e.1 = k))).map (fun e => e.2)
theorem any_flt (E : List Ent) (k : Nat) (f : Nat → Bool) : E.any (fun e => decide (e.1 = k) && f e.2) = ((E.filter (fun e => decide (e.1 = k))).map (fun e => e.2)).any f := by
  induction E with
  | nil => rfl
  | cons e E ih =>
    by_cases c : e.1 = k
    · simp only [List.any_cons, List.filter_cons, c, decide_true, Bool.true_and, if_true, List.map_cons, ih]
    · simp only [List.any_cons, List.filter_cons, c, decide_false, Bool.false_and, Bool.false_or, ih]; rfl
theorem fr_cp {w : Wd} {E : List Ent} {k : Nat} (h : CpE w E) (hk : k < cn w 6) (x : Nat) : frN (grf w) E k x = true ↔ ∀ i, i < szA w k → ovN (gfT (grf w) k) (tkv w k i) x = false := by
  unfold frN
  rw [any_flt E k (fun y => ovN (gfT (grf w) k) y x), ← (h k hk).2, Bool.not_eq_true', List.any_eq_false]
  constructor
  · intro q i hi
    have := q (tkv w k i) (List.mem_map.mpr ⟨i, List.mem_range.mpr hi, rfl⟩)
    exact Bool.eq_false_iff.mpr this
  · intro q y hy
    obtain ⟨i, i1, i2⟩ := List.mem_map.mp hy
    rw [← i2, q i (List.mem_range.mp i1)]
    exact Bool.false_ne_true
def ffW (w : Wd) (k y : Nat) : Nat := ffA (tkv w k) (szA w k) (mnA w k) (szA w k + 1) y
theorem ffW_ok {w : Wd} {E : List Ent} {k : Nat} (h : CpE w E) (hk : k < cn w 6) (hm : mnA w k = gfT (grf w) k) (y : Nat) : y ≤ ffW w k y ∧ frN (grf w) E k (ffW w k y) = true ∧ ∀ z, y ≤ z → z < ffW w k y → frN (grf w) E k z = false := by
  obtain ⟨h1, h2, h3⟩ := ff_ok (τ := tkv w k) (s := szA w k) (T := mnA w k) (szA w k + 1) y (Nat.lt_succ_of_le (cnN_n _))
  refine ⟨h2, (fr_cp h hk _).mpr (by rw [← hm]; exact h1), fun z z1 z2 => ?_⟩
  obtain ⟨i, i1, i2⟩ := h3 z z1 z2
  cases q : frN (grf w) E k z
  · rfl
  · rw [hm, (fr_cp h hk z).mp q i i1] at i2
    cases i2
theorem ffW_end (w : Wd) (k y : Nat) : ffW w k y = y ∨ ∃ j, j < szA w k ∧ ffW w k y = tkv w k j + mnA w k := ff_end _ _
theorem mb_iff {g : Gf} {E : List Ent} {κ : Nat → Nat} {m t : Nat} : mbN g E κ m t = true ↔ ∀ i, i < m → frN g E (κ i) (t + aN g κ i) = true := by
  unfold mbN
  rw [Bool.not_eq_true']
  constructor
  · intro h i hi
    cases q : frN g E (κ i) (t + aN g κ i)
    · have := anyN_t (f := fun i => !frN g E (κ i) (t + aN g κ i)) (n := m) hi (by simp [q])
      rw [h] at this
      cases this
    · rfl
  · intro h
    cases q : anyN (fun i => !frN g E (κ i) (t + aN g κ i)) m
    · rfl
    · obtain ⟨i, i1, i2⟩ := (anyN_iff _ _).mp q
      rw [h i i1] at i2
      cases i2
