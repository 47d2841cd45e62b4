/-! alleys as a graph: ways and their minutes -/
abbrev Gf : Type := Nat × ((Nat → Nat) × ((Nat → Nat) × (Nat → Nat)))
def gfN (g : Gf) : Nat := g.1
def gfA (g : Gf) : Nat → Nat := g.2.1
def gfB (g : Gf) : Nat → Nat := g.2.2.1
def gfT (g : Gf) : Nat → Nat := g.2.2.2
def tcB (g : Gf) (k p : Nat) : Bool := decide (gfA g k = p) || decide (gfB g k = p)
def otN (g : Gf) (k p : Nat) : Nat := if gfA g k = p then gfB g k else gfA g k
def gfOk (g : Gf) (np : Nat) : Prop := ∀ k, k < gfN g → gfA g k < np ∧ gfB g k < np ∧ ¬ gfA g k = gfB g k ∧ 1 ≤ gfT g k ∧ gfT g k ≤ 30
/-- a way of so many alleys, with its minutes -/
def pth (g : Gf) : Nat → Nat → Nat → Nat → Prop
  | 0, p, b, d => p = b ∧ d = 0
  | n + 1, p, b, d => ∃ k d', k < gfN g ∧ tcB g k p = true ∧ d = gfT g k + d' ∧ pth g n (otN g k p) b d'
theorem otN_lt {g : Gf} {np k p : Nat} (h : gfOk g np) (hk : k < gfN g) : otN g k p < np := by
  obtain ⟨h1, h2, -⟩ := h k hk
  unfold otN; split <;> assumption
theorem otN_A (g : Gf) (k : Nat) : otN g k (gfA g k) = gfB g k := by simp [otN]
theorem otN_B {g : Gf} {np k : Nat} (h : gfOk g np) (hk : k < gfN g) : otN g k (gfB g k) = gfA g k := by
  obtain ⟨h1, h2, h3, -⟩ := h k hk
  simp [otN, h3]
theorem tcB_A (g : Gf) (k : Nat) : tcB g k (gfA g k) = true := by simp [tcB]
theorem tcB_B (g : Gf) (k : Nat) : tcB g k (gfB g k) = true := by simp [tcB]
theorem pth_app {g : Gf} {m q r e : Nat} (h2 : pth g m q r e) : ∀ n p d, pth g n p q d → pth g (n + m) p r (d + e)
  | 0, p, d, h => by
    obtain ⟨rfl, rfl⟩ := h
    rw [Nat.zero_add, Nat.zero_add]
    exact h2
  | n + 1, p, d, h => by
    obtain ⟨k, d', h1, h3, h4, h5⟩ := h
    rw [show n + 1 + m = n + m + 1 by omega]
    exact ⟨k, d' + e, h1, h3, by omega, pth_app h2 n _ _ h5⟩
theorem pth_ext {g g' : Gf} (hn : gfN g ≤ gfN g') (hs : ∀ k, k < gfN g → gfA g' k = gfA g k ∧ gfB g' k = gfB g k ∧ gfT g' k = gfT g k) : ∀ n p b d, pth g n p b d → pth g' n p b d
  | 0, p, b, d, h => h
  | n + 1, p, b, d, h => by
    obtain ⟨k, d', h1, h3, h4, h5⟩ := h
    obtain ⟨e1, e2, e3⟩ := hs k h1
    refine ⟨k, d', by omega, by simpa [tcB, e1, e2] using h3, by rw [e3]; exact h4, ?_⟩
    have : otN g' k p = otN g k p := by simp [otN, e1, e2]
    rw [this]
    exact pth_ext hn hs n _ _ _ h5
def rlx (g : Gf) (F : Nat → Nat) : Prop := ∀ k, k < gfN g → F (gfA g k) ≤ F (gfB g k) + gfT g k ∧ F (gfB g k) ≤ F (gfA g k) + gfT g k
theorem rlx_ot {g : Gf} {F : Nat → Nat} {k p : Nat} (h : rlx g F) (hk : k < gfN g) (ht : tcB g k p = true) : F p ≤ F (otN g k p) + gfT g k := by
  simp only [tcB, Bool.or_eq_true, decide_eq_true_eq] at ht
  unfold otN
  split
  · rename_i e
    have := (h k hk).1
    rw [e] at this
    exact this
  · rename_i e
    have := (h k hk).2
    rcases ht with q | q
    · exact absurd q e
    · rw [q] at this
      exact this
theorem rlx_pth {g : Gf} {F : Nat → Nat} {b : Nat} (h : rlx g F) (hb : F b = 0) : ∀ n p d, pth g n p b d → F p ≤ d
  | 0, p, d, q => by
    obtain ⟨rfl, rfl⟩ := q
    omega
  | n + 1, p, d, q => by
    obtain ⟨k, d', h1, h3, h4, h5⟩ := q
    have := rlx_pth h hb n _ _ h5
    have := rlx_ot h h1 h3
    omega
/-- minutes between all places -/
def Mtr (g : Gf) (np : Nat) (D : Nat → Nat → Nat) : Prop :=
  (∀ i, i < np → D i i = 0) ∧ (∀ i j, i < np → j < np → D i j ≤ 1000000) ∧ (∀ i j k, i < np → j < np → k < np → D i j ≤ D i k + D k j) ∧
  (∀ k, k < gfN g → D (gfA g k) (gfB g k) ≤ gfT g k ∧ D (gfB g k) (gfA g k) ≤ gfT g k) ∧ (∀ i j, i < np → j < np → D i j < 1000000 → ∃ n, pth g n i j (D i j))
theorem Mtr_rlx {g : Gf} {np b : Nat} {D : Nat → Nat → Nat} (hg : gfOk g np) (h : Mtr g np D) (hb : b < np) : rlx g (fun p => D p b) := by
  obtain ⟨h1, h2, h3, h4, h5⟩ := h
  intro k hk
  obtain ⟨a1, a2, -⟩ := hg k hk
  obtain ⟨b1, b2⟩ := h4 k hk
  have c1 := h3 (gfA g k) b (gfB g k) a1 hb a2
  have c2 := h3 (gfB g k) b (gfA g k) a2 hb a1
  exact ⟨by show D _ _ ≤ D _ _ + _; omega, by show D _ _ ≤ D _ _ + _; omega⟩
/-- minutes to one place, as they are found -/
def inF (g : Gf) (np b : Nat) (F : Nat → Nat) : Prop := F b = 0 ∧ (∀ p, p < np → F p ≤ 1000000) ∧ ∀ p, p < np → F p < 1000000 → ∃ n, pth g n p b (F p)
theorem inF_D {g : Gf} {np b : Nat} {D : Nat → Nat → Nat} {F : Nat → Nat} (hg : gfOk g np) (h : Mtr g np D) (hb : b < np) (hF : inF g np b F) (hr : rlx g F) : ∀ p, p < np → F p = D p b := by
  intro p hp
  have hD := Mtr_rlx hg h hb
  obtain ⟨h1, h2, h3, h4, h5⟩ := h
  obtain ⟨f1, f2, f3⟩ := hF
  have g1 := f2 p hp
  have g2 := h2 p b hp hb
  have k1 : F p < 1000000 → D p b ≤ F p := fun q => by
    obtain ⟨n, hn⟩ := f3 p hp q
    exact rlx_pth (F := fun p => D p b) hD (h1 b hb) n p _ hn
  have k2 : D p b < 1000000 → F p ≤ D p b := fun q => by
    obtain ⟨n, hn⟩ := h5 p b hp hb q
    exact rlx_pth hr f1 n p _ hn
  omega
theorem Mtr_eq {g : Gf} {np : Nat} {D E : Nat → Nat → Nat} (hg : gfOk g np) (h : Mtr g np D) (h' : Mtr g np E) : ∀ i j, i < np → j < np → D i j = E i j := by
  intro i j hi hj
  refine inF_D (F := fun p => D p j) hg h' hj ⟨h.1 j hj, fun p hp => h.2.1 p j hp hj, fun p hp q => h.2.2.2.2 p j hp hj q⟩ (Mtr_rlx hg h hj) i hi
/-- the minutes, where there are such -/
noncomputable def dst (g : Gf) (np : Nat) : Nat → Nat → Nat := @dite _ (∃ D, Mtr g np D) (Classical.propDecidable _) (fun h => Classical.choose h) (fun _ _ _ => 0)
theorem dst_ok {g : Gf} {np : Nat} (h : ∃ D, Mtr g np D) : Mtr g np (dst g np) := by
  unfold dst
  split
  · rename_i q
    exact Classical.choose_spec q
  · exact absurd h (by assumption)
theorem dst_is {g : Gf} {np : Nat} {D : Nat → Nat → Nat} (hg : gfOk g np) (h : Mtr g np D) : ∀ i j, i < np → j < np → dst g np i j = D i j := Mtr_eq hg (dst_ok ⟨D, h⟩) h
/-! one relaxing -/
def upF (F : Nat → Nat) (a v : Nat) : Nat → Nat := fun p => if p = a then v else F p
theorem upF_at (F : Nat → Nat) (a v : Nat) : upF F a v a = v := if_pos rfl
theorem upF_ne {F : Nat → Nat} {a v p : Nat} (h : ¬ p = a) : upF F a v p = F p := if_neg h
def smF (F : Nat → Nat) : Nat → Nat
  | 0 => 0
  | n + 1 => smF F n + F n
theorem smF_le {F F' : Nat → Nat} : ∀ n, (∀ p, p < n → F' p ≤ F p) → smF F' n ≤ smF F n
  | 0, _ => Nat.le_refl _
  | n + 1, h => by
    have := smF_le n (fun p hp => h p (by omega))
    have := h n (by omega)
    simp only [smF]; omega
theorem smF_up {F : Nat → Nat} {a v : Nat} (hv : v < F a) : ∀ n, a < n → smF (upF F a v) n < smF F n
  | 0, h => by omega
  | n + 1, h => by
    simp only [smF]
    by_cases e : a = n
    · subst e
      have : smF (upF F a v) a ≤ smF F a := smF_le a (fun p hp => by rw [upF_ne (by omega)]; exact Nat.le_refl _)
      rw [upF_at]; omega
    · have := smF_up hv n (by omega)
      rw [upF_ne (p := n) (by omega)]; omega
theorem inF_up {g : Gf} {np b x k : Nat} {F : Nat → Nat} (h : inF g np b F) (hg : gfOk g np) (hk : k < gfN g) (ht : tcB g k x = true) (hlt : F (otN g k x) + gfT g k < F x) : inF g np b (upF F x (F (otN g k x) + gfT g k)) := by
  obtain ⟨h1, h2, h3⟩ := h
  refine ⟨?_, fun p hp => ?_, fun p hp q => ?_⟩
  · rw [upF_ne (fun e => by rw [← e, h1] at hlt; omega)]; exact h1
  · by_cases e : p = x
    · subst e
      rw [upF_at]
      have := h2 p hp
      omega
    · rw [upF_ne e]; exact h2 p hp
  · by_cases e : p = x
    · subst e
      rw [upF_at] at q ⊢
      obtain ⟨n, hn⟩ := h3 (otN g k p) (otN_lt hg hk) (by omega)
      exact ⟨n + 1, k, _, hk, ht, Nat.add_comm _ _, hn⟩
    · rw [upF_ne e] at q ⊢; exact h3 p hp q
def rl1 (g : Gf) (F : Nat → Nat) (k : Nat) : Nat → Nat := if F (gfB g k) + gfT g k < F (gfA g k) then upF F (gfA g k) (F (gfB g k) + gfT g k) else F
def rl2 (g : Gf) (F : Nat → Nat) (k : Nat) : Nat → Nat := if F (gfA g k) + gfT g k < F (gfB g k) then upF F (gfB g k) (F (gfA g k) + gfT g k) else F
def rlB (g : Gf) (F : Nat → Nat) (k : Nat) : Bool := decide (F (gfB g k) + gfT g k < F (gfA g k)) || decide (rl1 g F k (gfA g k) + gfT g k < rl1 g F k (gfB g k))
def psF (g : Gf) (F : Nat → Nat) : Nat → Nat → Nat
  | 0 => F
  | k + 1 => rl2 g (rl1 g (psF g F k) k) k
def psB (g : Gf) (F : Nat → Nat) : Nat → Bool
  | 0 => false
  | k + 1 => psB g F k || rlB g (psF g F k) k
theorem rl1_ok {g : Gf} {np b k : Nat} {F : Nat → Nat} (h : inF g np b F) (hg : gfOk g np) (hk : k < gfN g) : inF g np b (rl1 g F k) ∧ smF (rl1 g F k) np ≤ smF F np ∧ (F (gfB g k) + gfT g k < F (gfA g k) → smF (rl1 g F k) np < smF F np) := by
  unfold rl1
  split
  · rename_i q
    have e := otN_A g k
    have := inF_up (x := gfA g k) h hg hk (tcB_A g k) (by rw [e]; exact q)
    rw [e] at this
    have s := smF_up q np (hg k hk).1
    exact ⟨this, by omega, fun _ => s⟩
  · exact ⟨h, Nat.le_refl _, fun q => absurd q (by assumption)⟩
theorem rl2_ok {g : Gf} {np b k : Nat} {F : Nat → Nat} (h : inF g np b F) (hg : gfOk g np) (hk : k < gfN g) : inF g np b (rl2 g F k) ∧ smF (rl2 g F k) np ≤ smF F np ∧ (F (gfA g k) + gfT g k < F (gfB g k) → smF (rl2 g F k) np < smF F np) := by
  unfold rl2
  split
  · rename_i q
    have e := otN_B hg hk
    have := inF_up (x := gfB g k) h hg hk (tcB_B g k) (by rw [e]; exact q)
    rw [e] at this
    have s := smF_up q np (hg k hk).2.1
    exact ⟨this, by omega, fun _ => s⟩
  · exact ⟨h, Nat.le_refl _, fun q => absurd q (by assumption)⟩
theorem ps_ok {g : Gf} {np b : Nat} {F : Nat → Nat} (h : inF g np b F) (hg : gfOk g np) : ∀ k, k ≤ gfN g → inF g np b (psF g F k) ∧ smF (psF g F k) np ≤ smF F np ∧ (psB g F k = true → smF (psF g F k) np < smF F np)
  | 0, _ => ⟨h, Nat.le_refl _, fun q => by cases q⟩
  | k + 1, hk => by
    obtain ⟨i1, i2, i3⟩ := ps_ok h hg k (by omega)
    obtain ⟨j1, j2, j3⟩ := rl1_ok i1 hg (show k < gfN g by omega)
    obtain ⟨k1, k2, k3⟩ := rl2_ok j1 hg (show k < gfN g by omega)
    refine ⟨k1, by simp only [psF]; omega, fun q => ?_⟩
    simp only [psB, rlB, Bool.or_eq_true, decide_eq_true_eq] at q
    simp only [psF]
    rcases q with q | q | q
    · have := i3 q; omega
    · have := j3 q; omega
    · have := k3 q; omega
theorem ps_no {g : Gf} {F : Nat → Nat} : ∀ k, psB g F k = false → psF g F k = F ∧ ∀ j, j < k → F (gfA g j) ≤ F (gfB g j) + gfT g j ∧ F (gfB g j) ≤ F (gfA g j) + gfT g j
  | 0, _ => ⟨rfl, fun _ h => by omega⟩
  | k + 1, h => by
    simp only [psB, Bool.or_eq_false_iff] at h
    obtain ⟨e, i2⟩ := ps_no k h.1
    have q := h.2
    rw [e] at q
    simp only [rlB, Bool.or_eq_false_iff, decide_eq_false_iff_not] at q
    have e1 : rl1 g F k = F := if_neg q.1
    rw [e1] at q
    have e2 : rl2 g F k = F := if_neg q.2
    refine ⟨by simp only [psF, e, e1, e2], fun j hj => ?_⟩
    by_cases c : j = k
    · subst c; omega
    · exact i2 j (by omega)
theorem ps_rlx {g : Gf} {F : Nat → Nat} (h : psB g F (gfN g) = false) : rlx g F := fun k hk => (ps_no _ h).2 k hk
/-! the way from a place: its alleys, one behind the other -/
def nxF (g : Gf) (D : Nat → Nat → Nat) (b p : Nat) : Nat → Bool := fun k => tcB g k p && decide (D (otN g k p) b + gfT g k = D p b)
def nxK (g : Gf) (D : Nat → Nat → Nat) (b p : Nat) : Nat := (fstN (nxF g D b p) (gfN g)).getD 0
def wyP (g : Gf) (D : Nat → Nat → Nat) (a b : Nat) : Nat → Nat
  | 0 => a
  | s + 1 => otN g (nxK g D b (wyP g D a b s)) (wyP g D a b s)
def wyK (g : Gf) (D : Nat → Nat → Nat) (a b : Nat) (s : Nat) : Nat := nxK g D b (wyP g D a b s)
theorem fstN_ex {f : Nat → Bool} : ∀ {n : Nat}, (∃ k, k < n ∧ f k = true) → ∃ k, fstN f n = some k
  | 0, h => by obtain ⟨k, hk, -⟩ := h; omega
  | n + 1, h => by
    obtain ⟨k, hk, hf⟩ := h
    cases hn : fstN f n with
    | some j => exact ⟨j, by simp [fstN, hn]⟩
    | none =>
      by_cases e : k = n
      · subst e; exact ⟨k, by simp [fstN, hn, hf]⟩
      · obtain ⟨j, hj⟩ := fstN_ex (f := f) (n := n) ⟨k, by omega, hf⟩
        rw [hn] at hj; cases hj
theorem fstN_nb {f : Nat → Bool} : ∀ {n : Nat}, fstN f n = none → ∀ j, j < n → f j = false
  | 0, _, j, hj => by omega
  | n + 1, h, j, hj => by
    cases hn : fstN f n with
    | some k => simp [fstN, hn] at h
    | none =>
      by_cases e : j = n
      · subst e
        cases hf : f j with
        | false => rfl
        | true => simp [fstN, hn, hf] at h
      · exact fstN_nb hn j (by omega)
theorem fstN_bf {f : Nat → Bool} : ∀ {n k : Nat}, fstN f n = some k → ∀ j, j < k → f j = false
  | 0, k, h, j, hj => by cases h
  | n + 1, k, h, j, hj => by
    cases hn : fstN f n with
    | some i =>
      simp only [fstN, hn, Option.some.injEq] at h
      subst h
      exact fstN_bf hn j hj
    | none =>
      have := fstN_nb hn
      simp only [fstN, hn] at h
      split at h
      · cases h; exact this j hj
      · cases h
theorem nx_ex {g : Gf} {np b p : Nat} {D : Nat → Nat → Nat} (hg : gfOk g np) (h : Mtr g np D) (hb : b < np) (hp : p < np) (hf : D p b < 1000000) (hne : ¬ p = b) : ∃ k, fstN (nxF g D b p) (gfN g) = some k ∧ nxK g D b p = k ∧ k < gfN g ∧ tcB g k p = true ∧ otN g k p < np ∧ D (otN g k p) b + gfT g k = D p b ∧ 1 ≤ gfT g k ∧ gfT g k ≤ 30 := by
  obtain ⟨n, hn⟩ := h.2.2.2.2 p b hp hb hf
  have ex : ∃ k, k < gfN g ∧ nxF g D b p k = true := by
    cases n with
    | zero => exact absurd hn.1 hne
    | succ n =>
      obtain ⟨k, d', h1, h3, h4, h5⟩ := hn
      refine ⟨k, h1, ?_⟩
      have r := Mtr_rlx hg h hb
      have q1 := rlx_pth (F := fun p => D p b) r (h.1 b hb) n _ _ h5
      have q2 := rlx_ot (F := fun p => D p b) r h1 h3
      have q1 : D (otN g k p) b ≤ d' := q1
      have q2 : D p b ≤ D (otN g k p) b + gfT g k := q2
      simp only [nxF, h3, Bool.true_and, decide_eq_true_eq]
      omega
  obtain ⟨k, hk⟩ := fstN_ex ex
  obtain ⟨k1, k2⟩ := fstN_s hk
  simp only [nxF, Bool.and_eq_true, decide_eq_true_eq] at k2
  obtain ⟨-, -, -, t1, t2⟩ := hg k k1
  exact ⟨k, hk, by simp [nxK, hk], k1, k2.1, otN_lt hg k1, k2.2, t1, t2⟩
/-- how many of the first n -/
def cnN (f : Nat → Bool) : Nat → Nat
  | 0 => 0
  | n + 1 => cnN f n + (if f n = true then 1 else 0)
theorem cnN_le {f f' : Nat → Bool} : ∀ n, (∀ j, j < n → f j = true → f' j = true) → cnN f n ≤ cnN f' n
  | 0, _ => Nat.le_refl _
  | n + 1, h => by
    have := cnN_le n (fun j hj => h j (by omega))
    have := h n (by omega)
    simp only [cnN]
    cases h1 : f n
    · simp; omega
    · simp [this h1]; omega
theorem cnN_lt {f f' : Nat → Bool} {q : Nat} (h1 : f q = false) (h2 : f' q = true) : ∀ n, q < n → (∀ j, j < n → f j = true → f' j = true) → cnN f n < cnN f' n
  | 0, hq, _ => by omega
  | n + 1, hq, h => by
    simp only [cnN]
    by_cases e : q = n
    · subst e
      have := cnN_le (f := f) (f' := f') q (fun j hj => h j (by omega))
      simp [h1, h2]; omega
    · have := cnN_lt h1 h2 n (by omega) (fun j hj => h j (by omega))
      have := h n (by omega)
      cases h3 : f n
      · simp; omega
      · simp [this h3]; omega
theorem cnN_n {f : Nat → Bool} : ∀ n, cnN f n ≤ n
  | 0 => Nat.le_refl _
  | n + 1 => by
    have := cnN_n (f := f) n
    simp only [cnN]; split <;> omega
def rkN (D : Nat → Nat → Nat) (b p np : Nat) : Nat := cnN (fun q => decide (D q b < D p b)) np
theorem rk_lt {D : Nat → Nat → Nat} {b p q np : Nat} (hq : q < np) (h : D q b < D p b) : rkN D b q np < rkN D b p np :=
  cnN_lt (q := q) (by simp) (by simp [h]) np hq (fun j _ hj => by simp only [decide_eq_true_eq] at hj ⊢; omega)
theorem rk_np {D : Nat → Nat → Nat} {b p np : Nat} (hp : p < np) : rkN D b p np < np := by
  have := cnN_lt (f := fun q => decide (D q b < D p b)) (f' := fun _ => true) (q := p) (by simp) rfl np hp (fun _ _ _ => rfl)
  have h2 := cnN_n (f := fun _ => true) np
  unfold rkN; omega
/-- along the way: in the yard, nearer at each step -/
theorem wy_ok {g : Gf} {np a b : Nat} {D : Nat → Nat → Nat} (hg : gfOk g np) (h : Mtr g np D) (ha : a < np) (hb : b < np) (hf : D a b < 1000000) : ∀ s, (∀ i, i < s → ¬ wyP g D a b i = b) → wyP g D a b s < np ∧ D (wyP g D a b s) b < 1000000 ∧ rkN D b (wyP g D a b s) np + s ≤ rkN D b a np
  | 0, _ => ⟨ha, hf, Nat.le_refl _⟩
  | s + 1, hn => by
    obtain ⟨i1, i2, i3⟩ := wy_ok hg h ha hb hf s (fun i hi => hn i (by omega))
    obtain ⟨k, -, k2, k3, k4, k5, k6, k7, -⟩ := nx_ex hg h hb i1 i2 (hn s (by omega))
    simp only [wyP, k2]
    have := rk_lt (D := D) (b := b) (p := wyP g D a b s) k5 (by omega)
    exact ⟨k5, by omega, by omega⟩
theorem wy_end {g : Gf} {np a b : Nat} {D : Nat → Nat → Nat} (hg : gfOk g np) (h : Mtr g np D) (h14 : np ≤ 14) (ha : a < np) (hb : b < np) (hf : D a b < 1000000) : ∃ m, fstN (fun s => decide (wyP g D a b s = b)) 14 = some m := by
  cases hm : fstN (fun s => decide (wyP g D a b s = b)) 14 with
  | some m => exact ⟨m, rfl⟩
  | none =>
    exfalso
    have q := fstN_nb hm
    obtain ⟨-, -, i3⟩ := wy_ok hg h ha hb hf 14 (fun i hi => by have := q i hi; simpa using this)
    have := rk_np (D := D) (b := b) ha
    omega
/-- how many alleys the way has -/
def wyL (g : Gf) (D : Nat → Nat → Nat) (a b : Nat) : Nat := if 1000000 ≤ D a b then 0 else (fstN (fun s => decide (wyP g D a b s = b)) 14).getD 0
theorem wyL_ok {g : Gf} {np a b : Nat} {D : Nat → Nat → Nat} (hg : gfOk g np) (h : Mtr g np D) (h14 : np ≤ 14) (ha : a < np) (hb : b < np) (hf : D a b < 1000000) : wyL g D a b ≤ 13 ∧ wyP g D a b (wyL g D a b) = b ∧ ∀ s, s < wyL g D a b → ¬ wyP g D a b s = b := by
  obtain ⟨m, hm⟩ := wy_end hg h h14 ha hb hf
  have e : wyL g D a b = m := by unfold wyL; rw [if_neg (by omega), hm]; rfl
  rw [e]
  obtain ⟨h1, h2⟩ := fstN_s hm
  exact ⟨by omega, by simpa using h2, fun s hs => by have := fstN_bf hm s hs; simpa using this⟩
