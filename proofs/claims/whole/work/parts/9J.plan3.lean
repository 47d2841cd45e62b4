/-! the search over the planner's own rows -/
theorem fdN_id {α : Type} (a : α) : ∀ n, fdN (fun b _ => b) a n = a
  | 0 => rfl
  | n + 1 => by simp only [fdN]; exact fdN_id a n
theorem fd_cnt {α : Type} {f : α → Nat → α} {p : Nat → Bool} {e : Nat → Nat} (hn : ∀ a i, p i = false → f a i = a) : ∀ n a, (∀ i, i < n → p i = true → e (cnN p i) = i) → fdN f a n = fdN (fun b i => f b (e i)) a (cnN p n)
  | 0, a, _ => rfl
  | n + 1, a, he => by
    have ih := fd_cnt hn n a (fun i hi => he i (by omega))
    simp only [fdN, cnN]
    cases hp : p n with
    | false => simp only [hn _ _ hp, Bool.false_eq_true, if_false]; exact ih
    | true =>
      simp only [if_true, fdN, ih]
      rw [he n (by omega) hp]
theorem srch_cmp {g : Gf} {D : Nat → Nat → Nat} {pa : Nat → Nat} {t0 nl np : Nat} {L0 P0 : Nat → Bool} {eL eP : Nat → Nat} (heL : ∀ i, i < nl → L0 i = true → eL (cnN L0 i) = i) (heP : ∀ i, i < np → P0 i = true → eP (cnN P0 i) = i) : ∀ d n L P last E pl b, (∀ i, L i = true → L0 i = true) → (∀ j, P j = true → P0 j = true) → srch g D pa t0 nl np (fun i => i) (fun j => j) d n L P last E pl b = srch g D pa t0 (cnN L0 nl) (cnN P0 np) eL eP d n L P last E pl b
  | 0, n, L, P, last, E, pl, b, _, _ => by simp only [srch]
  | d + 1, n, L, P, last, E, pl, b, hL, hP => by
    have e1 : ∀ (b : Bst) (i j : Nat), (if L i && (P j && decide (D (pa i) j < 1000000)) then (if cutB b (max last (drE g D E t0 (pa i) j)) then b else srch g D pa t0 nl np (fun i => i) (fun j => j) d (n + 1) (rmS L i) (rmS P j) (max last (drE g D E t0 (pa i) j)) (drL g D E t0 (pa i) j) (upP pl n (i, j)) b) else b) = (if L i && (P j && decide (D (pa i) j < 1000000)) then (if cutB b (max last (drE g D E t0 (pa i) j)) then b else srch g D pa t0 (cnN L0 nl) (cnN P0 np) eL eP d (n + 1) (rmS L i) (rmS P j) (max last (drE g D E t0 (pa i) j)) (drL g D E t0 (pa i) j) (upP pl n (i, j)) b) else b) := fun b i j => by
      rw [srch_cmp heL heP d (n + 1) (rmS L i) (rmS P j) _ _ _ b (fun q hq => by simp only [rmS, Bool.and_eq_true] at hq; exact hL q hq.1) (fun q hq => by simp only [rmS, Bool.and_eq_true] at hq; exact hP q hq.1)]
    rw [srch, srch]
    simp only [e1]
    rw [fd_cnt (p := L0) (e := eL) (fun a i hi => ?_) nl b heL]
    · congr 1
      funext b i
      rw [fd_cnt (p := P0) (e := eP) (fun a j hj => ?_) np b heP]
      have : P j = false := by cases h : P j with | false => rfl | true => rw [hP j h] at hj; cases hj
      simp [this]
    · have : L i = false := by cases h : L i with | false => rfl | true => rw [hL i h] at hi; cases hi
      simp only [this, Bool.false_and, Bool.false_eq_true, if_false]
      exact fdN_id a np
/-- all but what the planner's search writes is the same -/
def SmK (w0 w : Wd) : Prop := w.2 = w0.2 ∧ ∀ t k i, ¬ (t = 186 ∨ (t = 9 ∧ i = 4) ∨ t = 179 ∨ t = 180 ∨ t = 181 ∨ t = 182 ∨ (t = 6 ∧ (i = 10 ∨ i = 11 ∨ i = 13 ∨ i = 14))) → wI w t k i = wI w0 t k i
theorem SmK_r (w : Wd) : SmK w w := ⟨rfl, fun _ _ _ _ => rfl⟩
theorem SmK_t {a b c : Wd} (h : SmK a b) (h2 : SmK b c) : SmK a c := ⟨h2.1.trans h.1, fun t k i hn => (h2.2 t k i hn).trans (h.2 t k i hn)⟩
theorem SmK_W {w0 w : Wd} (h : SmK w0 w) : SmW w0 w := ⟨h.1, fun t k i hn => h.2 t k i (by omega)⟩
theorem SmK_E {w0 w : Wd} (h : SmE w0 w) : SmK w0 w := ⟨h.1, fun t k i hn => h.2 t k i (by omega)⟩
theorem SmK_I {w : Wd} {t k i : Nat} {v : Int32} (h : t = 186 ∨ (t = 9 ∧ i = 4) ∨ t = 179 ∨ t = 180 ∨ t = 181 ∨ t = 182 ∨ (t = 6 ∧ (i = 10 ∨ i = 11 ∨ i = 13 ∨ i = 14))) : SmK w (sI w t k i v) := ⟨sI_2 w t k i v, fun t' k' i' hn => by rw [yI_sI, if_neg (by omega)]⟩
theorem WyC_K {w0 w : Wd} {x m : Nat} {κ : Nat → Nat} (h : SmK w0 w) (hW : WyC w0 x κ m) : WyC w x κ m := by
  obtain ⟨h1, h2, h3⟩ := hW
  have eg := SmW_g (SmK_W h)
  have ec := SmW_c (SmK_W h) 6
  refine ⟨by rw [h.2 8 x 2 (by omega)]; exact h1, h2, fun i hi => ?_⟩
  rw [h.2 184 x i (by omega), h.2 185 x i (by omega), eg, ec]
  exact h3 i hi
def KB (w0 w : Wd) (mny : Nat) (b : Bst) : Prop := (match b.1 with | none => wI w 6 0 13 = 2000000000 ∧ wI w 6 0 14 = wI w0 6 0 14 ∧ ∀ i, wI w 181 0 i = wI w0 181 0 i ∧ wI w 182 0 i = wI w0 182 0 i | some x => wI w 6 0 13 = nI x ∧ x < 2 ^ 30 ∧ wI w 6 0 14 = nI mny ∧ ∀ i, i < mny → wI w 181 0 i = nI (b.2 i).1 ∧ wI w 182 0 i = nI (b.2 i).2)
theorem KB_eq {w0 w w' : Wd} {mny : Nat} {b : Bst} (h : KB w0 w mny b) (h1 : wI w' 6 0 13 = wI w 6 0 13) (h3 : wI w' 6 0 14 = wI w 6 0 14) (h2 : ∀ i, wI w' 181 0 i = wI w 181 0 i ∧ wI w' 182 0 i = wI w 182 0 i) : KB w0 w' mny b := by
  unfold KB at h ⊢
  split
  · rename_i e
    rw [e] at h
    exact ⟨by rw [h1]; exact h.1, by rw [h3]; exact h.2.1, fun i => by rw [(h2 i).1, (h2 i).2]; exact h.2.2 i⟩
  · rename_i x e
    rw [e] at h
    exact ⟨by rw [h1]; exact h.1, h.2.1, by rw [h3]; exact h.2.2.1, fun i hi => by rw [(h2 i).1, (h2 i).2]; exact h.2.2.2 i hi⟩
theorem KB_cut {w0 w : Wd} {mny last : Nat} {b : Bst} (h : KB w0 w mny b) (hl : last < 4000000) : (nI last < wI w 6 0 13) = (cutB b last = false) := by
  unfold KB at h
  unfold cutB
  split
  · rename_i e
    rw [e] at h
    rw [h.1]
    have : nI last < nI 2000000000 := nI_lt (by omega) (by omega)
    simp only [eq_self, eq_iff_iff, iff_true]
    exact this
  · rename_i x e
    rw [e] at h
    obtain ⟨h1, h2, -⟩ := h
    rw [h1, propext (nI_ltI (show last < 2 ^ 31 by omega) (show x < 2 ^ 31 by omega))]
    simp
def KU (w : Wd) (mny : Nat) (eL eP : Nat → Nat) (L P : Nat → Bool) : Prop := ∀ i, i < mny → btB (wI w 6 0 10) i = !L (eL i) ∧ btB (wI w 6 0 11) i = !P (eP i)
def KP (w : Wd) (pl : Nat → Nat × Nat) (n : Nat) : Prop := ∀ i, i < n → wI w 179 0 i = nI (pl i).1 ∧ wI w 180 0 i = nI (pl i).2
/-- the state of the planner's search -/
def ClJ (w0 w : Wd) (mny n : Nat) (eL eP : Nat → Nat) (L P : Nat → Bool) (E : List Ent) (pl : Nat → Nat × Nat) (b : Bst) : Prop := SmK w0 w ∧ CpE w E ∧ KU w mny eL eP L P ∧ KP w pl n ∧ KB w0 w mny b
/-- what stands ready for it -/
def ClS (w0 : Wd) (mny t0 : Nat) (pa eL eP : Nat → Nat) : Prop := Cpy w0 ∧ mny ≤ 4 ∧ wI w0 6 0 8 = nI mny ∧ wI w0 6 0 9 = nI mny ∧ wI w0 6 0 12 = nI t0 ∧ (∀ i, i < mny → wI w0 177 0 i = nI (eL i) ∧ wI w0 178 0 i = nI (eP i) ∧ pa (eL i) < cn w0 3 ∧ eP i < cn w0 3) ∧ (∀ i j, i < mny → j < mny → (eL i = eL j → i = j) ∧ (eP i = eP j → i = j)) ∧ ∀ i j, i < mny → j < mny → ¬ pa (eL i) = eP j ∧ (dsM w0 (pa (eL i)) (eP j) < 1000000 → WyC w0 (4 * i + j) (wyK (grf w0) (dsM w0) (pa (eL i)) (eP j)) (wyL (grf w0) (dsM w0) (pa (eL i)) (eP j)) ∧ wI w0 8 (4 * i + j) 3 = nI (dsM w0 (pa (eL i)) (eP j)) ∧ 0 < wyL (grf w0) (dsM w0) (pa (eL i)) (eP j)) ∧ (¬ dsM w0 (pa (eL i)) (eP j) < 1000000 → wI w0 8 (4 * i + j) 2 = 0)
