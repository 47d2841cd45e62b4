/-! free minutes and the search for a plan, as mathematics -/
abbrev Ent : Type := Nat × Nat
def ovN (T f x : Nat) : Bool := decide (x < f + T) && decide (f < x + T)
def frN (g : Gf) (E : List Ent) (k x : Nat) : Bool := !E.any (fun e => decide (e.1 = k) && ovN (gfT g k) e.2 x)
def aN (g : Gf) (κ : Nat → Nat) : Nat → Nat
  | 0 => 0
  | i + 1 => aN g κ i + gfT g (κ i)
def mbN (g : Gf) (E : List Ent) (κ : Nat → Nat) (m t : Nat) : Bool := !anyN (fun i => !frN g E (κ i) (t + aN g κ i)) m
/-- the first minute from t on in which the way is free -/
def lfN (g : Gf) (E : List Ent) (κ : Nat → Nat) (m t : Nat) : Nat := t + (fstN (fun d => mbN g E κ m (t + d)) 4000000).getD 0
def tkE (g : Gf) (κ : Nat → Nat) (m t : Nat) : List Ent := (List.range m).map (fun i => (κ i, t + aN g κ i))
def enB (g : Gf) (E : List Ent) (B : Nat) : Prop := ∀ e ∈ E, e.1 < gfN g ∧ e.2 + gfT g e.1 ≤ B
theorem frN_late {g : Gf} {E : List Ent} {B k x : Nat} (h : enB g E B) (hx : B ≤ x) : frN g E k x = true := by
  unfold frN
  rw [Bool.not_eq_true', List.any_eq_false]
  intro e he
  obtain ⟨-, h2⟩ := h e he
  simp only [ovN, Bool.and_eq_true, decide_eq_true_eq, not_and]
  intro hk
  subst hk
  omega
theorem mbN_late {g : Gf} {E : List Ent} {κ : Nat → Nat} {B m t : Nat} (h : enB g E B) (hx : B ≤ t) : mbN g E κ m t = true := by
  unfold mbN
  cases hc : anyN (fun i => !frN g E (κ i) (t + aN g κ i)) m with
  | false => rfl
  | true =>
    obtain ⟨j, -, hj⟩ := (anyN_iff _ _).mp hc
    rw [frN_late h (by omega)] at hj
    cases hj
theorem lf_ok {g : Gf} {E : List Ent} {κ : Nat → Nat} {B m t : Nat} (h : enB g E B) (ht : t ≤ B) (hB : B < 4000000) : ∃ d, fstN (fun d => mbN g E κ m (t + d)) 4000000 = some d ∧ lfN g E κ m t = t + d ∧ t + d ≤ B ∧ mbN g E κ m (t + d) = true ∧ ∀ x, t ≤ x → x < t + d → mbN g E κ m x = false := by
  have hl : mbN g E κ m (t + (B - t)) = true := mbN_late h (by omega)
  obtain ⟨d, hd⟩ := fstN_ex (f := fun d => mbN g E κ m (t + d)) (n := 4000000) ⟨B - t, by omega, hl⟩
  obtain ⟨h1, h2⟩ := fstN_s hd
  have h3 := fstN_bf hd
  refine ⟨d, hd, by rw [lfN, hd]; rfl, ?_, h2, fun x hx hlt => ?_⟩
  · rcases Nat.lt_or_ge (B - t) d with q | q
    · have this : mbN g E κ m (t + (B - t)) = false := h3 _ q
      rw [hl] at this
      cases this
    · omega
  · have this : mbN g E κ m (t + (x - t)) = false := h3 (x - t) (by omega)
    rwa [show t + (x - t) = x by omega] at this
theorem lf_is {g : Gf} {E : List Ent} {κ : Nat → Nat} {B m t s : Nat} (h : enB g E B) (ht : t ≤ B) (hB : B < 4000000) (h1 : t ≤ s) (h2 : mbN g E κ m s = true) (h3 : ∀ x, t ≤ x → x < s → mbN g E κ m x = false) : lfN g E κ m t = s := by
  obtain ⟨d, -, e, -, d1, d2⟩ := lf_ok (κ := κ) (m := m) h ht hB
  rw [e]
  rcases Nat.lt_trichotomy (t + d) s with q | q | q
  · rw [h3 _ (by omega) q] at d1; cases d1
  · exact q
  · rw [d2 s h1 q] at h2; cases h2
/-! minutes along the way -/
theorem wy_aN {g : Gf} {np a b : Nat} {D : Nat → Nat → Nat} (hg : gfOk g np) (h : Mtr g np D) (ha : a < np) (hb : b < np) (hf : D a b < 1000000) : ∀ s, (∀ i, i < s → ¬ wyP g D a b i = b) → aN g (wyK g D a b) s + D (wyP g D a b s) b = D a b ∧ aN g (wyK g D a b) s ≤ 30 * s
  | 0, _ => ⟨by simp [aN, wyP], by simp [aN]⟩
  | s + 1, hn => by
    obtain ⟨i1, i2⟩ := wy_aN hg h ha hb hf s (fun i hi => hn i (by omega))
    obtain ⟨p1, p2, -⟩ := wy_ok hg h ha hb hf s (fun i hi => hn i (by omega))
    obtain ⟨k, -, k2, k3, k4, k5, k6, k7, k8⟩ := nx_ex hg h hb p1 p2 (hn s (by omega))
    have e : wyK g D a b s = k := k2
    simp only [aN, wyP, k2, e]
    exact ⟨by omega, by omega⟩
theorem wy_sum {g : Gf} {np a b : Nat} {D : Nat → Nat → Nat} (hg : gfOk g np) (h : Mtr g np D) (h14 : np ≤ 14) (ha : a < np) (hb : b < np) (hf : D a b < 1000000) : aN g (wyK g D a b) (wyL g D a b) = D a b ∧ D a b ≤ 390 := by
  obtain ⟨m1, m2, m3⟩ := wyL_ok hg h h14 ha hb hf
  obtain ⟨i1, i2⟩ := wy_aN hg h ha hb hf _ m3
  rw [m2, h.1 b hb] at i1
  exact ⟨by omega, by omega⟩
theorem wyK_lt {g : Gf} {np a b s : Nat} {D : Nat → Nat → Nat} (hg : gfOk g np) (h : Mtr g np D) (h14 : np ≤ 14) (ha : a < np) (hb : b < np) (hf : D a b < 1000000) (hs : s < wyL g D a b) : wyK g D a b s < gfN g := by
  obtain ⟨m1, m2, m3⟩ := wyL_ok hg h h14 ha hb hf
  obtain ⟨p1, p2, -⟩ := wy_ok hg h ha hb hf s (fun i hi => m3 i (by omega))
  obtain ⟨k, -, k2, k3, -⟩ := nx_ex hg h hb p1 p2 (m3 s hs)
  rw [wyK, k2]; exact k3
theorem aN_le {g : Gf} {κ : Nat → Nat} : ∀ {s m : Nat}, s ≤ m → aN g κ s ≤ aN g κ m
  | s, 0, h => by rw [show s = 0 by omega]; exact Nat.le_refl _
  | s, m + 1, h => by
    by_cases e : s = m + 1
    · subst e; exact Nat.le_refl _
    · have := aN_le (g := g) (κ := κ) (show s ≤ m by omega)
      simp only [aN]; omega
theorem tkE_B {g : Gf} {np a b t B : Nat} {D : Nat → Nat → Nat} (hg : gfOk g np) (h : Mtr g np D) (h14 : np ≤ 14) (ha : a < np) (hb : b < np) (hf : D a b < 1000000) (hB : t + D a b ≤ B) : enB g (tkE g (wyK g D a b) (wyL g D a b) t) B := by
  intro e he
  simp only [tkE, List.mem_map, List.mem_range] at he
  obtain ⟨i, hi, rfl⟩ := he
  obtain ⟨s1, -⟩ := wy_sum hg h h14 ha hb hf
  have := aN_le (g := g) (κ := wyK g D a b) (show i + 1 ≤ wyL g D a b by omega)
  simp only [aN] at this
  exact ⟨wyK_lt hg h h14 ha hb hf hi, by show t + aN g (wyK g D a b) i + gfT g (wyK g D a b i) ≤ B; omega⟩
theorem enB_app {g : Gf} {E F : List Ent} {B : Nat} (h : enB g E B) (h2 : enB g F B) : enB g (E ++ F) B := fun e he => by
  rcases List.mem_append.mp he with q | q
  · exact h e q
  · exact h2 e q
theorem enB_mono {g : Gf} {E : List Ent} {B C : Nat} (h : enB g E B) (hc : B ≤ C) : enB g E C := fun e he => ⟨(h e he).1, Nat.le_trans (h e he).2 hc⟩
/-! the search -/
abbrev Bst : Type := Option Nat × (Nat → Nat × Nat)
def cutB (b : Bst) (last : Nat) : Bool := match b.1 with
  | none => false
  | some x => decide (x ≤ last)
def fdN {α : Type} (f : α → Nat → α) (a : α) : Nat → α
  | 0 => a
  | n + 1 => f (fdN f a n) n
def rmS (S : Nat → Bool) (l : Nat) : Nat → Bool := fun j => S j && !decide (j = l)
def upP (pl : Nat → Nat × Nat) (n : Nat) (v : Nat × Nat) : Nat → Nat × Nat := fun i => if i = n then v else pl i
/-- a drive of the plan: its end -/
def drE (g : Gf) (D : Nat → Nat → Nat) (E : List Ent) (t0 a p : Nat) : Nat := lfN g E (wyK g D a p) (wyL g D a p) t0 + D a p
def drL (g : Gf) (D : Nat → Nat → Nat) (E : List Ent) (t0 a p : Nat) : List Ent := E ++ tkE g (wyK g D a p) (wyL g D a p) (lfN g E (wyK g D a p) (wyL g D a p) t0)
def srch (g : Gf) (D : Nat → Nat → Nat) (pa : Nat → Nat) (t0 nl np : Nat) (eL eP : Nat → Nat) : Nat → Nat → (Nat → Bool) → (Nat → Bool) → Nat → List Ent → (Nat → Nat × Nat) → Bst → Bst
  | 0, _, _, _, last, _, pl, _ => (some last, pl)
  | d + 1, n, L, P, last, E, pl, b => fdN (fun b i => fdN (fun b j =>
      if L (eL i) && (P (eP j) && decide (D (pa (eL i)) (eP j) < 1000000)) then
        (if cutB b (max last (drE g D E t0 (pa (eL i)) (eP j))) then b else srch g D pa t0 nl np eL eP d (n + 1) (rmS L (eL i)) (rmS P (eP j)) (max last (drE g D E t0 (pa (eL i)) (eP j))) (drL g D E t0 (pa (eL i)) (eP j)) (upP pl n (eL i, eP j)) b)
      else b) b np) b nl
theorem anyN_any {α : Type} {E : List α} {f : Nat → Bool} {p : α → Bool} (h : ∀ i e, E[i]? = some e → f i = p e) : anyN f E.length = E.any p := by
  cases hc : E.any p with
  | false =>
    cases ha : anyN f E.length with
    | false => rfl
    | true =>
      obtain ⟨j, hj, hf⟩ := (anyN_iff _ _).mp ha
      rw [h j E[j] (List.getElem?_eq_getElem hj)] at hf
      rw [List.any_eq_false] at hc
      exact absurd hf (hc _ (List.getElem_mem hj))
  | true =>
    rw [List.any_eq_true] at hc
    obtain ⟨x, hx, hp⟩ := hc
    obtain ⟨i, hi, rfl⟩ := List.mem_iff_getElem.mp hx
    exact (anyN_iff _ _).mpr ⟨i, hi, by rw [h i _ (List.getElem?_eq_getElem hi)]; exact hp⟩
/-! the reference's stretches as a list -/
def RfE (w : Wd) (E : List Ent) : Prop := wI w 13 0 13 = nI E.length ∧ E.length ≤ 500 ∧ ∀ i e, E[i]? = some e → wI w 114 0 i = nI e.1 ∧ wI w 115 0 i = nI e.2 ∧ wI w 116 0 i = nI (e.2 + gfT (grf w) e.1)
theorem RfE_c {w : Wd} {E : List Ent} (h : RfE w E) : okc w 13 500 ∧ cn w 13 = E.length := by
  obtain ⟨h1, h2, -⟩ := h
  have : cn w 13 = E.length := by rw [cn, h1]; exact nI_clamp (by omega)
  exact ⟨⟨by rw [this]; exact h1, by omega⟩, this⟩
theorem fr_RfE {w : Wd} {E : List Ent} {B k x : Nat} (hE : RfE w E) (hB : enB (grf w) E B) (hBB : B < 2 ^ 30) (hk : k < gfN (grf w)) (hn : gfN (grf w) ≤ 20) (hx : x < 2 ^ 30) (hT : gfT (grf w) k ≤ 30) : frB w (nI k) (nI x) (nI (x + gfT (grf w) k)) = frN (grf w) E k x := by
  unfold frB frN
  rw [(RfE_c hE).2]
  congr 1
  refine anyN_any fun i e he => ?_
  obtain ⟨e1, e2, e3⟩ := hE.2.2 i e he
  obtain ⟨b1, b2⟩ := hB e (List.mem_of_getElem? he)
  simp only [mtF, e1, e2, e3]
  have q1 : (nI e.1 = nI k) = (e.1 = k) := propext (nI_eq (by omega) (by omega))
  have q2 : (nI (e.2 + gfT (grf w) e.1) ≤ nI x) = (e.2 + gfT (grf w) e.1 ≤ x) := propext (nI_leI (by omega) (by omega))
  have q3 : (nI e.2 < nI (x + gfT (grf w) k)) = (e.2 < x + gfT (grf w) k) := propext (nI_ltI (by omega) (by omega))
  simp only [q1, q2, q3, ovN]
  by_cases c : e.1 = k
  · rw [c]
    by_cases c2 : e.2 + gfT (grf w) k ≤ x
    · have : ¬ x < e.2 + gfT (grf w) k := by omega
      simp [c2, this]
    · have : x < e.2 + gfT (grf w) k := by omega
      simp [c2, this]
  · simp [c]
/-- the way in the reference -/
def RfW (w : Wd) (κ : Nat → Nat) (m : Nat) : Prop := wI w 13 0 12 = nI m ∧ m ≤ 13 ∧ (∀ i, i < m → wI w 111 0 i = nI (κ i) ∧ κ i < gfN (grf w)) ∧ gfN (grf w) ≤ 20 ∧ (∀ k, k < gfN (grf w) → wI w 109 0 k = nI (gfT (grf w) k) ∧ gfT (grf w) k ≤ 30)
theorem RfW_c {w : Wd} {κ : Nat → Nat} {m : Nat} (h : RfW w κ m) : wyOk w ∧ cn w 12 = m := by
  obtain ⟨h1, h2, h3, h4, -⟩ := h
  have e : cn w 12 = m := by rw [cn, h1]; exact nI_clamp (by omega)
  refine ⟨⟨⟨by rw [e]; exact h1, by omega⟩, fun i hi => ?_⟩, e⟩
  rw [e] at hi
  rw [(h3 i hi).1]
  have := (h3 i hi).2
  exact vp_in_nI (by omega) (by omega)
theorem wyT_W {w : Wd} {κ : Nat → Nat} {m i : Nat} (h : RfW w κ m) (hi : i < m) : wyT w i = nI (gfT (grf w) (κ i)) := by
  obtain ⟨h1, h2, h3, h4, h5⟩ := h
  obtain ⟨a1, a2⟩ := h3 i hi
  unfold wyT
  rw [a1, nI_clamp (by omega)]
  exact (h5 _ a2).1
theorem ahI_W {w : Wd} {κ : Nat → Nat} {m : Nat} (h : RfW w κ m) : ∀ i, i ≤ m → ahI w i = nI (aN (grf w) κ i) ∧ aN (grf w) κ i ≤ 30 * i
  | 0, _ => ⟨rfl, Nat.le_refl _⟩
  | i + 1, hi => by
    obtain ⟨e, e2⟩ := ahI_W h i (by omega)
    have h5 := (h.2.2.2.2 _ (h.2.2.1 i (by omega)).2).2
    refine ⟨?_, by simp only [aN]; omega⟩
    have : ahI w (i + 1) = ahI w i + wyT w i := rfl
    rw [this, e, wyT_W h (by omega), nI_add]
    rfl
theorem mb_W {w : Wd} {E : List Ent} {κ : Nat → Nat} {B m t : Nat} (hW : RfW w κ m) (hE : RfE w E) (hB : enB (grf w) E B) (hBB : B < 2 ^ 30) (ht : t < 2 ^ 29) : mbB w (nI t) = mbN (grf w) E κ m t := by
  unfold mbB mbN
  rw [(RfW_c hW).2]
  congr 1
  refine anyN_congr fun i hi => ?_
  obtain ⟨a1, a2⟩ := hW.2.2.1 i hi
  obtain ⟨b1, b2⟩ := ahI_W hW i (by omega)
  have h13 := hW.2.1
  simp only [mbF, a1, b1, wyT_W hW hi, nI_add]
  rw [fr_RfE hE hB hBB a2 hW.2.2.2.1 (by omega) (hW.2.2.2.2 _ a2).2]
theorem go_W {w : Wd} {E : List Ent} {κ : Nat → Nat} {B m t0 : Nat} (hW : RfW w κ m) (hE : RfE w E) (hB : enB (grf w) E B) (hBB : B < 4000000) (ht : t0 ≤ B) (hm : wI w 13 0 2 = nI t0) (hr : E.length + m ≤ 500) : goOk w ∧ goT w = nI (lfN (grf w) E κ m t0) ∧ goT w + ahI w (cn w 12) = nI (lfN (grf w) E κ m t0 + aN (grf w) κ m) := by
  obtain ⟨d, d1, d2, -⟩ := lf_ok (κ := κ) (m := m) hB ht hBB
  have e : goD w = some d := by
    unfold goD
    rw [← d1]
    refine fstN_congr fun j hj => ?_
    unfold goF
    rw [hm, nI_add]
    exact mb_W hW hE hB (by omega) (by omega)
  obtain ⟨c1, c2⟩ := RfE_c hE
  obtain ⟨c3, c4⟩ := RfW_c hW
  have eT : goT w = nI (lfN (grf w) E κ m t0) := by rw [goT, e, hm, d2]; exact nI_add _ _
  refine ⟨⟨c1, c3, by omega, d, e⟩, eT, ?_⟩
  rw [eT, c4, (ahI_W hW m (Nat.le_refl _)).1, nI_add]
