/-! the class's tape: a test of a rule -/
theorem nbL_v {h : Nat → Int32} : ∀ f i p k, i + f = 4 → k < 10 ^ i → ∃ k', k' < 10000 ∧ (nbL h f p (nI k)).2.1 = nI k'
  | 0, i, p, k, hi, hk => by
    have e : i = 4 := hi
    subst e
    exact ⟨k, by simpa using hk, rfl⟩
  | f + 1, i, p, k, hi, hk => by
    cases z : inR (h p) 48 57 with
    | false =>
      have hk4 : k < 10000 := Nat.lt_of_lt_of_le hk (Nat.pow_le_pow_right (by omega) (show i ≤ 4 by omega))
      exact ⟨k, hk4, by simp [nbL, z]⟩
    | true =>
      obtain ⟨d, hd, ed⟩ := dg_ok (x := h p) (fun q => by rw [inR_1 q] at z; cases z) (fun q => by rw [inR_2 q] at z; cases z)
      simp only [nbL, z, if_true]
      rw [ed, (nv_ok (k := k) (d := d)).2]
      exact nbL_v f (i + 1) (p + 1) (10 * k + d) (by omega) (by rw [Nat.pow_succ]; omega)
theorem nbS_ne {h : Nat → Int32} {p : Nat} : ¬ (nbS h (p, false)).2 = -1 := by
  obtain ⟨k, h1, h2⟩ := nbL_v (h := h) 4 0 p 0 (by omega) (by decide)
  rw [nI_0] at h2
  simp only [nbS, Bool.false_eq_true, if_false, h2]
  exact nI_nm1 (by omega)
theorem fdL_ne (x : Int32) : ¬ (fdL x).2 = -1 := by
  unfold fdL
  repeat' split
  all_goals decide
def RuT (w : Wd) (m : Nat) (ts : List Tst) : Prop := RuS w m ∧ wI w 12 m 6 = nI ts.length ∧ ∀ j t, ts[j]? = some t → wI w 270 m j = bI t.1 ∧ wI w 189 m j = t.2.1 ∧ wI w 190 m j = t.2.2.1 ∧ wI w 191 m j = t.2.2.2
/-- what the reading of a rule leaves as it is -/
def SmU (m : Nat) (w0 w : Wd) : Prop := w.2 = w0.2 ∧ ∀ t k i, ¬ ((t = 3 ∧ i = 2) ∨ (((t = 12 ∧ i = 6) ∨ t = 270 ∨ t = 189 ∨ t = 190 ∨ t = 191) ∧ k = m)) → wI w t k i = wI w0 t k i
theorem SmU_r (m : Nat) (w : Wd) : SmU m w w := ⟨rfl, fun _ _ _ _ => rfl⟩
theorem SmU_t {m : Nat} {a b c : Wd} (h : SmU m a b) (h2 : SmU m b c) : SmU m a c := ⟨h2.1.trans h.1, fun t k i hn => (h2.2 t k i hn).trans (h.2 t k i hn)⟩
theorem SmU_tp (m : Nat) (w : Wd) (p : Nat) : SmU m w (tpW w p) := ⟨tpW_2 w p, fun t k i hn => by rw [tpW_I, if_neg (by omega)]⟩
theorem SmU_c {m : Nat} {w0 w : Wd} (h : SmU m w0 w) (k : Nat) : cn w k = cn w0 k := by unfold cn; rw [h.2 13 0 k (by omega)]
theorem SmU_h {m : Nat} {w0 w : Wd} (h : SmU m w0 w) : hrN w = hrN w0 := by
  funext q
  unfold hrN
  rw [SmU_c h, h.2 159 0 q (by omega)]
theorem RuS_cg {w w' : Wd} {m : Nat} (h2 : w'.2 = w.2) (h : RuS w m) : RuS w' m := by
  unfold RuS at h ⊢
  simp only [w2_R h2, w2_C h2, w2_N h2]
  exact h
theorem RuT_tp {w : Wd} {m p : Nat} {ts : List Tst} (h : RuT w m ts) : RuT (tpW w p) m ts := by
  obtain ⟨h1, h2, h3⟩ := h
  have e : ∀ t k q, ¬ t = 3 → wI (tpW w p) t k q = wI w t k q := fun t k q hn => by rw [tpW_I, if_neg (by omega)]
  refine ⟨RuS_cg (tpW_2 w p) h1, by rw [e _ _ _ (by omega)]; exact h2, fun j t hj => ?_⟩
  rw [e _ _ _ (by omega), e _ _ _ (by omega), e _ _ _ (by omega), e _ _ _ (by omega)]
  exact h3 j t hj
theorem RuT_at {w : Wd} {m : Nat} {ts : List Tst} {b : Bool} {f s v : Int32} (h : RuT w m ts) : RuT (atW w m ts.length (bI b) f s v) m (ts ++ [(b, f, s, v)]) ∧ SmU m w (atW w m ts.length (bI b) f s v) := by
  obtain ⟨h1, h2, h3⟩ := h
  have e : ∀ t k q, wI (atW w m ts.length (bI b) f s v) t k q = if t = 12 ∧ k = m ∧ q = 6 then nI (ts.length + 1) else if t = 191 ∧ k = m ∧ q = ts.length then v else if t = 190 ∧ k = m ∧ q = ts.length then s else if t = 189 ∧ k = m ∧ q = ts.length then f else if t = 270 ∧ k = m ∧ q = ts.length then bI b else wI w t k q := fun t k q => by unfold atW; rw [yI_sI, yI_sI, yI_sI, yI_sI, yI_sI]
  have e2 : (atW w m ts.length (bI b) f s v).2 = w.2 := by unfold atW; simp only [sI_2]
  refine ⟨⟨RuS_cg e2 h1, by rw [e, if_pos ⟨rfl, rfl, rfl⟩]; simp, fun j t hj => ?_⟩, e2, fun t k q hn => ?_⟩
  · by_cases z : j = ts.length
    · subst z
      simp at hj
      subst hj
      simp only [e]
      simp
    · have hl : j < ts.length := by
        have := (List.getElem?_eq_some_iff.mp hj).1
        simp at this
        omega
      rw [List.getElem?_append_left hl] at hj
      simp only [e]
      simp [z]
      exact h3 j t hj
  · rw [e, if_neg (by omega), if_neg (by omega), if_neg (by omega), if_neg (by omega), if_neg (by omega)]
def SmV (m : Nat) (w0 w : Wd) : Prop := w.2 = w0.2 ∧ ∀ t k i, ¬ ((t = 3 ∧ i = 2) ∨ (((t = 12 ∧ 6 ≤ i) ∨ t = 270 ∨ t = 189 ∨ t = 190 ∨ t = 191) ∧ k = m)) → wI w t k i = wI w0 t k i
theorem SmU_V {m : Nat} {w0 w : Wd} (h : SmU m w0 w) : SmV m w0 w := ⟨h.1, fun t k i hn => h.2 t k i (by omega)⟩
theorem SmV_t {m : Nat} {a b c : Wd} (h : SmV m a b) (h2 : SmV m b c) : SmV m a c := ⟨h2.1.trans h.1, fun t k i hn => (h2.2 t k i hn).trans (h.2 t k i hn)⟩
theorem SmV_c {m : Nat} {w0 w : Wd} (h : SmV m w0 w) (k : Nat) : cn w k = cn w0 k := by unfold cn; rw [h.2 13 0 k (by omega)]
theorem SmV_h {m : Nat} {w0 w : Wd} (h : SmV m w0 w) : hrN w = hrN w0 := by
  funext q
  unfold hrN
  rw [SmV_c h, h.2 159 0 q (by omega)]
theorem SmV_sI (m : Nat) (w : Wd) (i : Nat) (v : Int32) (hi : 6 ≤ i := by decide) : SmV m w (sI w 12 m i v) := ⟨sI_2 w 12 m i v, fun t k q hn => by rw [yI_sI, if_neg (by omega)]⟩
theorem TpO_V {m p : Nat} {w0 w : Wd} (h : SmV m w0 w) (hT : TpO w0 p) (hp : wI w 3 0 2 = nI p) : TpO w p := by
  obtain ⟨h1, h2, h3, h4, h5⟩ := hT
  refine ⟨SSh_of h1 h.1, ?_, ?_, by rw [SmV_c h]; exact h4, hp⟩
  · obtain ⟨c1, c2, c3, c4, c5, c6, c7, c8⟩ := h2
    have e : ∀ t k q, ¬ ((t = 3 ∧ q = 2) ∨ (t = 12 ∨ t = 270 ∨ t = 189 ∨ t = 190 ∨ t = 191)) → wI w t k q = wI w0 t k q := fun t k q hn => h.2 t k q (by omega)
    refine ⟨?_, ?_, ?_, ?_, fun b hb => ?_, fun p hp => ?_, fun i hi => ?_, fun i hi => ?_⟩
    · rw [e _ _ _ (by omega), e _ _ _ (by omega)]; exact c1
    · rw [e _ _ _ (by omega), e _ _ _ (by omega)]; exact c2
    · rw [e _ _ _ (by omega), e _ _ _ (by omega)]; exact c3
    · rw [e _ _ _ (by omega), e _ _ _ (by omega)]; exact c4
    · rw [e _ _ _ (by omega), e _ _ _ (by omega)]; exact c5 b hb
    · rw [SmV_c h] at hp; rw [e _ _ _ (by omega), e _ _ _ (by omega), e _ _ _ (by omega), e _ _ _ (by omega)]; exact c6 p hp
    · rw [SmV_c h] at hi; rw [e _ _ _ (by omega), e _ _ _ (by omega)]; exact c7 i hi
    · rw [SmV_c h] at hi; rw [e _ _ _ (by omega), e _ _ _ (by omega), e _ _ _ (by omega), e _ _ _ (by omega)]; exact c8 i hi
  · unfold okc
    rw [SmV_c h, h.2 13 0 58 (by omega)]
    exact h3
/-- behind a test: the reader, and the rule where it may go on so -/
def TsP (w : Wd) (m : Nat) (ts : List Tst) (R : RS × Option Tst) (r : Option AV) (w' : Wd) : Prop := r = some (.inl (bI (!R.1.2))) ∧ SmU m w w' ∧ TpO w' R.1.1 ∧ (R.1.2 = false → ∃ t, R.2 = some t ∧ RuT w' m (ts ++ [t]))

theorem TpO_U {m p : Nat} {w0 w : Wd} (h : SmU m w0 w) (hT : TpO w0 p) (hp : wI w 3 0 2 = nI p) : TpO w p := TpO_V (SmU_V h) hT hp
