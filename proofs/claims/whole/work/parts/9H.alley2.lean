/-! the yard with an alley more -/
theorem SSh_x {w w' : Wd} (hR : ∀ t k q, (t ≤ 8 ∧ ¬ t = 2) ∨ t = 301 ∨ t = 302 → wR w' t k q = wR w t k q) (hC : ∀ t, t ≤ 8 ∨ (170 ≤ t ∧ t ≤ 185) ∨ t = 301 ∨ t = 302 → wC w' t = wC w t) (hN : ∀ t k, (170 ≤ t ∧ t ≤ 185) ∨ t = 301 ∨ t = 302 → wN w' t k = wN w t k) (h : SSh w) : SSh w' := by
  obtain ⟨h1, h2, h3, h4, h5, h6⟩ := h
  refine ⟨fun q hq => ?_, fun q hq => ?_, fun q hq k hk => ?_, fun i hi => ?_, fun i hi => ?_, fun i hi => ?_⟩
  · rw [hR _ _ _ (Or.inl ((show ∀ q ∈ sRf, q.1.1 ≤ 8 ∧ ¬ q.1.1 = 2 by decide) q hq))]; exact h1 q hq
  · rw [hC _ ((show ∀ q ∈ sCt, q.1 ≤ 8 ∨ (170 ≤ q.1 ∧ q.1 ≤ 185) ∨ q.1 = 301 ∨ q.1 = 302 by decide) q hq)]; exact h2 q hq
  · have e := (show ∀ q ∈ sLn, (170 ≤ q.1 ∧ q.1 ≤ 185) ∨ q.1 = 301 ∨ q.1 = 302 by decide) q hq
    rw [hC _ (Or.inr e)] at hk
    rw [hN _ _ e]; exact h3 q hq k hk
  · rw [hR _ _ _ (by omega), hR _ _ _ (by omega)]; exact h4 i hi
  · rw [hR _ _ _ (by omega)]; exact h5 i hi
  · rw [hR _ _ _ (by omega)]; exact h6 i hi
theorem MSh_x {w w' : Wd} (hR : ∀ q, wR w' 13 0 q = wR w 13 0 q) (hC : ∀ t, t = 13 ∨ (100 ≤ t ∧ t < 170) ∨ (200 ≤ t ∧ t < 270) → wC w' t = wC w t) (hN : ∀ t k, (100 ≤ t ∧ t < 170) ∨ (200 ≤ t ∧ t < 270) → wN w' t k = wN w t k) (h : MSh w) : MSh w' := by
  refine ⟨by rw [hC _ (Or.inl rfl)]; exact h.1, fun q hq => ?_⟩
  have e := (show ∀ q ∈ mdl, (100 ≤ q.2.1 ∧ q.2.1 < 170) ∨ (200 ≤ q.2.1 ∧ q.2.1 < 270) by decide) q hq
  rw [hR, hC _ (Or.inr e), hN _ _ e]
  exact h.2 q hq
theorem Cp0_cg {w w' : Wd} (hI : ∀ t k i, t = 13 ∨ t ≤ 1 ∨ t = 3 ∨ t = 5 ∨ (100 ≤ t ∧ t ≤ 172) ∨ (174 ≤ t ∧ t ≤ 176) → wI w' t k i = wI w t k i) (h : Cp0 w) : Cp0 w' := by
  obtain ⟨c1, c2, c3, c4, c5, c6, c7, c8⟩ := h
  have hc : ∀ k, cn w' k = cn w k := fun k => by unfold cn; rw [hI 13 0 k (by omega)]
  refine ⟨?_, ?_, ?_, ?_, fun b hb => ?_, fun p hp => ?_, fun i hi => ?_, fun i hi => ?_⟩
  · rw [hI _ _ _ (by omega), hI _ _ _ (by omega)]; exact c1
  · rw [hI _ _ _ (by omega), hI _ _ _ (by omega)]; exact c2
  · rw [hI _ _ _ (by omega), hI _ _ _ (by omega)]; exact c3
  · rw [hI _ _ _ (by omega), hI _ _ _ (by omega)]; exact c4
  · rw [hI _ _ _ (by omega), hI _ _ _ (by omega)]; exact c5 b hb
  · rw [hc] at hp; rw [hI _ _ _ (by omega), hI _ _ _ (by omega), hI _ _ _ (by omega), hI _ _ _ (by omega)]; exact c6 p hp
  · rw [hc] at hi; rw [hI _ _ _ (by omega), hI _ _ _ (by omega)]; exact c7 i hi
  · rw [hc] at hi; rw [hI _ _ _ (by omega), hI _ _ _ (by omega), hI _ _ _ (by omega), hI _ _ _ (by omega)]; exact c8 i hi
/-- the world with a new alley, before it stands in the list -/
def naW (w : Wd) (a b t : Int32) : Wd := aiW (nC w 9 0) (wC w 9) a b t
theorem naW_I (w : Wd) (a b t : Int32) (s k q : Nat) : wI (naW w a b t) s k q = if s = 9 ∧ k = wC w 9 ∧ q = 2 then t else if s = 9 ∧ k = wC w 9 ∧ q = 1 then b else if s = 9 ∧ k = wC w 9 ∧ q = 0 then a else if s = 9 ∧ k = wC w 9 ∧ q = 4 then 0 else if s = 186 ∧ k = wC w 186 then 0 else if s = 9 ∧ k = wC w 9 then 0 else wI w s k q := by
  unfold naW aiW
  rw [yI_sI, yI_sI, yI_sI, yI_sI, yI_sR, yI_nC, yI_nC, yC_nC, if_neg (show ¬ 186 = 9 by decide)]
theorem naW_R (w : Wd) (a b t : Int32) (s k q : Nat) : wR (naW w a b t) s k q = if s = 9 ∧ k = wC w 9 ∧ q = 3 then some (186, wC w 186) else if s = 186 ∧ k = wC w 186 then none else if s = 9 ∧ k = wC w 9 then none else wR w s k q := by
  unfold naW aiW
  rw [yR_sI, yR_sI, yR_sI, yR_sI, yR_sR, yR_nC, yR_nC, yC_nC, if_neg (show ¬ 186 = 9 by decide)]
theorem naW_C (w : Wd) (a b t : Int32) (s : Nat) : wC (naW w a b t) s = if s = 186 then wC w 186 + 1 else if s = 9 then wC w 9 + 1 else wC w s := by
  unfold naW aiW
  rw [yC_sI, yC_sI, yC_sI, yC_sI, yC_sR, yC_nC, yC_nC, yC_nC, if_neg (show ¬ 186 = 9 by decide)]
theorem naW_N (w : Wd) (a b t : Int32) (s k : Nat) : wN (naW w a b t) s k = if s = 186 ∧ k = wC w 186 then 24 else if s = 9 ∧ k = wC w 9 then 0 else wN w s k := by
  unfold naW aiW
  rw [yN_sI, yN_sI, yN_sI, yN_sI, yN_sR, yN_nC, yN_nC, yC_nC, if_neg (show ¬ 186 = 9 by decide)]
theorem na_S {w w3 : Wd} {a b t : Int32} {m : Nat} {el : Nat → Nat × Nat} {v : Nat × Nat} (hP : LiP (naW w a b t) w3 0 m el v) (h : SSh w) : SSh w3 := by
  obtain ⟨p1, p2, p3, p4, p5, p6, p7⟩ := hP
  refine SSh_x (fun t k q ht => ?_) (fun t ht => ?_) (fun t k ht => ?_) h
  · rw [p2 t k q (by omega) (by omega), naW_R, if_neg (by omega), if_neg (by omega), if_neg (by omega)]
  · rw [p3 t (by omega), naW_C, if_neg (by omega), if_neg (by omega)]
  · rw [p5 t k (by omega), naW_N, if_neg (by omega), if_neg (by omega)]
theorem na_I {w w3 : Wd} {a b t : Int32} {m : Nat} {el : Nat → Nat × Nat} {v : Nat × Nat} (hP : LiP (naW w a b t) w3 0 m el v) {s k q : Nat} (h2 : ¬ (s = 2 ∧ k = 0)) (h9 : ¬ s = 9) (h186 : ¬ s = 186) (h300 : ¬ s = 300) : wI w3 s k q = wI w s k q := by
  rw [hP.1 s k q h2 h300, naW_I, if_neg (by omega), if_neg (by omega), if_neg (by omega), if_neg (by omega), if_neg (by omega), if_neg (by omega)]
section
variable {l : Launch} {G : Gc} {n mc ms cu su : Nat} {Q : Option AV → Wd → Prop} {w : Wd}
theorem lpY_rows {g : Gf} {a b t : Nat} {D : Nat → Nat → Nat} (hl : 2 < n) (hS : SSh w) (h3 : okc w 3 14) (hc : Cp0 w) (ha : a < cn w 3) (hb : b < cn w 3) (ht : t ≤ 30) (hMt : Mtr g (cn w 3) D) (hD : ∀ p q, p < cn w 3 → q < cn w 3 → wI w 173 p q = nI (D p q)) (hk : ∀ l5 l6 l7, WP l G mY_addAlley n mc ms Q 21 [some (.inr (.inr (some (1, 0)))), some (.inl (nI a)), some (.inl (nI b)), some (.inl (nI t)), some (.inl (nI (cn w 3))), l5, l6, l7] [] (mxU w (nwE D a b t) (cn w 3) (cn w 3) 0) cu su) : ∀ c i l5 l6 l7, i + c = cn w 3 → WP l G mY_addAlley n mc ms Q 21 [some (.inr (.inr (some (1, 0)))), some (.inl (nI a)), some (.inl (nI b)), some (.inl (nI t)), some (.inl (nI i)), l5, l6, l7] [] (mxU w (nwE D a b t) (cn w 3) i 0) cu su
  | 0, i, l5, l6, l7, hi => by
    have e : i = cn w 3 := hi
    subst e
    exact hk l5 l6 l7
  | c + 1, i, l5, l6, l7, hi => by
    refine stY_rowBeg (SSh_of hS (mxU_2 _ _ _ _ _)) (mxU_3 h3) (mxU_C0 hc) (by rw [mxU_c]; omega) ?_
    refine lpY_row hl hS h3 hc ha hb (show i < cn w 3 by omega) ht hMt hD (fun l6 l7 => ?_) (cn w 3) 0 l6 l7 (by omega)
    have re := stY_rowEnd (l := l) (G := G) (n := n) (mc := mc) (ms := ms) (cu := cu) (su := su) (Q := Q) (a := a) (b := b) (t := t) (i := i) (l6 := l6) (l7 := l7) (SSh_of hS (mxU_2 w (nwE D a b t) (cn w 3) i (cn w 3))) (mxU_3 h3) (mxU_C0 hc) (by rw [mxU_c]; omega)
    rw [mxU_c] at re
    refine re ?_
    rw [mxU_r]
    exact lpY_rows hl hS h3 hc ha hb ht hMt hD hk c (i + 1) _ _ _ (by omega)
end
