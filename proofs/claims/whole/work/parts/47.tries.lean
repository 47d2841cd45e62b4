/-! tries of the reference -/
/-- all but what a search writes is the same -/
def SmT (w0 w : Wd) : Prop := w.2 = w0.2 ∧ ∀ t k i, ¬ (t = 110 ∨ t = 111 ∨ t = 114 ∨ t = 115 ∨ t = 116 ∨ t = 141 ∨ t = 142 ∨ t = 143 ∨ t = 144 ∨ (t = 13 ∧ (i = 12 ∨ i = 13 ∨ i = 46))) → wI w t k i = wI w0 t k i
theorem SmT_S {w0 w : Wd} (h : SmT w0 w) (hS : MSh w0) : MSh w := by
  unfold MSh wC wR wN at hS ⊢
  rw [h.1]
  exact hS
theorem SmT_I {w0 w : Wd} (h : SmT w0 w) {t k i : Nat} (hn : ¬ (t = 110 ∨ t = 111 ∨ t = 114 ∨ t = 115 ∨ t = 116 ∨ t = 141 ∨ t = 142 ∨ t = 143 ∨ t = 144 ∨ (t = 13 ∧ (i = 12 ∨ i = 13 ∨ i = 46)))) : wI w t k i = wI w0 t k i := h.2 t k i hn
theorem SmT_trans {a b c : Wd} (h : SmT a b) (h2 : SmT b c) : SmT a c := ⟨h2.1.trans h.1, fun t k i hn => (h2.2 t k i hn).trans (h.2 t k i hn)⟩
theorem SmT_rfl (w : Wd) : SmT w w := ⟨rfl, fun _ _ _ _ => rfl⟩
theorem SmT_cn {w0 w : Wd} (h : SmT w0 w) {k : Nat} (hk : ¬ (k = 12 ∨ k = 13 ∨ k = 46)) : cn w k = cn w0 k := by unfold cn; rw [SmT_I h (by omega)]
theorem SmT_g {w0 w : Wd} (h : SmT w0 w) : grf w = grf w0 := by
  unfold grf
  rw [SmT_cn h (by omega)]
  have e1 : (fun k => (wI w 107 0 k).toNatClampNeg) = fun k => (wI w0 107 0 k).toNatClampNeg := funext fun k => by rw [SmT_I h (by omega)]
  have e2 : (fun k => (wI w 108 0 k).toNatClampNeg) = fun k => (wI w0 108 0 k).toNatClampNeg := funext fun k => by rw [SmT_I h (by omega)]
  have e3 : (fun k => (wI w 109 0 k).toNatClampNeg) = fun k => (wI w0 109 0 k).toNatClampNeg := funext fun k => by rw [SmT_I h (by omega)]
  rw [e1, e2, e3]
theorem SmT_okc {w0 w : Wd} (h : SmT w0 w) {k b : Nat} (hk : ¬ (k = 12 ∨ k = 13 ∨ k = 46)) (hc : okc w0 k b) : okc w k b := by
  unfold okc at hc ⊢
  rw [SmT_cn h hk, SmT_I h (by omega)]
  exact hc
theorem SmT_wk {w0 w : Wd} (h : SmT w0 w) (hW : wkOk w0) : wkOk w := by
  obtain ⟨a1, a2, a3, a4, a5, a6⟩ := hW
  have eg := SmT_g h
  have e3 := SmT_cn h (k := 3) (by omega)
  have e6 := SmT_cn h (k := 6) (by omega)
  refine ⟨SmT_S h a1, SmT_okc h (by omega) a2, SmT_okc h (by omega) a3, fun k hk => ?_, by rw [eg, e3]; exact a5, by rw [eg, e3]; exact a6⟩
  rw [eg, SmT_I h (by omega), SmT_I h (by omega), SmT_I h (by omega)]
  exact a4 k (by omega)
theorem SmT_d {w0 w : Wd} (h : SmT w0 w) : dsM w = dsM w0 := by unfold dsM; rw [SmT_g h, SmT_cn h (by omega)]
theorem SmT_wkW (w : Wd) (a b : Nat) : SmT w (wkW w a b) := by
  refine ⟨rfl, fun t k i hn => ?_⟩
  rw [wkW_I, if_neg (by omega), if_neg (by omega), if_neg (by omega)]
theorem SmT_goU (w : Wd) (t : Int32) (m : Nat) : SmT w (goU w t m) := by
  refine ⟨rfl, fun t k i hn => ?_⟩
  rw [goU_I, if_neg (by omega), if_neg (by omega), if_neg (by omega), if_neg (by omega)]
theorem SmT_sI {w : Wd} {t k i : Nat} {v : Int32} (h : t = 110 ∨ t = 111 ∨ t = 114 ∨ t = 115 ∨ t = 116 ∨ t = 141 ∨ t = 142 ∨ t = 143 ∨ t = 144 ∨ (t = 13 ∧ (i = 12 ∨ i = 13 ∨ i = 46))) : SmT w (sI w t k i v) := by
  refine ⟨rfl, fun t' k' i' hn => ?_⟩
  rw [yI_sI, if_neg (by omega)]
theorem RfE_eq {w w' : Wd} {E : List Ent} (h : RfE w E) (hg : grf w' = grf w) (h13 : wI w' 13 0 13 = wI w 13 0 13) (hi : ∀ i, i < E.length → wI w' 114 0 i = wI w 114 0 i ∧ wI w' 115 0 i = wI w 115 0 i ∧ wI w' 116 0 i = wI w 116 0 i) : RfE w' E := by
  obtain ⟨a1, a2, a3⟩ := h
  refine ⟨by rw [h13]; exact a1, a2, fun i e he => ?_⟩
  obtain ⟨q1, q2, q3⟩ := hi i (List.getElem?_eq_some_iff.mp he).1
  rw [hg, q1, q2, q3]
  exact a3 i e he
def RfP (w : Wd) (pl : Nat → Nat × Nat) (n : Nat) : Prop := ∀ i, i < n → wI w 141 0 i = nI (pl i).1 ∧ wI w 142 0 i = nI (pl i).2
def RfB (w0 w : Wd) (mny : Nat) (b : Bst) : Prop := (match b.1 with | none => wI w 13 0 46 = -1 ∧ ∀ i, wI w 143 0 i = wI w0 143 0 i ∧ wI w 144 0 i = wI w0 144 0 i | some x => wI w 13 0 46 = nI x ∧ x < 2 ^ 30 ∧ ∀ i, i < mny → wI w 143 0 i = nI (b.2 i).1 ∧ wI w 144 0 i = nI (b.2 i).2)
theorem RfB_eq {w0 w w' : Wd} {mny : Nat} {b : Bst} (h : RfB w0 w mny b) (h1 : wI w' 13 0 46 = wI w 13 0 46) (h2 : ∀ i, wI w' 143 0 i = wI w 143 0 i ∧ wI w' 144 0 i = wI w 144 0 i) : RfB w0 w' mny b := by
  unfold RfB at h ⊢
  split
  · rename_i e
    rw [e] at h
    exact ⟨by rw [h1]; exact h.1, fun i => by rw [(h2 i).1, (h2 i).2]; exact h.2 i⟩
  · rename_i x e
    rw [e] at h
    exact ⟨by rw [h1]; exact h.1, h.2.1, fun i hi => by rw [(h2 i).1, (h2 i).2]; exact h.2.2 i hi⟩
/-- the state of a search -/
def TrJ (w0 w : Wd) (mny n : Nat) (E : List Ent) (pl : Nat → Nat × Nat) (b : Bst) : Prop := SmT w0 w ∧ RfE w E ∧ RfP w pl n ∧ RfB w0 w mny b
theorem cutB_iff {w0 w : Wd} {mny last : Nat} {b : Bst} (h : RfB w0 w mny b) (hl : last < 2 ^ 30) : (cutB b last = true ↔ ¬ wI w 13 0 46 = -1 ∧ ¬ nI last < wI w 13 0 46) := by
  unfold RfB at h
  unfold cutB
  split
  · rename_i e
    rw [e] at h
    simp [h.1]
  · rename_i x e
    rw [e] at h
    obtain ⟨h1, h2, -⟩ := h
    rw [h1]
    have q1 : ¬ nI x = -1 := nI_nm1 (by omega)
    have q2 : (nI last < nI x) = (last < x) := propext (nI_ltI (by omega) (by omega))
    rw [q2]
    simp [q1]
/-- the world behind walk and goes -/
theorem tr_go {w0 w : Wd} {mny n nl B t0 a p : Nat} {E : List Ent} {pl : Nat → Nat × Nat} {b : Bst} (hJ : TrJ w0 w mny n E pl b) (hW : wkOk w0) (hB : enB (grf w0) E B) (hBB : B + 390 < 4000000) (ht : t0 ≤ B) (hm : wI w0 13 0 2 = nI t0) (hr : E.length + 13 ≤ 500) (ha : a < cn w0 3) (hp : p < cn w0 3) (hf : dsM w0 a p < 1000000) :
    goOk (wkW w a p) ∧ goT (wkW w a p) + ahI (wkW w a p) (cn (wkW w a p) 12) = nI (drE (grf w0) (dsM w0) E t0 a p) ∧ TrJ w0 (goU (wkW w a p) (goT (wkW w a p)) (cn (wkW w a p) 12)) mny n (drL (grf w0) (dsM w0) E t0 a p) pl b ∧ drE (grf w0) (dsM w0) E t0 a p ≤ B + 390 ∧ enB (grf w0) (drL (grf w0) (dsM w0) E t0 a p) (B + 390) ∧ (drL (grf w0) (dsM w0) E t0 a p).length ≤ E.length + 13 := by
  obtain ⟨j1, j2, j3, j4⟩ := hJ
  have eg := SmT_g j1
  have ed := SmT_d j1
  have hW1 := SmT_wk j1 hW
  have s1 := SmT_wkW w a p
  have eg2 : grf (wkW w a p) = grf w0 := (SmT_g s1).trans eg
  have hD : Mtr (grf w0) (cn w0 3) (dsM w0) := dst_ok hW.2.2.2.2.2
  have hg := hW.2.2.2.2.1
  have h14 := hW.2.1.2
  obtain ⟨m1, m2, m3⟩ := wyL_ok hg hD h14 ha hp hf
  obtain ⟨q1, q2⟩ := wy_sum hg hD h14 ha hp hf
  have hRW : RfW (wkW w a p) (wyK (grf w0) (dsM w0) a p) (wyL (grf w0) (dsM w0) a p) := by
    refine ⟨by rw [wkW_I, eg, ed]; simp, m1, fun i hi => ⟨?_, ?_⟩, ?_, fun k hk => ?_⟩
    · rw [wkW_I, eg, ed]
      simp [hi]
    · rw [eg2]
      exact wyK_lt hg hD h14 ha hp hf hi
    · rw [eg2]; exact hW.2.2.1.2
    · rw [eg2] at hk ⊢
      refine ⟨?_, (hg k hk).2.2.2.2⟩
      rw [SmT_I s1 (by omega), SmT_I j1 (by omega)]
      exact (hW.2.2.2.1 k hk).2.2
  have hRE : RfE (wkW w a p) E := RfE_eq j2 (by rw [eg2, eg]) (by rw [wkW_I]; simp) (fun i _ => ⟨by rw [wkW_I]; simp, by rw [wkW_I]; simp, by rw [wkW_I]; simp⟩)
  obtain ⟨g1, g2, g3⟩ := go_W hRW hRE (B := B) (by rw [eg2]; exact hB) (by omega) ht (by rw [SmT_I s1 (by omega), SmT_I j1 (by omega)]; exact hm) (by omega)
  obtain ⟨c3, c4⟩ := RfW_c hRW
  obtain ⟨c5, c6⟩ := RfE_c hRE
  obtain ⟨d, -, d2, d3, -⟩ := lf_ok (κ := wyK (grf w0) (dsM w0) a p) (m := wyL (grf w0) (dsM w0) a p) hB ht (by omega)
  have eA : aN (grf w0) (wyK (grf w0) (dsM w0) a p) (wyL (grf w0) (dsM w0) a p) = dsM w0 a p := q1
  rw [eg2] at g2 g3
  have eE : lfN (grf w0) E (wyK (grf w0) (dsM w0) a p) (wyL (grf w0) (dsM w0) a p) t0 + dsM w0 a p ≤ B + 390 := by omega
  refine ⟨g1, by rw [g3, eA]; rfl, ⟨?_, ?_, ?_, ?_⟩, eE, enB_app (enB_mono hB (by omega)) (tkE_B hg hD h14 ha hp hf eE), by simp [drL, tkE]; omega⟩
  · exact SmT_trans j1 (SmT_trans s1 (SmT_goU _ _ _))
  · rw [g2, c4]
    have s2 := SmT_goU (wkW w a p) (nI (lfN (grf w0) E (wyK (grf w0) (dsM w0) a p) (wyL (grf w0) (dsM w0) a p) t0)) (wyL (grf w0) (dsM w0) a p)
    refine ⟨?_, by simp [drL, tkE]; omega, fun i e he => ?_⟩
    · rw [goU_I, c6]
      simp [drL, tkE]
    · rw [SmT_g s2, eg2]
      simp only [goU_I, c6]
      simp only [drL] at he
      by_cases hi : i < E.length
      · have n1 : ¬ (E.length ≤ i ∧ i < E.length + wyL (grf w0) (dsM w0) a p) := by omega
        rw [List.getElem?_append_left hi] at he
        simp [n1]
        have := hRE.2.2 i e he
        rw [eg2] at this
        exact this
      · rw [List.getElem?_append_right (by omega)] at he
        simp only [tkE, List.getElem?_map, Option.map_eq_some_iff] at he
        obtain ⟨x, hx, rfl⟩ := he
        obtain ⟨x1, x2⟩ := List.getElem?_eq_some_iff.mp hx
        simp only [List.length_range] at x1
        simp only [List.getElem_range] at x2
        have n1 : E.length ≤ i ∧ i < E.length + wyL (grf w0) (dsM w0) a p := by omega
        simp [n1]
        obtain ⟨a1, a2⟩ := hRW.2.2.1 _ x1
        obtain ⟨b1, b2⟩ := ahI_W hRW (i - E.length) (by omega)
        obtain ⟨b3, b4⟩ := ahI_W hRW (i - E.length + 1) (by omega)
        rw [a1, b1, b3, eg2, nI_add, nI_add, x2]
        refine ⟨rfl, rfl, ?_⟩
        rw [← x2]
        simp only [aN]
        rw [Nat.add_assoc]
  · intro i hi
    rw [goU_I, goU_I]
    simp
    rw [wkW_I, wkW_I]
    simp
    exact j3 i hi
  · refine RfB_eq j4 ?_ fun i => ⟨?_, ?_⟩
    · rw [goU_I]; simp; rw [wkW_I]; simp
    · rw [goU_I]; simp; rw [wkW_I]; simp
    · rw [goU_I]; simp; rw [wkW_I]; simp
