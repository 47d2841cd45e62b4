/-! calls: run, what it leaves -/
theorem rnU_I (w : Wd) : ∀ n t k i, wI (rnU w n) t k i = if (t = 123 ∨ t = 124 ∨ t = 125) ∧ k = 0 ∧ i < n ∧ rnB w i = true then (if t = 123 then wI w 124 0 i else -1) else wI w t k i
  | 0, t, k, i => by rw [if_neg (by omega)]; rfl
  | n + 1, t, k, i => by
    have ih := rnU_I w n t k i
    rw [rnU]
    cases hb : rnB w n with
    | false =>
      rw [if_neg (by decide), ih]
      by_cases c : (t = 123 ∨ t = 124 ∨ t = 125) ∧ k = 0 ∧ i < n ∧ rnB w i = true
      · rw [if_pos c, if_pos (show (t = 123 ∨ t = 124 ∨ t = 125) ∧ k = 0 ∧ i < n + 1 ∧ rnB w i = true from ⟨c.1, c.2.1, by omega, c.2.2.2⟩)]
      · rw [if_neg c, if_neg]
        rintro ⟨c1, c2, c3, c4⟩
        by_cases e : i = n
        · rw [e, hb] at c4; cases c4
        · exact c ⟨c1, c2, by omega, c4⟩
    | true =>
      rw [if_pos rfl, yI_sI, yI_sI, yI_sI]
      by_cases e : k = 0 ∧ i = n
      · obtain ⟨rfl, rfl⟩ := e
        by_cases q : t = 123 ∨ t = 124 ∨ t = 125
        · rw [if_pos (show (t = 123 ∨ t = 124 ∨ t = 125) ∧ 0 = 0 ∧ i < i + 1 ∧ rnB w i = true from ⟨q, rfl, by omega, hb⟩)]
          rcases q with rfl | rfl | rfl
          · rw [if_neg (by omega), if_neg (by omega), if_pos ⟨rfl, rfl, rfl⟩, if_pos rfl]
          · rw [if_neg (by omega), if_pos ⟨rfl, rfl, rfl⟩, if_neg (by omega)]
          · rw [if_pos ⟨rfl, rfl, rfl⟩, if_neg (by omega)]
        · rw [if_neg (by omega), if_neg (by omega), if_neg (by omega), if_neg (fun z => q z.1), ih, if_neg (fun z => q z.1)]
      · rw [if_neg (by omega), if_neg (by omega), if_neg (by omega), ih]
        by_cases c : (t = 123 ∨ t = 124 ∨ t = 125) ∧ k = 0 ∧ i < n ∧ rnB w i = true
        · rw [if_pos c, if_pos (show (t = 123 ∨ t = 124 ∨ t = 125) ∧ k = 0 ∧ i < n + 1 ∧ rnB w i = true from ⟨c.1, c.2.1, by omega, c.2.2.2⟩)]
        · rw [if_neg c, if_neg (fun z => c ⟨z.1, z.2.1, by omega, z.2.2.2⟩)]
theorem fgW_n {w : Wd} {t k i : Nat} (h1 : ¬ (t = 114 ∨ t = 115 ∨ t = 116)) (h2 : ¬ (t = 13 ∧ i = 13)) : wI (fgW w) t k i = wI w t k i := by
  unfold fgW
  rw [yI_sI, if_neg (by omega), fgU_t _ _ _ _ _ (Or.inl h1)]
theorem fg_E {w : Wd} {E : List Ent} {B y : Nat} (hE : RfE w E) (hB : enB (grf w) E B) (hBB : B < 2 ^ 30) (hy : wI w 13 0 2 = nI y) (hy2 : y < 2 ^ 30) : ∀ n, n ≤ E.length → fgC w n = ((E.take n).filter (fun e => decide (y < e.2 + gfT (grf w) e.1))).length ∧ ∀ i e, ((E.take n).filter (fun e => decide (y < e.2 + gfT (grf w) e.1)))[i]? = some e → wI (fgU w n) 114 0 i = nI e.1 ∧ wI (fgU w n) 115 0 i = nI e.2 ∧ wI (fgU w n) 116 0 i = nI (e.2 + gfT (grf w) e.1)
  | 0, _ => ⟨rfl, fun i e h => by simp at h⟩
  | n + 1, hn => by
    obtain ⟨i1, i2⟩ := fg_E hE hB hBB hy hy2 n (by omega)
    obtain ⟨e, hg⟩ : ∃ e, E[n]? = some e := ⟨_, List.getElem?_eq_getElem hn⟩
    have ht : E.take (n + 1) = E.take n ++ [e] := by rw [List.take_succ, hg]; rfl
    obtain ⟨r1, r2, r3⟩ := hE.2.2 n e hg
    have he := (hB e (List.mem_of_getElem? hg)).2
    rw [ht, List.filter_append]
    by_cases q : y < e.2 + gfT (grf w) e.1
    · have c1 : wI w 13 0 2 < wI w 116 0 n := by rw [hy, r3]; exact nI_lt q (by omega)
      have f1 : [e].filter (fun e => decide (y < e.2 + gfT (grf w) e.1)) = [e] := by simp [q]
      rw [f1]
      refine ⟨by rw [fgC, if_pos c1, i1, List.length_append]; rfl, fun i e' h' => ?_⟩
      rw [fgU, if_pos c1, i1]
      rw [List.getElem?_append] at h'
      by_cases z : i < ((E.take n).filter (fun e => decide (y < e.2 + gfT (grf w) e.1))).length
      · rw [if_pos z] at h'
        obtain ⟨j1, j2, j3⟩ := i2 i e' h'
        refine ⟨?_, ?_, ?_⟩
        · rw [yI_sI, if_neg (by omega), yI_sI, if_neg (by omega), yI_sI, if_neg (by omega)]; exact j1
        · rw [yI_sI, if_neg (by omega), yI_sI, if_neg (by omega), yI_sI, if_neg (by omega)]; exact j2
        · rw [yI_sI, if_neg (by omega), yI_sI, if_neg (by omega), yI_sI, if_neg (by omega)]; exact j3
      · rw [if_neg z] at h'
        have z2 : i - ((E.take n).filter (fun e => decide (y < e.2 + gfT (grf w) e.1))).length = 0 := by
          cases hk : i - ((E.take n).filter (fun e => decide (y < e.2 + gfT (grf w) e.1))).length with
          | zero => rfl
          | succ k => rw [hk] at h'; cases h'
        rw [z2] at h'
        cases h'
        have z3 : i = ((E.take n).filter (fun e => decide (y < e.2 + gfT (grf w) e.1))).length := by omega
        rw [← z3]
        refine ⟨?_, ?_, ?_⟩
        · rw [yI_sI, if_neg (by omega), yI_sI, if_neg (by omega), yI_sI, if_pos ⟨rfl, rfl, rfl⟩]; exact r1
        · rw [yI_sI, if_neg (by omega), yI_sI, if_pos ⟨rfl, rfl, rfl⟩]; exact r2
        · rw [yI_sI, if_pos ⟨rfl, rfl, rfl⟩]; exact r3
    · have c1 : ¬ wI w 13 0 2 < wI w 116 0 n := by rw [hy, r3, nI_ltI (by omega) (by omega)]; exact q
      have f1 : [e].filter (fun e => decide (y < e.2 + gfT (grf w) e.1)) = [] := by simp [q]
      rw [f1, List.append_nil]
      refine ⟨by rw [fgC, if_neg c1, i1], fun i e' h' => ?_⟩
      rw [fgU, if_neg c1]
      exact i2 i e' h'
theorem RfE_fg {w : Wd} {E : List Ent} {B y : Nat} (hE : RfE w E) (hB : enB (grf w) E B) (hBB : B < 2 ^ 30) (hy : wI w 13 0 2 = nI y) (hy2 : y < 2 ^ 30) : RfE (fgW w) (E.filter (fun e => decide (y < e.2 + gfT (grf w) e.1))) := by
  obtain ⟨a1, a2⟩ := fg_E hE hB hBB hy hy2 E.length (Nat.le_refl _)
  rw [List.take_length] at a1 a2
  have c13 : cn w 13 = E.length := by rw [cn, hE.1]; exact nI_clamp (by have := hE.2.1; omega)
  have eg : grf (fgW w) = grf w := grf_cg fun t k i ht => fgW_n (by omega) (by omega)
  refine ⟨?_, Nat.le_trans (List.length_filter_le _ _) hE.2.1, fun i e he => ?_⟩
  · unfold fgW
    rw [yI_sI, if_pos ⟨rfl, rfl, rfl⟩, c13, a1]
  · rw [eg]
    unfold fgW
    rw [yI_sI, if_neg (by omega), yI_sI, if_neg (by omega), yI_sI, if_neg (by omega), c13]
    exact a2 i e he
theorem CpE_sm {w w' : Wd} {E : List Ent} (hE : Exw w w') (hI : ∀ t k i, (t = 9 ∨ t = 186) ∨ (t = 13 ∧ i = 6) → wI w' t k i = wI w t k i) (h : CpE w E) : CpE w' E := CpE_cg hE hI h
section
variable {l : Launch} {G : Gc} {c : Nat} {w : Wd}
/-- the world behind a run of the class -/
def rkU (w : Wd) (y : Nat) : Wd := sI (yfU w y (cn w 6)) 0 0 9 (nI y)
theorem rkU_I (w : Wd) (y t k i : Nat) (h : ¬ (t = 186 ∨ t = 9 ∧ i = 4)) : wI (rkU w y) t k i = if t = 0 ∧ k = 0 ∧ i = 9 then nI y else wI w t k i := by
  unfold rkU
  rw [yI_sI, (yfU_E w y (cn w 6)).2 t k i h]
theorem rkU_2 (w : Wd) (y : Nat) : (rkU w y).2 = w.2 := by
  unfold rkU
  rw [sI_2, (yfU_E w y (cn w 6)).1]
theorem rkU_b (w : Wd) (y j : Nat) (z : Int32) : arB (rkU w y) j z = arB w j z := by
  unfold arB
  rw [rkU_I _ _ _ _ _ (by omega), rkU_I _ _ _ _ _ (by omega), if_neg (by omega), if_neg (by omega)]
def rkA (w : Wd) (y : Nat) : Wd := raU (rkU w y) (nI y) (cn w 17)
theorem rkA_I (w : Wd) (y t k i : Nat) (h : ¬ (t = 186 ∨ t = 9 ∧ i = 4)) : wI (rkA w y) t k i = if t = 10 ∧ k < cn w 17 ∧ arB w k (nI y) = true ∧ (i = 7 ∨ i = 8 ∨ i = 9) then (if i = 7 then wI w 10 k 8 else -1) else if t = 0 ∧ k = 0 ∧ i = 9 then nI y else wI w t k i := by
  unfold rkA
  rw [raU_I, rkU_b, rkU_I _ _ _ _ _ h, rkU_I _ _ _ _ _ (by omega), if_neg (show ¬ (10 = 0 ∧ k = 0 ∧ 8 = 9) by omega)]
theorem rkA_2 (w : Wd) (y : Nat) : (rkA w y).2 = w.2 := by
  unfold rkA
  rw [raU_2, rkU_2]
theorem ru_b {y j : Nat} (h : Inv c w) (hj : j < cn w 17) : arB w j (nI y) = (!decide (wI w 125 0 j = -1) && decide (wI w 125 0 j ≤ nI y)) := by
  obtain ⟨a1, a2, a3, a4, a5, a6, a7, a8, a9, b1, b2, b3, b4, b5, b6, b7, b8, b9, d1, d2, d3, d4, d5, d6⟩ := (iv_L h hj).2.1
  unfold arB
  rw [a8, a9]
  by_cases q : wI w 125 0 j = -1
  · rw [decide_eq_true q, decide_eq_true (d6.mp q)]
  · rw [decide_eq_false q, decide_eq_false (fun z => q (d6.mpr z))]
theorem ru_inv {y t0 x : Nat} (h : Inv c w) (hc : c < 1000) (ht : wI w 13 0 2 = nI t0) (ht0 : t0 ≤ 1000 * c) (hx : x ≤ 1000) (hy : y = t0 + x) : Inv (c + 1) (rnW (sI (rkA w y) 13 0 2 (nI y))) := by
  obtain ⟨F, F1, F2, F3, F4⟩ := iv_E h
  have hM := iv_M h
  have hyb : y < 2 ^ 30 := by omega
  have e17 : cn (sI (rkA w y) 13 0 2 (nI y)) 17 = cn w 17 := cn_cg (by rw [yI_sI, if_neg (by omega), rkA_I _ _ _ _ _ (by omega), if_neg (by omega), if_neg (by omega)])
  have A : ∀ t k i, ¬ (t = 186 ∨ t = 9 ∧ i = 4) → ¬ (t = 10 ∧ 7 ≤ i ∧ i ≤ 9) → ¬ (t = 0 ∧ i = 9) → ¬ (t = 13 ∧ i = 2) → wI (sI (rkA w y) 13 0 2 (nI y)) t k i = wI w t k i := fun t k i n1 n2 n3 n4 => by
    rw [yI_sI, if_neg (by omega), rkA_I _ _ _ _ _ n1, if_neg (by omega), if_neg (by omega)]
  have rb : ∀ j, j < cn w 17 → rnB (sI (rkA w y) 13 0 2 (nI y)) j = arB w j (nI y) := fun j hj => by
    unfold rnB
    rw [A 125 0 j (by omega) (by omega) (by omega) (by omega), yI_sI, if_pos ⟨rfl, rfl, rfl⟩, ru_b h hj]
  have I := rnU_I (sI (rkA w y) 13 0 2 (nI y)) (cn w 17)
  have eg1 : grf (rnU (sI (rkA w y) 13 0 2 (nI y)) (cn w 17)) = grf w := grf_cg fun t k i ht => by
    rw [I, if_neg (by omega)]; exact A _ _ _ (by omega) (by omega) (by omega) (by omega)
  have R1 : RfE (rnU (sI (rkA w y) 13 0 2 (nI y)) (cn w 17)) (F.map (fun f => f.1)) := RfE_eq F2 eg1 (by rw [I, if_neg (by omega)]; exact A _ _ _ (by omega) (by omega) (by omega) (by omega)) (fun i _ => by
    refine ⟨?_, ?_, ?_⟩
    · rw [I, if_neg (by omega)]; exact A _ _ _ (by omega) (by omega) (by omega) (by omega)
    · rw [I, if_neg (by omega)]; exact A _ _ _ (by omega) (by omega) (by omega) (by omega)
    · rw [I, if_neg (by omega)]; exact A _ _ _ (by omega) (by omega) (by omega) (by omega))
  have R2 := RfE_fg (y := y) R1 (by rw [eg1]; exact F3) (by omega) (by rw [I, if_neg (by omega), yI_sI, if_pos ⟨rfl, rfl, rfl⟩]) hyb
  rw [eg1] at R2
  have C2 := CpE_yf (y := y) (iv_y h) F1
  have W : rnW (sI (rkA w y) 13 0 2 (nI y)) = fgW (rnU (sI (rkA w y) 13 0 2 (nI y)) (cn w 17)) := by unfold rnW; rw [e17]
  have e : ∀ t k i, ¬ (t = 114 ∨ t = 115 ∨ t = 116) → ¬ (t = 13 ∧ i = 13) → wI (rnW (sI (rkA w y) 13 0 2 (nI y))) t k i = if (t = 123 ∨ t = 124 ∨ t = 125) ∧ k = 0 ∧ i < cn w 17 ∧ rnB (sI (rkA w y) 13 0 2 (nI y)) i = true then (if t = 123 then wI w 124 0 i else -1) else wI (sI (rkA w y) 13 0 2 (nI y)) t k i := fun t k i n1 n2 => by
    rw [W, fgW_n n1 n2, I, A 124 0 i (by omega) (by omega) (by omega) (by omega)]
  have e9 : ∀ t k i, t = 186 ∨ t = 9 → wI (rnW (sI (rkA w y) 13 0 2 (nI y))) t k i = wI (yfU w y (cn w 6)) t k i := fun t k i ht => by
    rw [e _ _ _ (by omega) (by omega), if_neg (by omega), yI_sI, if_neg (by omega)]
    unfold rkA
    rw [raU_I, if_neg (by omega)]
    unfold rkU
    rw [yI_sI, if_neg (by omega)]
  have h2 : (rnW (sI (rkA w y) 13 0 2 (nI y))).2 = w.2 := by
    unfold rnW fgW
    rw [sI_2, fgU_2, rnU_2, sI_2, rkA_2]
  rw [← W] at R2
  revert e e9 h2 R2
  generalize rnW (sI (rkA w y) 13 0 2 (nI y)) = w'
  intro R2 e e9 h2
  have g : ∀ t k i, ¬ (t = 114 ∨ t = 115 ∨ t = 116) ∧ ¬ (t = 13 ∧ (i = 13 ∨ i = 2)) ∧ ¬ (123 ≤ t ∧ t ≤ 125) ∧ ¬ (t = 186 ∨ t = 9 ∧ i = 4) ∧ ¬ (t = 10 ∧ 7 ≤ i ∧ i ≤ 9) ∧ ¬ (t = 0 ∧ i = 9) → wI w' t k i = wI w t k i := fun t k i n => by
    rw [e _ _ _ n.1 (by omega), if_neg (by omega)]
    exact A _ _ _ (by omega) (by omega) (by omega) (by omega)
  have gn : ∀ j, j < cn w 17 → arB w j (nI y) = false → ∀ t k i, (t = 10 ∧ k = j) ∨ ((123 ≤ t ∧ t ≤ 125) ∧ i = j) → wI w' t k i = wI w t k i := fun j hj hb t k i ht => by
    rw [e _ _ _ (by omega) (by omega), if_neg (by
      rintro ⟨z1, -, -, z4⟩
      rw [show i = j by omega, rb j hj, hb] at z4
      cases z4), yI_sI, if_neg (by omega), rkA_I _ _ _ _ _ (by omega), if_neg (by
      rintro ⟨z1, -, z3, -⟩
      rw [show k = j by omega, hb] at z3
      cases z3), if_neg (by omega)]
  have w2 : wI w' 13 0 2 = nI y := by rw [e _ _ _ (by omega) (by omega), if_neg (by omega), yI_sI, if_pos ⟨rfl, rfl, rfl⟩]
  have w09 : wI w' 0 0 9 = nI y := by rw [e _ _ _ (by omega) (by omega), if_neg (by omega), yI_sI, if_neg (by omega), rkA_I _ _ _ _ _ (by omega), if_neg (by omega), if_pos ⟨rfl, rfl, rfl⟩]
  have gy : ∀ j, j < cn w 17 → arB w j (nI y) = true → (wI w' 10 j 7 = wI w 10 j 8 ∧ wI w' 10 j 8 = -1 ∧ wI w' 10 j 9 = -1 ∧ wI w' 123 0 j = wI w 124 0 j ∧ wI w' 124 0 j = -1 ∧ wI w' 125 0 j = -1) := fun j hj hb => by
    refine ⟨?_, ?_, ?_, ?_, ?_, ?_⟩
    · rw [e _ _ _ (by omega) (by omega), if_neg (by omega), yI_sI, if_neg (by omega), rkA_I _ _ _ _ _ (by omega), if_pos ⟨rfl, hj, hb, by omega⟩, if_pos rfl]
    · rw [e _ _ _ (by omega) (by omega), if_neg (by omega), yI_sI, if_neg (by omega), rkA_I _ _ _ _ _ (by omega), if_pos ⟨rfl, hj, hb, by omega⟩, if_neg (by omega)]
    · rw [e _ _ _ (by omega) (by omega), if_neg (by omega), yI_sI, if_neg (by omega), rkA_I _ _ _ _ _ (by omega), if_pos ⟨rfl, hj, hb, by omega⟩, if_neg (by omega)]
    · rw [e _ _ _ (by omega) (by omega), if_pos ⟨by omega, rfl, hj, by rw [rb j hj]; exact hb⟩, if_pos rfl]
    · rw [e _ _ _ (by omega) (by omega), if_pos ⟨by omega, rfl, hj, by rw [rb j hj]; exact hb⟩, if_neg (by omega)]
    · rw [e _ _ _ (by omega) (by omega), if_pos ⟨by omega, rfl, hj, by rw [rb j hj]; exact hb⟩, if_neg (by omega)]
  have hMS := MSh_of (iv_M h).1 h2
  have m3 := cn_cg (w := w) (w' := w') (g 13 0 3 (by omega))
  have m17 := cn_cg (w := w) (w' := w') (g 13 0 17 (by omega))
  have m38 := cn_cg (w := w) (w' := w') (g 13 0 38 (by omega))
  have m6 := cn_cg (w := w) (w' := w') (g 13 0 6 (by omega))
  have on : ∀ j, j < cn w 17 → arB w j (nI y) = true → ∃ p, p < cn w 3 ∧ wI w 124 0 j = nI p := fun j hj hb => by
    obtain ⟨-, -, -, -, -, -, -, -, -, -, -, -, -, -, -, -, -, -, -, -, -, -, -, d6⟩ := (iv_L h hj).2.1
    rw [ru_b h hj] at hb
    have q : ¬ wI w 125 0 j = -1 := fun z => by rw [decide_eq_true z] at hb; cases hb
    rcases (iv_L h hj).2.2.2.1 with z | z
    · exact absurd (d6.mpr z) q
    · exact z
  refine ⟨SSh_of (iv_S h) h2, ?_, ?_, IvN_cg h2 (g _ _ _ (by omega)) (g _ _ _ (by omega)) (iv_N h), IvQ_cg h2 (iv_M h).2.2.2.2.1 (fun t k i ht => g t k i (by omega)) (iv_Q h), fun j hj => ?_, IvY_cg (Exw_2 h2) hMS (fun t k i ht => g t k i (by omega)) (iv_Y h), ?_, IvP_cg (fun t k i ht => g t k i (by omega)) (iv_P h), IvW_cg (fun t k i ht => g t k i (by omega)) (iv_W h), ⟨⟨by rw [w2, cn, w2, nI_clamp (by omega)], by rw [cn, w2, nI_clamp (by omega)]; omega⟩, okc_up (okc_cg (g _ _ _ (by omega)) (iv_T h).2) (Nat.le_succ c)⟩, IvK_cg (g _ _ _ (by omega)) (fun i => g _ _ _ (by omega)) (iv_K h)⟩
  · obtain ⟨-, q3, q6, q17, qR, q63, q58, q123, q67, q47⟩ := iv_M h
    refine ⟨hMS, okc_cg (g _ _ _ (by omega)) q3, okc_cg (g _ _ _ (by omega)) q6, okc_cg (g _ _ _ (by omega)) q17, ⟨okc_cg (g _ _ _ (by omega)) qR.1, fun r hr => ?_⟩, okc_cg (g _ _ _ (by omega)) q63, okc_cg (g _ _ _ (by omega)) q58, fun j hj => ?_, okc_cg (g _ _ _ (by omega)) q67, ?_⟩
    · rw [cn_cg (g _ _ _ (by omega))] at hr
      unfold cnT
      rw [g _ _ _ (by omega)]
      exact qR.2 r hr
    · rw [m17] at hj
      rw [m3]
      cases hb : arB w j (nI y) with
      | false => rw [gn j hj hb _ _ _ (by omega)]; exact q123 j hj
      | true => rw [(gy j hj hb).2.2.2.1]; exact Or.inr (on j hj hb)
    · rcases q47 with q | q
      · exact Or.inl (by rw [g _ _ _ (by omega)]; exact q)
      · exact Or.inr (okc_cg (g _ _ _ (by omega)) q)
  · obtain ⟨c1, c2, c3, c4, c5, c6, c7, c8⟩ := iv_0 h
    have m58 := cn_cg (w := w) (w' := w') (g 13 0 58 (by omega))
    have m63 := cn_cg (w := w) (w' := w') (g 13 0 63 (by omega))
    refine ⟨by rw [w09, w2], ?_, ?_, ?_, fun b hb => ?_, fun p hp => ?_, fun i hi => ?_, fun i hi => ?_⟩
    · rw [g _ _ _ (by omega), g _ _ _ (by omega)]; exact c2
    · rw [g _ _ _ (by omega), g _ _ _ (by omega)]; exact c3
    · rw [g _ _ _ (by omega), g _ _ _ (by omega)]; exact c4
    · rw [g _ _ _ (by omega), g _ _ _ (by omega)]; exact c5 b hb
    · rw [m3] at hp; rw [g _ _ _ (by omega), g _ _ _ (by omega), g _ _ _ (by omega), g _ _ _ (by omega)]; exact c6 p hp
    · rw [m58] at hi; rw [g _ _ _ (by omega), g _ _ _ (by omega)]; exact c7 i hi
    · rw [m63] at hi; rw [g _ _ _ (by omega), g _ _ _ (by omega), g _ _ _ (by omega), g _ _ _ (by omega)]; exact c8 i hi
  · rw [m17] at hj
    have hL := iv_L h hj
    cases hb : arB w j (nI y) with
    | false =>
      have q := gn j hj hb
      refine LtI_cg (Exw_2 h2) (Nat.le_succ c) (by omega) (by omega) (fun t k i ht => ?_) hL
      by_cases z : (t = 10 ∧ k = j) ∨ ((123 ≤ t ∧ t ≤ 125) ∧ i = j)
      · exact q t k i z
      · exact g t k i (by omega)
    | true =>
      obtain ⟨f1, f2, f3, f4, f5, f6⟩ := gy j hj hb
      obtain ⟨p, hp, ep⟩ := on j hj hb
      obtain ⟨a1, a2, a3, a4, a5, a6, a7, a8, a9, b1, b2, b3, b4, b5, b6, b7, b8, b9, d1, d2, d3, d4, d5, d6⟩ := hL.2.1
      refine ⟨LtS_e (Exw_2 h2) hL.1, ⟨?_, ?_, ?_, ?_, ?_, ?_, ?_, ?_, ?_, ?_, ?_, ?_, ?_, ?_, fun b hb => ?_, fun b hb => ?_, ?_, ?_, ?_, ?_, ?_, ?_, ?_, ?_⟩, BdC_cg (Nat.le_succ c) (by omega) (fun t k i ht => g t k i (by omega)) hL.2.2.1, Or.inl f5, Or.inl f6, by rw [g _ _ _ (by omega)]; exact hL.2.2.2.2.2.1, WgC_cg (fun t ht => g t 0 j (by omega)) hL.2.2.2.2.2.2⟩
      · rw [g _ _ _ (by omega), g _ _ _ (by omega)]; exact a1
      · rw [g _ _ _ (by omega), g _ _ _ (by omega)]; exact a2
      · rw [g _ _ _ (by omega), g _ _ _ (by omega)]; exact a3
      · rw [g _ _ _ (by omega), g _ _ _ (by omega)]; exact a4
      · rw [g _ _ _ (by omega), g _ _ _ (by omega)]; exact a5
      · rw [g _ _ _ (by omega), g _ _ _ (by omega)]; exact a6
      · rw [f1, f4, a8]
      · rw [f2, f5]
      · rw [f3, f6]
      · rw [g _ _ _ (by omega), g _ _ _ (by omega)]; exact b1
      · rw [g _ _ _ (by omega), g _ _ _ (by omega)]; exact b2
      · rw [g _ _ _ (by omega), g _ _ _ (by omega)]; exact b3
      · rw [g _ _ _ (by omega), g _ _ _ (by omega)]; exact b4
      · rw [g _ _ _ (by omega), g _ _ _ (by omega)]; exact b5
      · rw [g _ _ _ (by omega), g _ _ _ (by omega)]; exact b6 b hb
      · rw [g _ _ _ (by omega), g _ _ _ (by omega)]; exact b7 b hb
      · rw [g 128 _ _ (by omega), g 11 _ _ (by omega), g 129 _ _ (by omega), g 118 _ _ (by omega)]; exact b8
      · rw [g 230 _ _ (by omega), g 11 _ 5 (by omega), g 133 _ _ (by omega), g 11 _ 6 (by omega), g 120 _ _ (by omega), g 132 _ _ (by omega), g 11 _ 8 (by omega), g 131 _ _ (by omega), g 128 _ _ (by omega)]; exact b9
      · rw [g 227 _ _ (by omega)]; exact d1
      · rw [g 230 _ _ (by omega)]; exact d2
      · rw [g 134 _ _ (by omega), g 230 _ _ (by omega)]; exact d3
      · rw [g 119 _ _ (by omega)]; exact d4
      · rw [f4, f5, ep]
        exact ⟨fun z => absurd z (nI_nm1 (by have := hM.2.1.2; omega)), fun z => absurd rfl z⟩
      · rw [f5, f6]
  · have eg : grf w' = grf w := grf_cg fun t k i ht => g t k i (by omega)
    have fm : (F.map (fun f => f.1)).filter (fun e => decide (y < e.2 + gfT (grf w) e.1)) = (F.filter (fun f => decide (y < f.1.2 + gfT (grf w) f.1.1))).map (fun f => f.1) := by rw [List.filter_map]; rfl
    refine ⟨F.filter (fun f => decide (y < f.1.2 + gfT (grf w) f.1.1)), ?_, ?_, ?_, ?_, fun o => ?_, fun f hf => ?_⟩
    · rw [← fm]
      refine CpE_cg (Exw_2 (by rw [h2, (yfU_E w y (cn w 6)).1])) (fun t k i ht => ?_) C2
      rcases ht with ht | ⟨rfl, rfl⟩
      · exact e9 t k i (by omega)
      · rw [g _ _ _ (by omega), (yfU_E w y (cn w 6)).2 _ _ _ (by omega)]
    · rw [← fm]; exact R2
    · rw [eg, ← fm]
      exact fun e he => enB_up (by omega) F3 e (List.mem_filter.mp he).1
    · exact List.Nodup.sublist (List.Sublist.map _ List.filter_sublist) F4.1
    · exact Nat.le_trans (List.Sublist.length_le (List.Sublist.filter _ List.filter_sublist)) (F4.2.1 o)
    · have hf2 := List.mem_filter.mp hf
      obtain ⟨q1, d, q2, q3, q4⟩ := F4.2.2 f hf2.1
      have hlt : y < f.1.2 + gfT (grf w) f.1.1 := of_decide_eq_true hf2.2
      refine ⟨by omega, d, ?_, by rw [eg]; exact q3, q4⟩
      rw [gn f.2 q1 ?_ _ _ _ (by omega)]
      · exact q2
      · rw [ru_b h q1, q2, decide_eq_false (show ¬ nI d ≤ nI y by rw [nI_leI (by omega) (by omega)]; omega), Bool.and_false]
end
