/-! a rule more -/
def sgT (t : Tst) : Prop := t.2.2.1 = 60 ∨ t.2.2.1 = 61 ∨ t.2.2.1 = 62
theorem sg_ok {h : Nat → Int32} {s : RS} (hs : s.2 = false) (hf : (nbS h (sgS h s)).1.2 = false) : h s.1 = 60 ∨ h s.1 = 61 ∨ h s.1 = 62 := by
  have h1 : (sgS h s).2 = false := by
    cases q : (sgS h s).2 with
    | false => rfl
    | true =>
      unfold nbS at hf
      rw [if_pos q] at hf
      rw [q] at hf
      cases hf
  unfold sgS at h1
  by_cases c : h s.1 = 60 ∨ h s.1 = 62
  · rcases c with c | c
    · exact Or.inl c
    · exact Or.inr (Or.inr c)
  · rw [if_neg c] at h1
    unfold oneS at h1
    rw [if_neg (by rw [hs]; decide)] at h1
    by_cases d : h s.1 = 61
    · exact Or.inr (Or.inl d)
    · rw [if_neg d] at h1; cases h1
theorem ts_sg {h : Nat → Int32} {p : Nat} {t : Tst} (ht : (tsS h p).2 = some t) (hf : (tsS h p).1.2 = false) : sgT t := by
  unfold tsS at ht hf
  revert ht hf
  generalize wdS h (fdL (h (if h p = 33 then p + 1 else p))).1 (if h p = 33 then p + 1 else p, false) = S
  intro ht hf
  by_cases c : S.2 = true
  · rw [if_pos c] at ht; cases ht
  · rw [if_neg c] at ht hf
    have e : t = (decide (h p = 33), (fdL (h (if h p = 33 then p + 1 else p))).2, h S.1, (nbS h (sgS h S)).2) := by cases ht; rfl
    rw [e]
    exact sg_ok (by cases q : S.2 with
      | false => rfl
      | true => exact absurd q c) hf
theorem lp_wr {h : Nat → Int32} {n f : Nat} {s : RS} {ts : List Tst} (hs : s.2 = true) : lpS h n f s ts = (s, ts) := by
  cases f with
  | zero => rfl
  | succ f => rw [lpS, if_pos (Or.inl hs)]
theorem lp_ok {h : Nat → Int32} {n : Nat} : ∀ f s (ts : List Tst), f + ts.length = 4 → ts.length ≤ 3 → (∀ t ∈ ts, sgT t) → (lpS h n f s ts).1.2 = false → (∀ t ∈ (lpS h n f s ts).2, sgT t) ∧ (lpS h n f s ts).2.length ≤ 3
  | 0, s, ts, h4, h3, _, _ => by omega
  | f + 1, s, ts, h4, h3, hs, hf => by
    rw [lpS] at hf ⊢
    by_cases c1 : s.2 = true ∨ n ≤ s.1
    · rw [if_pos c1]; exact ⟨hs, h3⟩
    · rw [if_neg c1] at hf ⊢
      by_cases c2 : ts.length = 3
      · rw [if_pos c2] at hf; cases hf
      · rw [if_neg c2] at hf ⊢
        by_cases c3 : (wdS h (if ts.length = 0 then wd_If else wd_Or) s).2 = true
        · rw [if_pos c3] at hf
          rw [c3] at hf; cases hf
        · rw [if_neg c3] at hf ⊢
          revert hf
          generalize (wdS h (if ts.length = 0 then wd_If else wd_Or) s).1 = p
          cases ht : (tsS h p).2 with
          | none => exact fun _ => ⟨hs, h3⟩
          | some t =>
            intro hf
            cases hw : (tsS h p).1.2 with
            | true =>
              have hf2 : (lpS h n f (tsS h p).1 (ts ++ [t])).1.2 = false := hf
              rw [lp_wr hw] at hf2
              rw [hw] at hf2; cases hf2
            | false =>
              exact lp_ok f (tsS h p).1 (ts ++ [t]) (by rw [List.length_append]; show f + (ts.length + 1) = 4; omega) (by rw [List.length_append]; show ts.length + 1 ≤ 3; omega) (fun x hx => by
                rcases List.mem_append.mp hx with hx | hx
                · exact hs x hx
                · rw [List.mem_singleton] at hx
                  rw [hx]
                  exact ts_sg ht hw) hf
theorem pr_ok {h : Nat → Int32} {n : Nat} (hf : (prS h n).1.2 = false) : (∀ t ∈ (prS h n).2.2.2, sgT t) ∧ (prS h n).2.2.2.length ≤ 3 := lp_ok 4 _ [] rfl (by decide) (fun t ht => absurd ht List.not_mem_nil) hf
theorem pr_ky (h : Nat → Int32) (n : Nat) : (prS h n).2.1 = 0 ∨ (prS h n).2.1 = 1 ∨ (prS h n).2.1 = 2 ∨ (prS h n).2.1 = 3 := by
  show (kyL (h 0)).2 = 0 ∨ (kyL (h 0)).2 = 1 ∨ (kyL (h 0)).2 = 2 ∨ (kyL (h 0)).2 = 3
  unfold kyL
  split
  · exact Or.inl rfl
  · split
    · exact Or.inr (Or.inl rfl)
    · split
      · exact Or.inr (Or.inr (Or.inl rfl))
      · exact Or.inr (Or.inr (Or.inr rfl))
/-- the world with a new rule -/
def nuW (w : Wd) (a b : Int32) : Wd := uiW (nC w 12 0) (wC w 12) a b
theorem nuW_I (w : Wd) (a b : Int32) (s k q : Nat) (h : ¬ ((s = 12 ∧ k = wC w 12) ∨ (s = 270 ∧ k = wC w 270) ∨ (s = 189 ∧ k = wC w 189) ∨ (s = 190 ∧ k = wC w 190) ∨ (s = 191 ∧ k = wC w 191))) : wI (nuW w a b) s k q = wI w s k q := by
  unfold nuW uiW
  simp only [yI_sI, yI_sR, yI_nC, yC_nC, yC_sI, yC_sR, Nat.reduceEqDiff, if_false]
  rw [if_neg (by omega), if_neg (by omega), if_neg (by omega), if_neg (by omega), if_neg (by omega), if_neg (by omega), if_neg (by omega), if_neg (by omega), if_neg (by omega), if_neg (by omega)]
theorem nuW_v (w : Wd) (a b : Int32) : wI (nuW w a b) 12 (wC w 12) 0 = a ∧ wI (nuW w a b) 12 (wC w 12) 1 = b ∧ wI (nuW w a b) 12 (wC w 12) 6 = 0 := by
  unfold nuW uiW
  simp only [yI_sI, yI_sR, yI_nC, yC_nC, yC_sI, yC_sR, Nat.reduceEqDiff, false_and, and_false, and_true, true_and, and_self, if_false, if_true]
theorem nuW_R (w : Wd) (a b : Int32) (s k q : Nat) (h : ¬ ((s = 12 ∧ k = wC w 12) ∨ (s = 270 ∧ k = wC w 270) ∨ (s = 189 ∧ k = wC w 189) ∨ (s = 190 ∧ k = wC w 190) ∨ (s = 191 ∧ k = wC w 191))) : wR (nuW w a b) s k q = wR w s k q := by
  unfold nuW uiW
  simp only [yR_sI, yR_sR, yR_nC, yC_nC, yC_sI, yC_sR, Nat.reduceEqDiff, if_false]
  rw [if_neg (by omega), if_neg (by omega), if_neg (by omega), if_neg (by omega), if_neg (by omega), if_neg (by omega), if_neg (by omega), if_neg (by omega), if_neg (by omega)]
theorem nuW_r (w : Wd) (a b : Int32) : wR (nuW w a b) 12 (wC w 12) 2 = some (270, wC w 270) ∧ wR (nuW w a b) 12 (wC w 12) 3 = some (189, wC w 189) ∧ wR (nuW w a b) 12 (wC w 12) 4 = some (190, wC w 190) ∧ wR (nuW w a b) 12 (wC w 12) 5 = some (191, wC w 191) := by
  unfold nuW uiW
  simp only [yR_sI, yR_sR, yR_nC, yC_nC, yC_sI, yC_sR, Nat.reduceEqDiff, false_and, and_false, and_true, true_and, and_self, if_false, if_true]
theorem nuW_C (w : Wd) (a b : Int32) (s : Nat) : wC (nuW w a b) s = if s = 191 then wC w 191 + 1 else if s = 190 then wC w 190 + 1 else if s = 189 then wC w 189 + 1 else if s = 270 then wC w 270 + 1 else if s = 12 then wC w 12 + 1 else wC w s := by
  unfold nuW uiW
  simp only [yC_nC, yC_sI, yC_sR, Nat.reduceEqDiff, if_false]
theorem nuW_N (w : Wd) (a b : Int32) (s k : Nat) : wN (nuW w a b) s k = if s = 191 ∧ k = wC w 191 then 3 else if s = 190 ∧ k = wC w 190 then 3 else if s = 189 ∧ k = wC w 189 then 3 else if s = 270 ∧ k = wC w 270 then 3 else if s = 12 ∧ k = wC w 12 then 0 else wN w s k := by
  unfold nuW uiW
  simp only [yN_sI, yN_sR, yN_nC, yC_nC, yC_sI, yC_sR, Nat.reduceEqDiff, if_false]
def RlS (m r t k i : Nat) : Prop := ((t = 12 ∨ t = 270 ∨ (189 ≤ t ∧ t ≤ 191)) ∧ k = m) ∨ (t = 3 ∧ (i = 1 ∨ i = 2)) ∨ (t = 13 ∧ ((60 ≤ i ∧ i ≤ 62) ∨ i = 58 ∨ i = 48)) ∨ ((149 ≤ t ∧ t ≤ 153) ∧ i = r) ∨ ((t = 254 ∨ (155 ≤ t ∧ t ≤ 157)) ∧ 3 * r ≤ i ∧ i < 3 * r + 3) ∨ (t = 2 ∧ k = 2) ∨ t = 300
theorem rl_all {c m r : Nat} {w w' : Wd} (h : Inv c w) (hE : Exw w w') (hS : SSh w') (hMS : MSh w') (hN : IvN w') (hQ : IvQ w') (hR : okR w') (h58 : okc w' 58 80) (h31 : wI w' 3 0 1 = wI w' 13 0 58) (h7 : ∀ i, i < cn w' 58 → wI w' 174 0 i = wI w' 159 0 i) (hI : ∀ t k i, ¬ RlS m r t k i → wI w' t k i = wI w t k i) : Inv (c + 1) w' := by
  have g : ∀ t k i, ¬ (((t = 12 ∨ t = 270 ∨ (189 ≤ t ∧ t ≤ 191)) ∧ k = m) ∨ (t = 3 ∧ (i = 1 ∨ i = 2)) ∨ (t = 13 ∧ ((60 ≤ i ∧ i ≤ 62) ∨ i = 58 ∨ i = 48)) ∨ ((149 ≤ t ∧ t ≤ 153) ∧ i = r) ∨ ((t = 254 ∨ (155 ≤ t ∧ t ≤ 157)) ∧ 3 * r ≤ i ∧ i < 3 * r + 3) ∨ (t = 2 ∧ k = 2) ∨ t = 300) → wI w' t k i = wI w t k i := hI
  have m3 := cn_cg (w := w) (w' := w') (g 13 0 3 (by omega))
  have m17 := cn_cg (w := w) (w' := w') (g 13 0 17 (by omega))
  have m38 := cn_cg (w := w) (w' := w') (g 13 0 38 (by omega))
  have m63 := cn_cg (w := w) (w' := w') (g 13 0 63 (by omega))
  refine ⟨hS, ?_, ?_, hN, hQ, fun j hj => LtI_cg hE (Nat.le_succ c) (by omega) (by omega) (fun t k i ht => g t k i (by omega)) (iv_L h (by omega)), IvY_cg hE hMS (fun t k i ht => g t k i (by omega)) (iv_Y h), IvE_cg hE (Nat.le_succ c) (fun t k i ht => g t k i (by omega)) (iv_E h), IvP_cg (fun t k i ht => g t k i (by omega)) (iv_P h), IvW_cg (fun t k i ht => g t k i (by omega)) (iv_W h), IvT_cg (Nat.le_succ c) (g _ _ _ (by omega)) (g _ _ _ (by omega)) (iv_T h), IvK_cg (g _ _ _ (by omega)) (fun i => g _ _ _ (by omega)) (iv_K h)⟩
  · obtain ⟨-, q3, q6, q17, qR, q63, q58, q123, q67, q47⟩ := iv_M h
    refine ⟨hMS, okc_cg (g _ _ _ (by omega)) q3, okc_cg (g _ _ _ (by omega)) q6, okc_cg (g _ _ _ (by omega)) q17, hR, okc_cg (g _ _ _ (by omega)) q63, h58, fun j hj => ?_, okc_cg (g _ _ _ (by omega)) q67, ?_⟩
    · rw [m17] at hj
      rw [m3, g _ _ _ (by omega)]
      exact q123 j hj
    · rcases q47 with q | q
      · exact Or.inl (by rw [g _ _ _ (by omega)]; exact q)
      · exact Or.inr (okc_cg (g _ _ _ (by omega)) q)
  · obtain ⟨c1, c2, c3, c4, c5, c6, c7, c8⟩ := iv_0 h
    refine ⟨?_, ?_, h31, ?_, fun b hb => ?_, fun p hp => ?_, h7, fun i hi => ?_⟩
    · rw [g _ _ _ (by omega), g _ _ _ (by omega)]; exact c1
    · rw [g _ _ _ (by omega), g _ _ _ (by omega)]; exact c2
    · rw [g _ _ _ (by omega), g _ _ _ (by omega)]; exact c4
    · rw [g _ _ _ (by omega), g _ _ _ (by omega)]; exact c5 b hb
    · rw [m3] at hp; rw [g _ _ _ (by omega), g _ _ _ (by omega), g _ _ _ (by omega), g _ _ _ (by omega)]; exact c6 p hp
    · rw [m63] at hi; rw [g _ _ _ (by omega), g _ _ _ (by omega), g _ _ _ (by omega), g _ _ _ (by omega)]; exact c8 i hi
/-- the shape, with a new rule -/
theorem nu_sh {c : Nat} {w u : Wd} {a b : Int32} (h : Inv c w) (hu : u.2 = (nuW w a b).2) : SSh u ∧ MSh u ∧ Exw w u ∧ IvN (sI (sI u 13 0 6 (wI w 13 0 6)) 13 0 17 (wI w 13 0 17)) ∧ RuS u (wC w 12) := by
  obtain ⟨n9, n186, n10, n11, n187, n188, n270, n189, n190, n191⟩ := iv_N h
  have uC : ∀ s, wC u s = if s = 191 then wC w 191 + 1 else if s = 190 then wC w 190 + 1 else if s = 189 then wC w 189 + 1 else if s = 270 then wC w 270 + 1 else if s = 12 then wC w 12 + 1 else wC w s := fun s => by rw [w2_C hu, nuW_C]
  have uR : ∀ s k q, ¬ ((s = 12 ∧ k = wC w 12) ∨ (s = 270 ∧ k = wC w 270) ∨ (s = 189 ∧ k = wC w 189) ∨ (s = 190 ∧ k = wC w 190) ∨ (s = 191 ∧ k = wC w 191)) → wR u s k q = wR w s k q := fun s k q hn => by rw [w2_R hu, nuW_R _ _ _ _ _ _ hn]
  have uN : ∀ s k, wN u s k = if s = 191 ∧ k = wC w 191 then 3 else if s = 190 ∧ k = wC w 190 then 3 else if s = 189 ∧ k = wC w 189 then 3 else if s = 270 ∧ k = wC w 270 then 3 else if s = 12 ∧ k = wC w 12 then 0 else wN w s k := fun s k => by rw [w2_N hu, nuW_N]
  have C0 : ∀ s, ¬ (s = 12 ∨ s = 270 ∨ (189 ≤ s ∧ s ≤ 191)) → wC u s = wC w s := fun s hs => by rw [uC, if_neg (by omega), if_neg (by omega), if_neg (by omega), if_neg (by omega), if_neg (by omega)]
  have N0 : ∀ s k, ¬ (s = 12 ∨ s = 270 ∨ (189 ≤ s ∧ s ≤ 191)) → wN u s k = wN w s k := fun s k hs => by rw [uN, if_neg (by omega), if_neg (by omega), if_neg (by omega), if_neg (by omega), if_neg (by omega)]
  refine ⟨SSh_x (fun s k q hs => uR s k q (by omega)) (fun s hs => C0 s (by omega)) (fun s k hs => N0 s k (by omega)) (iv_S h), MSh_x (fun q => uR _ _ _ (by omega)) (fun s hs => C0 s (by omega)) (fun s k hs => N0 s k (by omega)) (iv_M h).1, ⟨fun s k q hk _ _ => ?_, fun s => ?_, fun s k hk => ?_⟩, ?_, ?_⟩
  · refine uR s k q (fun z => ?_)
    rcases z with ⟨rfl, z⟩ | ⟨rfl, z⟩ | ⟨rfl, z⟩ | ⟨rfl, z⟩ | ⟨rfl, z⟩ <;> omega
  · by_cases z : s = 12 ∨ s = 270 ∨ (189 ≤ s ∧ s ≤ 191)
    · rw [uC]
      rcases (show s = 12 ∨ s = 270 ∨ s = 189 ∨ s = 190 ∨ s = 191 by omega) with rfl | rfl | rfl | rfl | rfl
      · rw [if_neg (by omega), if_neg (by omega), if_neg (by omega), if_neg (by omega), if_pos rfl]; omega
      · rw [if_neg (by omega), if_neg (by omega), if_neg (by omega), if_pos rfl]; omega
      · rw [if_neg (by omega), if_neg (by omega), if_pos rfl]; omega
      · rw [if_neg (by omega), if_pos rfl]; omega
      · rw [if_pos rfl]; omega
    · rw [C0 s z]; exact Nat.le_refl _
  · rw [uN]
    rw [if_neg (fun z => by rw [z.1] at hk; omega), if_neg (fun z => by rw [z.1] at hk; omega), if_neg (fun z => by rw [z.1] at hk; omega), if_neg (fun z => by rw [z.1] at hk; omega), if_neg (fun z => by rw [z.1] at hk; omega)]
  · have e6 : cn (sI (sI u 13 0 6 (wI w 13 0 6)) 13 0 17 (wI w 13 0 17)) 6 = cn w 6 := by unfold cn; rw [yI_sI, if_neg (by omega), yI_sI, if_pos ⟨rfl, rfl, rfl⟩]
    have e17 : cn (sI (sI u 13 0 6 (wI w 13 0 6)) 13 0 17 (wI w 13 0 17)) 17 = cn w 17 := by unfold cn; rw [yI_sI, if_pos ⟨rfl, rfl, rfl⟩]
    unfold IvN
    rw [e6, e17]
    have ec : ∀ s, wC (sI (sI u 13 0 6 (wI w 13 0 6)) 13 0 17 (wI w 13 0 17)) s = wC u s := fun s => rfl
    simp only [ec]
    refine ⟨?_, ?_, ?_, ?_, ?_, ?_, ?_, ?_, ?_, ?_⟩
    · rw [C0 _ (by omega)]; exact n9
    · rw [C0 _ (by omega)]; exact n186
    · rw [C0 _ (by omega)]; exact n10
    · rw [C0 _ (by omega)]; exact n11
    · rw [C0 _ (by omega)]; exact n187
    · rw [C0 _ (by omega)]; exact n188
    · rw [uC 270, uC 12, if_neg (by omega), if_neg (by omega), if_neg (by omega), if_pos rfl, if_neg (by omega), if_neg (by omega), if_neg (by omega), if_neg (by omega), if_pos rfl, n270]
    · rw [uC 189, uC 12, if_neg (by omega), if_neg (by omega), if_pos rfl, if_neg (by omega), if_neg (by omega), if_neg (by omega), if_neg (by omega), if_pos rfl, n189]
    · rw [uC 190, uC 12, if_neg (by omega), if_pos rfl, if_neg (by omega), if_neg (by omega), if_neg (by omega), if_neg (by omega), if_pos rfl, n190]
    · rw [uC 191, uC 12, if_pos rfl, if_neg (by omega), if_neg (by omega), if_neg (by omega), if_neg (by omega), if_pos rfl, n191]
  · obtain ⟨v1, v2, v3, v4⟩ := nuW_r w a b
    refine ⟨?_, ?_, ?_, ?_, ?_, ?_, ?_, ?_, ?_, ?_, ?_, ?_, ?_⟩
    · rw [uC, if_neg (by omega), if_neg (by omega), if_neg (by omega), if_neg (by omega), if_pos rfl]; omega
    · rw [w2_R hu, v1, n270]
    · rw [w2_R hu, v2, n189]
    · rw [w2_R hu, v3, n190]
    · rw [w2_R hu, v4, n191]
    · rw [uC, if_neg (by omega), if_neg (by omega), if_neg (by omega), if_pos rfl]; omega
    · rw [uN, if_neg (by omega), if_neg (by omega), if_neg (by omega), if_pos ⟨rfl, n270.symm⟩]
    · rw [uC, if_neg (by omega), if_neg (by omega), if_pos rfl]; omega
    · rw [uN, if_neg (by omega), if_neg (by omega), if_pos ⟨rfl, n189.symm⟩]
    · rw [uC, if_neg (by omega), if_pos rfl]; omega
    · rw [uN, if_neg (by omega), if_pos ⟨rfl, n190.symm⟩]
    · rw [uC, if_pos rfl]; omega
    · rw [uN, if_pos ⟨rfl, n191.symm⟩]
