/-! the invariant at the start -/
def zI (w : Wd) : Prop := ∀ t k i, wI w t k i = 0
theorem Z_nC {w : Wd} {t n : Nat} (h : zI w) : zI (nC w t n) := fun t' k i => by
  rw [yI_nC]
  split
  · rfl
  · exact h _ _ _
theorem Z_sR {w : Wd} {t k i : Nat} {v : Option (Nat × Nat)} (h : zI w) : zI (sR w t k i v) := fun t' k' i' => by rw [yI_sR]; exact h _ _ _
theorem Z_sI {w : Wd} {t k i : Nat} (h : zI w) : zI (sI w t k i 0) := fun t' k' i' => by
  rw [yI_sI]
  split
  · rfl
  · exact h _ _ _
theorem Z_ma {w : Wd} (h : zI w) : zI (muW w) := fun t k i => by
  rw [muW_I]
  split
  · rfl
  · exact h _ _ _
theorem Z_wi {w : Wd} {j : Nat} (h : zI w) : zI (wiW w j) := Z_sI (Z_sI (Z_sR (Z_nC (Z_sR (Z_nC h)))))
theorem Z_ri {w : Wd} {j : Nat} (h : zI w) : zI (riW w j) := Z_sI (Z_sI (Z_sR (Z_nC h)))
theorem Z_ti {w : Wd} {j : Nat} (h : zI w) : zI (tiW w j) := Z_sI (Z_sI (Z_sR (Z_nC h)))
theorem Z_ki {w : Wd} {j : Nat} (h : zI w) : zI (kiW w j) := Z_sI (Z_sR (Z_nC (Z_sR (Z_nC h))))
theorem Z_li {w : Wd} {j : Nat} (h : zI w) : zI (liW w j) := Z_sR (Z_sI h)
theorem Z_bi {w : Wd} {j : Nat} (h : zI w) : zI (biW w j) := Z_sR (Z_li (Z_nC h))
theorem Z_yi {w : Wd} {j : Nat} (h : zI w) : zI (yiW w j) := Z_sI (Z_sR (Z_ma (Z_sR (Z_nC (Z_sR (Z_nC (Z_sR (Z_li (Z_nC h)))))))))
theorem Z_pw {w : Wd} (h : zI w) : ∀ i, zI (pwU w i)
  | 0 => h
  | i + 1 => Z_sR (Z_wi (Z_nC (Z_pw h i)))
theorem Z_p2 {w : Wd} (h : zI w) : zI (p2W w) := Z_sR (Z_sI (Z_sI (Z_sI (Z_sI (Z_sI (Z_sI (Z_sI (Z_sR (Z_nC (Z_sR (Z_nC (Z_sR (Z_nC (Z_sR (Z_nC (Z_sR h))))))))))))))))
theorem Z_pi {w : Wd} (h : zI w) : zI (piW w) := Z_pw (Z_p2 (Z_nC (Z_sR (Z_nC (Z_sR (Z_nC h)))))) 16
theorem Z_s9 : zI s9W := by
  have z0 : zI w00 := fun _ _ _ => rfl
  have z1 : zI s1W := Z_sR (Z_yi (Z_nC (Z_nC z0)))
  have z2 : zI s2W := Z_sR (Z_li (Z_nC z1))
  have z3 : zI s3W := Z_sR (Z_ti (Z_nC z2))
  have z4 : zI s4W := Z_sR (Z_bi (Z_nC z3))
  have z5 : zI s5W := Z_sR (Z_ki (Z_nC z4))
  have z6 : zI s6W := Z_sR (Z_pi (Z_nC z5))
  have z7 : zI s7W := Z_sR (Z_ri (Z_nC z6))
  have z8 : zI s8W := Z_sR (Z_wi (Z_nC z7))
  exact Z_sI (Z_sR (Z_nC z8))
def yI47 (w : Wd) : Prop := ∀ t k i, wI w t k i = if t = 13 ∧ k = 0 ∧ i = 47 then -1 else 0
theorem Y_naF {w : Wd} {t k n : Nat} (ht : ¬ t = 13) (h : yI47 w) : yI47 (naF w t k n) := fun t' k' i' => by
  unfold naF
  rw [yI_sR, yI_nC]
  by_cases c : t' = t ∧ k' = wC w t
  · rw [if_pos c, if_neg (by omega)]
  · rw [if_neg c]; exact h _ _ _
theorem Z_naF {w : Wd} {t k n : Nat} (h : zI w) : zI (naF w t k n) := Z_sR (Z_nC h)
theorem Z_naL : ∀ (q : List (Nat × Nat × Nat)) {w : Wd}, zI w → zI (naL w q)
  | [], _, h => h
  | x :: q, w, h => Z_naL q (w := naF w x.2.1 x.1 x.2.2) (Z_naF h)
theorem Y_naL : ∀ (q : List (Nat × Nat × Nat)) {w : Wd}, (∀ x ∈ q, ¬ x.2.1 = 13) → yI47 w → yI47 (naL w q)
  | [], _, _, h => h
  | x :: q, w, hq, h => Y_naL q (w := naF w x.2.1 x.1 x.2.2) (fun y hy => hq y (List.mem_cons_of_mem _ hy)) (Y_naF (hq x List.mem_cons_self) h)
/-- both objects are made -/
def W0 : Wd := miW (nC s9W 13 0)
theorem Y_W0 : yI47 W0 := by
  unfold W0 miW
  refine Y_naL md2 (by decide) (fun t k i => ?_)
  rw [yI_sI]
  split
  · rfl
  · exact Z_naL md1 (Z_nC Z_s9) t k i
theorem SSh_W0 : SSh W0 := by unfold SSh; decide +kernel
theorem MSh_W0 : MSh W0 := by unfold MSh; decide +kernel
theorem IvN_W0 : IvN W0 := by unfold IvN; decide +kernel
theorem Inv_W0 : Inv 0 W0 := by
  have I := Y_W0
  have i13 : ∀ k, ¬ k = 47 → wI W0 13 0 k = 0 := fun k hk => by rw [I, if_neg (by omega)]
  have it : ∀ t k i, ¬ t = 13 → wI W0 t k i = 0 := fun t k i ht => by rw [I, if_neg (by omega)]
  have c0 : ∀ k, ¬ k = 47 → cn W0 k = 0 := fun k hk => by rw [cn, i13 k hk]; rfl
  have ok : ∀ k b, ¬ k = 47 → okc W0 k b := fun k b hk => ⟨by rw [c0 k hk, i13 k hk]; rfl, by rw [c0 k hk]; omega⟩
  have w47 : wI W0 13 0 47 = -1 := by rw [I, if_pos ⟨rfl, rfl, rfl⟩]
  have r0 : wR W0 2 0 1 = some (900, 0) := by decide +kernel
  have r1 : wR W0 2 1 1 = some (900, 0) := by decide +kernel
  have r2 : wR W0 2 2 1 = some (900, 0) := by decide +kernel
  have c2 : wC W0 2 = 3 := by decide +kernel
  have gn : gfN (grf W0) = 0 := c0 6 (by decide)
  refine ⟨SSh_W0, ⟨MSh_W0, ok _ _ (by decide), ok _ _ (by decide), ok _ _ (by decide), ⟨ok _ _ (by decide), fun r hr => ?_⟩, ok _ _ (by decide), ok _ _ (by decide), fun j hj => ?_, ok _ _ (by decide), Or.inl w47⟩, ⟨?_, ?_, ?_, ?_, fun b hb => ?_, fun p hp => ?_, fun i hi => ?_, fun i hi => ?_⟩, IvN_W0, ⟨?_, ?_, ⟨fun _ => 0, ?_, fun r hr => ?_⟩, fun i j hi hj hn x hx => ?_⟩, fun j hj => ?_, ⟨fun k hk => ?_, ⟨⟨MSh_W0, ok _ _ (by decide), ok _ _ (by decide), fun k hk => ?_, fun k hk => ?_, ⟨fun _ _ => 0, fun i hi => ?_, fun i j hi => ?_, fun i j k hi => ?_, fun k hk => ?_, fun i j hi => ?_⟩⟩, fun i j hi => ?_⟩, fun p _ _ => ⟨it _ _ _ (by decide), it _ _ _ (by decide)⟩⟩, ⟨[], fun k hk => ?_, ⟨?_, ?_, fun i e he => ?_⟩, fun e he => ?_, ?_, fun o => ?_, fun f hf => ?_⟩, Or.inl ⟨w47, it _ _ _ (by decide)⟩, ⟨?_, Or.inl (i13 _ (by decide)), ?_, fun i hi => ?_⟩, ⟨ok _ _ (by decide), ok _ _ (by decide)⟩, fun i hi => ?_⟩
  · rw [c0 48 (by decide)] at hr; omega
  · rw [c0 17 (by decide)] at hj; omega
  · rw [it _ _ _ (by decide), i13 _ (by decide)]
  · rw [it _ _ _ (by decide), i13 _ (by decide)]
  · rw [it _ _ _ (by decide), i13 _ (by decide)]
  · rw [it _ _ _ (by decide), i13 _ (by decide)]
  · rw [it _ _ _ (by decide), it _ _ _ (by decide)]
  · rw [c0 3 (by decide)] at hp; omega
  · rw [c0 58 (by decide)] at hi; omega
  · rw [c0 63 (by decide)] at hi; omega
  · rw [c0 6 (by decide)]
    exact ⟨it _ _ _ (by decide), by omega, by omega, Or.inl ⟨rfl, r0⟩⟩
  · rw [c0 17 (by decide)]
    exact ⟨it _ _ _ (by decide), by omega, by omega, Or.inl ⟨rfl, r1⟩⟩
  · rw [c0 48 (by decide)]
    exact ⟨it _ _ _ (by decide), by omega, by omega, Or.inl ⟨rfl, r2⟩⟩
  · rw [c0 48 (by decide)] at hr; omega
  · rcases (show i = 0 ∨ i = 1 ∨ i = 2 by omega) with rfl | rfl | rfl
    · rw [r0] at hx; cases hx
    · rw [r1] at hx; cases hx
    · rw [r2] at hx; cases hx
  · rw [c0 17 (by decide)] at hj; omega
  · rw [c0 6 (by decide)] at hk; omega
  · rw [c0 6 (by decide)] at hk; omega
  · rw [gn] at hk; omega
  · rw [c0 3 (by decide)] at hi; try omega
  · rw [c0 3 (by decide)] at hi; omega
  · rw [c0 3 (by decide)] at hi; omega
  · rw [gn] at hk; omega
  · rw [c0 3 (by decide)] at hi; omega
  · rw [c0 3 (by decide)] at hi; omega
  · rw [c0 6 (by decide)] at hk; omega
  · rw [i13 _ (by decide)]; rfl
  · exact Nat.zero_le _
  · simp at he
  · simp at he
  · exact List.nodup_nil
  · simp
  · simp at hf
  · rw [it _ _ _ (by decide), i13 _ (by decide)]
  · rw [it _ _ _ (by decide), i13 _ (by decide)]
  · rw [c0 67 (by decide)] at hi; omega
  · rw [c0 63 (by decide)] at hi; omega
