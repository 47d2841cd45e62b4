/-! what stays true from call to call -/
def Exw (w w' : Wd) : Prop := (∀ t k q, k < wC w t → ¬ t = 2 → ¬ t = 300 → wR w' t k q = wR w t k q) ∧ (∀ t, wC w t ≤ wC w' t) ∧ ∀ t k, k < wC w t → wN w' t k = wN w t k
theorem Exw_2 {w w' : Wd} (h : w'.2 = w.2) : Exw w w' := ⟨fun t k q _ _ _ => w2_R h t k q, fun t => Nat.le_of_eq (w2_C h t).symm, fun t k _ => w2_N h t k⟩
theorem LtS_e {w w' : Wd} {j : Nat} (h : Exw w w') (hs : LtS w j) : LtS w' j := by
  obtain ⟨a, b, c⟩ := h
  obtain ⟨s1, s2, s3, s4, s5, s6, s7, s8, s9⟩ := hs
  exact ⟨Nat.lt_of_lt_of_le s1 (b _), by rw [a _ _ _ s1 (by decide) (by decide)]; exact s2, Nat.lt_of_lt_of_le s3 (b _), by rw [a _ _ _ s3 (by decide) (by decide)]; exact s4, by rw [a _ _ _ s3 (by decide) (by decide)]; exact s5, Nat.lt_of_lt_of_le s6 (b _), by rw [c _ _ s6]; exact s7, Nat.lt_of_lt_of_le s8 (b _), by rw [c _ _ s8]; exact s9⟩
theorem AlS_e {w w' : Wd} {k : Nat} (h : Exw w w') (hs : AlS w k) : AlS w' k := by
  obtain ⟨a, b, c⟩ := h
  obtain ⟨s1, s2, s3, s4⟩ := hs
  exact ⟨Nat.lt_of_lt_of_le s1 (b _), by rw [a _ _ _ s1 (by decide) (by decide)]; exact s2, Nat.lt_of_lt_of_le s3 (b _), by rw [c _ _ s3]; exact s4⟩
theorem RuS_e {w w' : Wd} {m : Nat} (h : Exw w w') (hs : RuS w m) : RuS w' m := by
  obtain ⟨a, b, c⟩ := h
  obtain ⟨s1, s2, s3, s4, s5, s6, s7, s8, s9, t1, t2, t3, t4⟩ := hs
  have e := fun q => a 12 m q s1 (by decide) (by decide)
  exact ⟨Nat.lt_of_lt_of_le s1 (b _), by rw [e]; exact s2, by rw [e]; exact s3, by rw [e]; exact s4, by rw [e]; exact s5, Nat.lt_of_lt_of_le s6 (b _), by rw [c _ _ s6]; exact s7, Nat.lt_of_lt_of_le s8 (b _), by rw [c _ _ s8]; exact s9, Nat.lt_of_lt_of_le t1 (b _), by rw [c _ _ t1]; exact t2, Nat.lt_of_lt_of_le t3 (b _), by rw [c _ _ t3]; exact t4⟩
/-- the order of the bids for a lot: the same on both sides -/
def BdC (c : Nat) (w : Wd) (j : Nat) : Prop := ∃ T, wI w 11 j 2 = nI T ∧ T ≤ c ∧ ∃ x y : Nat → Nat, ∀ b, b < 5 → ¬ wI w 136 0 (5 * j + b) ≤ 0 → wI w 188 j b = nI (x b) ∧ wI w 137 0 (5 * j + b) = nI (y b) ∧ x b ≤ T ∧ y b < cn w 38 ∧ ∀ b', b' < 5 → ¬ wI w 136 0 (5 * j + b') ≤ 0 → (x b < x b' ↔ y b < y b')
/-- while a scale may still be found off: the money is that of the weight -/
def WgC (w : Wd) (j : Nat) : Prop := ¬ wI w 134 0 j = -1 → wI w 131 0 j = mnI w j (wI w 133 0 j) (wI w 132 0 j) ∧ atl1 (wI w 133 0 j) = wI w 133 0 j
theorem WgC_cg {w w' : Wd} {j : Nat} (hI : ∀ t, t = 120 ∨ (129 ≤ t ∧ t ≤ 134) → wI w' t 0 j = wI w t 0 j) (h : WgC w j) : WgC w' j := by
  unfold WgC mnI at h ⊢
  rw [hI 134 (by omega), hI 131 (by omega), hI 133 (by omega), hI 132 (by omega), hI 129 (by omega), hI 120 (by omega)]
  exact h
def GoC (c : Nat) (w : Wd) (j : Nat) : Prop := (wI w 124 0 j = -1 ∨ ∃ p, p < cn w 3 ∧ wI w 124 0 j = nI p) ∧ (wI w 125 0 j = -1 ∨ ∃ d, d ≤ 1400 * c ∧ wI w 125 0 j = nI d) ∧ inR (wI w 118 0 j) 0 3 = true ∧ WgC w j
def LtI (c : Nat) (w : Wd) (j : Nat) : Prop := LtS w j ∧ LtC w j ∧ BdC c w j ∧ GoC c w j
def IvN (w : Wd) : Prop := wC w 9 = cn w 6 ∧ wC w 186 = cn w 6 ∧ wC w 10 = cn w 17 ∧ wC w 11 = cn w 17 ∧ wC w 187 = cn w 17 ∧ wC w 188 = cn w 17 ∧ wC w 270 = wC w 12 ∧ wC w 189 = wC w 12 ∧ wC w 190 = wC w 12 ∧ wC w 191 = wC w 12
def LiD (w : Wd) : Prop := ∀ i j, i < 3 → j < 3 → ¬ i = j → ∀ x, wR w 2 i 1 = some (300, x) → ¬ wR w 2 j 1 = some (300, x)
def IvU (w : Wd) : Prop := ∃ ρ : Nat → Nat, LiA w 2 (cn w 48) (fun r => (12, ρ r)) ∧ ∀ r, r < cn w 48 → RuS w (ρ r) ∧ RuC w (ρ r) r
def IvQ (w : Wd) : Prop := LiA w 0 (cn w 6) (fun k => (9, k)) ∧ LiA w 1 (cn w 17) (fun j => (10, j)) ∧ IvU w ∧ LiD w
/-- what stands beyond the last place is as it was made -/
def IvX (w : Wd) : Prop := ∀ p, cn w 3 ≤ p → p < 14 → wI w 172 0 p = 0 ∧ wI w 173 p p = 0
def IvY (w : Wd) : Prop := (∀ k, k < cn w 6 → AlS w k ∧ wI w 9 k 0 = wI w 107 0 k ∧ wI w 9 k 1 = wI w 108 0 k ∧ wI w 9 k 2 = wI w 109 0 k) ∧ CpD w ∧ IvX w
/-- the stretches that are taken, with the lots that own them -/
def OwF (w : Wd) (F : List (Ent × Nat)) : Prop := (F.map (fun f => (f.1.1, f.2))).Nodup ∧ (∀ o, (F.filter (fun f => decide (f.2 = o))).length ≤ 13) ∧ ∀ f ∈ F, f.2 < cn w 17 ∧ ∃ d, wI w 125 0 f.2 = nI d ∧ f.1.2 + gfT (grf w) f.1.1 ≤ d ∧ d < 2 ^ 30
def IvE (c : Nat) (w : Wd) : Prop := ∃ F : List (Ent × Nat), CpE w (F.map (fun f => f.1)) ∧ RfE w (F.map (fun f => f.1)) ∧ enB (grf w) (F.map (fun f => f.1)) (1400 * c) ∧ OwF w F
def IvP (w : Wd) : Prop := (wI w 13 0 47 = -1 ∧ wI w 6 0 14 = 0) ∨ ∃ m, 1 ≤ m ∧ m ≤ 4 ∧ wI w 13 0 47 = nI m ∧ wI w 6 0 14 = nI m ∧ ∀ i, i < m → wI w 181 0 i = wI w 143 0 i ∧ wI w 182 0 i = wI w 144 0 i
def IvW (w : Wd) : Prop := wI w 7 0 2 = wI w 13 0 66 ∧ (wI w 13 0 66 = 0 ∨ wI w 13 0 66 = 1) ∧ wI w 7 0 1 = wI w 13 0 67 ∧ ∀ i, i < cn w 67 → wI w 183 0 i = wI w 168 0 i
def IvT (c : Nat) (w : Wd) : Prop := okc w 2 (1000 * c) ∧ okc w 38 c
/-- every mark that is written has an owner -/
def IvK (w : Wd) : Prop := ∀ i, i < cn w 63 → ¬ wI w 165 0 i = -1
def Inv (c : Nat) (w : Wd) : Prop := SSh w ∧ MOk w ∧ Cp0 w ∧ IvN w ∧ IvQ w ∧ (∀ j, j < cn w 17 → LtI c w j) ∧ IvY w ∧ IvE c w ∧ IvP w ∧ IvW w ∧ IvT c w ∧ IvK w
theorem iv_S {c : Nat} {w : Wd} (h : Inv c w) : SSh w := h.1
theorem iv_M {c : Nat} {w : Wd} (h : Inv c w) : MOk w := h.2.1
theorem iv_0 {c : Nat} {w : Wd} (h : Inv c w) : Cp0 w := h.2.2.1
theorem iv_N {c : Nat} {w : Wd} (h : Inv c w) : IvN w := h.2.2.2.1
theorem iv_Q {c : Nat} {w : Wd} (h : Inv c w) : IvQ w := h.2.2.2.2.1
theorem iv_L {c : Nat} {w : Wd} (h : Inv c w) {j : Nat} (hj : j < cn w 17) : LtI c w j := h.2.2.2.2.2.1 j hj
theorem iv_Y {c : Nat} {w : Wd} (h : Inv c w) : IvY w := h.2.2.2.2.2.2.1
theorem iv_E {c : Nat} {w : Wd} (h : Inv c w) : IvE c w := h.2.2.2.2.2.2.2.1
theorem iv_P {c : Nat} {w : Wd} (h : Inv c w) : IvP w := h.2.2.2.2.2.2.2.2.1
theorem iv_W {c : Nat} {w : Wd} (h : Inv c w) : IvW w := h.2.2.2.2.2.2.2.2.2.1
theorem iv_T {c : Nat} {w : Wd} (h : Inv c w) : IvT c w := h.2.2.2.2.2.2.2.2.2.2.1
theorem iv_K {c : Nat} {w : Wd} (h : Inv c w) : IvK w := h.2.2.2.2.2.2.2.2.2.2.2
theorem iv_l {c : Nat} {w : Wd} (h : Inv c w) : Cpl w := ⟨iv_S h, iv_M h, iv_0 h, LiA_S (iv_Q h).2.1, fun _ hj => ⟨(iv_L h hj).1, (iv_L h hj).2.1⟩⟩
theorem iv_r {c : Nat} {w : Wd} (h : Inv c w) : Cpr w := by
  obtain ⟨ρ, h1, h2⟩ := (iv_Q h).2.2.1
  exact ⟨iv_l h, ρ, LiA_S h1, h2⟩
theorem iv_y {c : Nat} {w : Wd} (h : Inv c w) : Cpy w := ⟨iv_S h, iv_0 h, ⟨LiA_S (iv_Q h).1, (iv_Y h).1⟩, (iv_Y h).2.1⟩
/-! worlds that agree where a part looks -/
theorem cn_cg {w w' : Wd} {k : Nat} (h : wI w' 13 0 k = wI w 13 0 k) : cn w' k = cn w k := by unfold cn; rw [h]
theorem okc_cg {w w' : Wd} {k b : Nat} (h : wI w' 13 0 k = wI w 13 0 k) (ho : okc w k b) : okc w' k b := by unfold okc at ho ⊢; rw [cn_cg h, h]; exact ho
theorem MOk_cg {w w' : Wd} (hS : MSh w') (hI : ∀ t k i, (t = 13 ∧ (i = 3 ∨ i = 6 ∨ i = 17 ∨ i = 48 ∨ i = 63 ∨ i = 58 ∨ i = 67 ∨ i = 47)) ∨ t = 123 ∨ t = 153 → wI w' t k i = wI w t k i) (h : MOk w) : MOk w' := by
  obtain ⟨-, h3, h6, h17, hR, h63, h58, h123, h67, h47⟩ := h
  refine ⟨hS, okc_cg (hI _ _ _ (by omega)) h3, okc_cg (hI _ _ _ (by omega)) h6, okc_cg (hI _ _ _ (by omega)) h17, ⟨okc_cg (hI _ _ _ (by omega)) hR.1, fun r hr => ?_⟩, okc_cg (hI _ _ _ (by omega)) h63, okc_cg (hI _ _ _ (by omega)) h58, fun j hj => ?_, okc_cg (hI _ _ _ (by omega)) h67, ?_⟩
  · rw [cn_cg (hI _ _ _ (by omega))] at hr
    unfold cnT
    rw [hI _ _ _ (by omega)]
    exact hR.2 r hr
  · rw [cn_cg (hI _ _ _ (by omega))] at hj
    rw [cn_cg (hI _ _ _ (by omega)), hI _ _ _ (by omega)]
    exact h123 j hj
  · rcases h47 with q | q
    · exact Or.inl (by rw [hI _ _ _ (by omega)]; exact q)
    · exact Or.inr (okc_cg (hI _ _ _ (by omega)) q)
theorem IvN_cg {w w' : Wd} (h2 : w'.2 = w.2) (h6 : wI w' 13 0 6 = wI w 13 0 6) (h17 : wI w' 13 0 17 = wI w 13 0 17) (h : IvN w) : IvN w' := by
  unfold IvN at h ⊢
  simp only [w2_C h2, cn_cg h6, cn_cg h17]
  exact h
theorem LiA_cg {w w' : Wd} {i n : Nat} {el : Nat → Nat × Nat} (h2 : w'.2 = w.2) (hI : wI w' 2 i 2 = wI w 2 i 2) (h : LiA w i n el) : LiA w' i n el := by
  unfold LiA at h ⊢
  simp only [w2_R h2, w2_C h2, w2_N h2, hI]
  exact h
theorem RuC_cg {w w' : Wd} {m r : Nat} (hI : ∀ t k i, (t = 12 ∨ t = 270 ∨ t = 189 ∨ t = 190 ∨ t = 191) ∧ k = m ∨ ((149 ≤ t ∧ t ≤ 153) ∧ i = r) ∨ ((t = 254 ∨ t = 155 ∨ t = 156 ∨ t = 157) ∧ 3 * r ≤ i ∧ i < 3 * r + 3) → wI w' t k i = wI w t k i) (h3 : cnT w r ≤ 3) (h : RuC w m r) : RuC w' m r := by
  obtain ⟨a1, a2, a3, a4, a5, a6, a7⟩ := h
  have ec : cnT w' r = cnT w r := by unfold cnT; rw [hI _ _ _ (by omega)]
  refine ⟨?_, ?_, ?_, ?_, ?_, fun i hi => ?_, ?_⟩
  · rw [hI _ _ _ (by omega), hI _ _ _ (by omega)]; exact a1
  · rw [hI _ _ _ (by omega), hI _ _ _ (by omega)]; exact a2
  · rw [hI _ _ _ (by omega), hI _ _ _ (by omega)]; exact a3
  · rw [hI _ _ _ (by omega), hI _ _ _ (by omega)]; exact a4
  · rw [hI _ _ _ (by omega), hI _ _ _ (by omega)]; exact a5
  · rw [ec] at hi
    rw [hI 270 _ _ (by omega), hI 254 _ _ (by omega), hI 189 _ _ (by omega), hI 155 _ _ (by omega), hI 190 _ _ (by omega), hI 156 _ _ (by omega), hI 191 _ _ (by omega), hI 157 _ _ (by omega)]
    exact a6 i hi
  · rw [hI _ _ _ (by omega)]; exact a7
theorem IvU_cg {w w' : Wd} (h2 : w'.2 = w.2) (hR : okR w) (hI : ∀ t k i, (t = 2 ∧ k = 2) ∨ t = 12 ∨ t = 270 ∨ (189 ≤ t ∧ t ≤ 191) ∨ (149 ≤ t ∧ t ≤ 157) ∨ t = 254 ∨ (t = 13 ∧ i = 48) → wI w' t k i = wI w t k i) (h : IvU w) : IvU w' := by
  obtain ⟨ρ, h1, h3⟩ := h
  have ec : cn w' 48 = cn w 48 := cn_cg (hI _ _ _ (by omega))
  refine ⟨ρ, by rw [ec]; exact LiA_cg h2 (hI _ _ _ (by omega)) h1, fun r hr => ?_⟩
  rw [ec] at hr
  exact ⟨RuS_e (Exw_2 h2) (h3 r hr).1, RuC_cg (fun t k i ht => hI t k i (by omega)) (hR.2 r hr).2 (h3 r hr).2⟩
theorem IvQ_cg {w w' : Wd} (h2 : w'.2 = w.2) (hR : okR w) (hI : ∀ t k i, t = 2 ∨ t = 12 ∨ t = 270 ∨ (189 ≤ t ∧ t ≤ 191) ∨ (149 ≤ t ∧ t ≤ 157) ∨ t = 254 ∨ (t = 13 ∧ (i = 48 ∨ i = 6 ∨ i = 17)) → wI w' t k i = wI w t k i) (h : IvQ w) : IvQ w' := by
  obtain ⟨a1, a2, a3, a4⟩ := h
  refine ⟨?_, ?_, IvU_cg h2 hR (fun t k i ht => hI t k i (by omega)) a3, fun i j hi hj hn x hx => ?_⟩
  · rw [cn_cg (hI _ _ _ (by omega))]; exact LiA_cg h2 (hI _ _ _ (by omega)) a1
  · rw [cn_cg (hI _ _ _ (by omega))]; exact LiA_cg h2 (hI _ _ _ (by omega)) a2
  · rw [w2_R h2] at hx ⊢; exact a4 i j hi hj hn x hx
theorem LtC_cg {w w' : Wd} {j : Nat} (hI : ∀ t k i, ((t = 10 ∨ t = 11 ∨ t = 187 ∨ t = 188) ∧ k = j) ∨ (((118 ≤ t ∧ t ≤ 134) ∨ t = 227 ∨ t = 230 ∨ t = 239) ∧ i = j) ∨ ((t = 235 ∨ t = 136 ∨ t = 137) ∧ 5 * j ≤ i ∧ i < 5 * j + 5) → wI w' t k i = wI w t k i) (h : LtC w j) : LtC w' j := by
  have e1 := fun t k i h => hI t k i (Or.inl h)
  have e2 := fun t k i h => hI t k i (Or.inr (Or.inl h))
  obtain ⟨a1, a2, a3, a4, a5, a6, a7, a8, a9, b1, b2, b3, b4, b5, b6, b7, b8⟩ := h
  refine ⟨?_, ?_, ?_, ?_, ?_, ?_, ?_, ?_, ?_, ?_, ?_, ?_, ?_, ?_, fun b hb => ?_, fun b hb => ?_, ?_⟩
  · rw [hI 10 _ _ (by omega), hI 121 _ _ (by omega)]; exact a1
  · rw [hI 10 _ _ (by omega), hI 122 _ _ (by omega)]; exact a2
  · rw [hI 10 _ _ (by omega), hI 118 _ _ (by omega)]; exact a3
  · rw [hI 10 _ _ (by omega), hI 119 _ _ (by omega)]; exact a4
  · rw [hI 10 _ _ (by omega), hI 120 _ _ (by omega)]; exact a5
  · rw [hI 10 _ _ (by omega), hI 126 _ _ (by omega)]; exact a6
  · rw [hI 10 _ _ (by omega), hI 123 _ _ (by omega)]; exact a7
  · rw [hI 10 _ _ (by omega), hI 124 _ _ (by omega)]; exact a8
  · rw [hI 10 _ _ (by omega), hI 125 _ _ (by omega)]; exact a9
  · rw [hI 10 _ _ (by omega), hI 227 _ _ (by omega)]; exact b1
  · rw [hI 11 _ _ (by omega), hI 128 _ _ (by omega)]; exact b2
  · rw [hI 11 _ _ (by omega), hI 230 _ _ (by omega)]; exact b3
  · rw [hI 11 _ _ (by omega), hI 239 _ _ (by omega)]; exact b4
  · rw [hI 11 _ _ (by omega), hI 134 _ _ (by omega)]; exact b5
  · rw [hI 187 _ _ (by omega), hI 136 _ _ (by omega)]; exact b6 b hb
  · rw [hI 11 _ _ (by omega), hI 235 _ _ (by omega)]; exact b7 b hb
  · rw [hI 128 _ _ (by omega), hI 11 _ 4 (by omega), hI 129 _ _ (by omega), hI 118 _ _ (by omega), hI 230 _ _ (by omega), hI 11 _ 5 (by omega), hI 133 _ _ (by omega), hI 11 _ 6 (by omega), hI 120 _ _ (by omega), hI 132 _ _ (by omega), hI 11 _ 8 (by omega), hI 131 _ _ (by omega), hI 227 _ _ (by omega), hI 134 _ _ (by omega), hI 119 _ _ (by omega), hI 123 _ _ (by omega), hI 124 _ _ (by omega), hI 125 _ _ (by omega)]
    exact b8
theorem BdC_cg {c c' : Nat} {w w' : Wd} {j : Nat} (hc : c ≤ c') (h38 : cn w 38 ≤ cn w' 38) (hI : ∀ t k i, ((t = 11 ∨ t = 188) ∧ k = j) ∨ ((t = 136 ∨ t = 137) ∧ 5 * j ≤ i ∧ i < 5 * j + 5) → wI w' t k i = wI w t k i) (h : BdC c w j) : BdC c' w' j := by
  obtain ⟨T, h1, h2, x, y, h3⟩ := h
  refine ⟨T, by rw [hI _ _ _ (by omega)]; exact h1, by omega, x, y, fun b hb hn => ?_⟩
  rw [hI _ _ _ (by omega)] at hn
  obtain ⟨q1, q2, q3, q4, q5⟩ := h3 b hb hn
  refine ⟨by rw [hI _ _ _ (by omega)]; exact q1, by rw [hI _ _ _ (by omega)]; exact q2, q3, by omega, fun b' hb' hn' => ?_⟩
  rw [hI _ _ _ (by omega)] at hn'
  exact q5 b' hb' hn'
theorem GoC_cg {c c' : Nat} {w w' : Wd} {j : Nat} (hc : c ≤ c') (h3 : cn w 3 ≤ cn w' 3) (h4 : wI w' 124 0 j = wI w 124 0 j) (h5 : wI w' 125 0 j = wI w 125 0 j) (h8 : inR (wI w' 118 0 j) 0 3 = true) (h9 : WgC w' j) (h : GoC c w j) : GoC c' w' j := by
  obtain ⟨a, b, -, -⟩ := h
  unfold GoC
  rw [h4, h5]
  refine ⟨a.imp id fun ⟨p, q1, q2⟩ => ⟨p, by omega, q2⟩, b.imp id fun ⟨d, q1, q2⟩ => ⟨d, by omega, q2⟩, h8, h9⟩
theorem LtI_cg {c c' : Nat} {w w' : Wd} {j : Nat} (hE : Exw w w') (hc : c ≤ c') (h3 : cn w 3 ≤ cn w' 3) (h38 : cn w 38 ≤ cn w' 38) (hI : ∀ t k i, ((t = 10 ∨ t = 11 ∨ t = 187 ∨ t = 188) ∧ k = j) ∨ (((118 ≤ t ∧ t ≤ 134) ∨ t = 227 ∨ t = 230 ∨ t = 239) ∧ i = j) ∨ ((t = 235 ∨ t = 136 ∨ t = 137) ∧ 5 * j ≤ i ∧ i < 5 * j + 5) → wI w' t k i = wI w t k i) (h : LtI c w j) : LtI c' w' j :=
  ⟨LtS_e hE h.1, LtC_cg hI h.2.1, BdC_cg hc h38 (fun t k i ht => hI t k i (by omega)) h.2.2.1, GoC_cg hc h3 (hI _ _ _ (by omega)) (hI _ _ _ (by omega)) (by rw [hI 118 _ _ (by omega)]; exact h.2.2.2.2.2.1) (WgC_cg (fun t ht => hI t 0 j (by omega)) h.2.2.2.2.2.2) h.2.2.2⟩
theorem grf_cg {w w' : Wd} (hI : ∀ t k i, (107 ≤ t ∧ t ≤ 109) ∨ (t = 13 ∧ i = 6) → wI w' t k i = wI w t k i) : grf w' = grf w := by
  unfold grf
  rw [cn_cg (hI _ _ _ (by omega))]
  have e1 : (fun k => (wI w' 107 0 k).toNatClampNeg) = fun k => (wI w 107 0 k).toNatClampNeg := funext fun k => by rw [hI _ _ _ (by omega)]
  have e2 : (fun k => (wI w' 108 0 k).toNatClampNeg) = fun k => (wI w 108 0 k).toNatClampNeg := funext fun k => by rw [hI _ _ _ (by omega)]
  have e3 : (fun k => (wI w' 109 0 k).toNatClampNeg) = fun k => (wI w 109 0 k).toNatClampNeg := funext fun k => by rw [hI _ _ _ (by omega)]
  rw [e1, e2, e3]
theorem wkOk_cg {w w' : Wd} (hS : MSh w') (hI : ∀ t k i, (107 ≤ t ∧ t ≤ 109) ∨ (t = 13 ∧ (i = 6 ∨ i = 3)) → wI w' t k i = wI w t k i) (h : wkOk w) : wkOk w' := by
  obtain ⟨-, h3, h6, hA, hg, hD⟩ := h
  have eg := grf_cg (w := w) (w' := w') fun t k i ht => hI t k i (by omega)
  refine ⟨hS, okc_cg (hI _ _ _ (by omega)) h3, okc_cg (hI _ _ _ (by omega)) h6, fun k hk => ?_, ?_, ?_⟩
  · rw [cn_cg (hI _ _ _ (by omega))] at hk
    rw [eg, hI _ _ _ (by omega), hI _ _ _ (by omega), hI _ _ _ (by omega)]
    exact hA k hk
  · rw [eg, cn_cg (hI _ _ _ (by omega))]; exact hg
  · rw [eg, cn_cg (hI _ _ _ (by omega))]; exact hD
theorem IvY_cg {w w' : Wd} (hE : Exw w w') (hS : MSh w') (hI : ∀ t k i, (107 ≤ t ∧ t ≤ 109) ∨ (t = 13 ∧ (i = 6 ∨ i = 3)) ∨ t = 173 ∨ (t = 9 ∧ i < 3) ∨ (t = 172 ∧ cn w 3 ≤ i) → wI w' t k i = wI w t k i) (h : IvY w) : IvY w' := by
  have eg := grf_cg (w := w) (w' := w') fun t k i ht => hI t k i (by omega)
  refine ⟨fun k hk => ?_, ⟨wkOk_cg hS (fun t k i ht => hI t k i (by omega)) h.2.1.1, fun i j hi hj => ?_⟩, fun p hp hp2 => ?_⟩
  · rw [cn_cg (hI _ _ _ (by omega))] at hk
    obtain ⟨q1, q2, q3, q4⟩ := h.1 k hk
    rw [hI 9 _ _ (by omega), hI 9 _ _ (by omega), hI 9 _ _ (by omega), hI 107 _ _ (by omega), hI 108 _ _ (by omega), hI 109 _ _ (by omega)]
    exact ⟨AlS_e hE q1, q2, q3, q4⟩
  · rw [cn_cg (hI _ _ _ (by omega))] at hi hj
    unfold dsM
    rw [hI _ _ _ (by omega), eg, cn_cg (hI _ _ _ (by omega))]
    exact h.2.1.2 i j hi hj
  · rw [cn_cg (hI _ _ _ (by omega))] at hp
    rw [hI _ _ _ (by omega), hI _ _ _ (by omega)]
    exact h.2.2 p hp hp2
theorem CpE_cg {w w' : Wd} {E : List Ent} (hE : Exw w w') (hI : ∀ t k i, (t = 9 ∨ t = 186) ∨ (t = 13 ∧ i = 6) → wI w' t k i = wI w t k i) (h : CpE w E) : CpE w' E := by
  intro k hk
  rw [cn_cg (hI _ _ _ (by omega))] at hk
  obtain ⟨⟨a1, a2, a3, a4, a5, a6⟩, b⟩ := h k hk
  have e1 : szA w' k = szA w k := by unfold szA; rw [hI _ _ _ (by omega)]
  have e2 : mnA w' k = mnA w k := by unfold mnA; rw [hI _ _ _ (by omega)]
  have e3 : tkv w' k = tkv w k := funext fun i => by unfold tkv; rw [hI _ _ _ (by omega)]
  refine ⟨⟨AlS_e hE a1, by rw [e1, hI _ _ _ (by omega)]; exact a2, by rw [e1]; exact a3, by rw [e2, hI _ _ _ (by omega)]; exact a4, by rw [e2]; exact a5, fun i hi => ?_⟩, by rw [e1, e3]; exact b⟩
  rw [e1] at hi
  rw [hI _ _ _ (by omega), e3]
  exact a6 i hi
theorem OwF_cg {w w' : Wd} {F : List (Ent × Nat)} (hg : grf w' = grf w) (h17 : cn w 17 ≤ cn w' 17) (h5 : ∀ j, j < cn w 17 → wI w' 125 0 j = wI w 125 0 j) (h : OwF w F) : OwF w' F := by
  obtain ⟨a, b, c⟩ := h
  refine ⟨a, b, fun f hf => ?_⟩
  obtain ⟨q1, d, q2, q3⟩ := c f hf
  exact ⟨by omega, d, by rw [h5 _ q1]; exact q2, by rw [hg]; exact q3⟩
theorem enB_up {g : Gf} {E : List Ent} {B B' : Nat} (hB : B ≤ B') (h : enB g E B) : enB g E B' := fun e he => ⟨(h e he).1, by have := (h e he).2; omega⟩
theorem IvE_cg {c c' : Nat} {w w' : Wd} (hE : Exw w w') (hc : c ≤ c') (hI : ∀ t k i, (t = 9 ∨ t = 186) ∨ (107 ≤ t ∧ t ≤ 109) ∨ (114 ≤ t ∧ t ≤ 116) ∨ t = 125 ∨ (t = 13 ∧ (i = 6 ∨ i = 13 ∨ i = 17)) → wI w' t k i = wI w t k i) (h : IvE c w) : IvE c' w' := by
  obtain ⟨F, h1, h2, h3, h4⟩ := h
  have eg := grf_cg (w := w) (w' := w') fun t k i ht => hI t k i (by omega)
  refine ⟨F, CpE_cg hE (fun t k i ht => hI t k i (by omega)) h1, RfE_eq h2 eg (hI _ _ _ (by omega)) (fun i _ => ⟨hI _ _ _ (by omega), hI _ _ _ (by omega), hI _ _ _ (by omega)⟩), by rw [eg]; exact enB_up (by omega) h3, OwF_cg eg (by rw [cn_cg (hI _ _ _ (by omega))]; exact Nat.le_refl _) (fun j _ => hI _ _ _ (by omega)) h4⟩
theorem IvP_cg {w w' : Wd} (hI : ∀ t k i, (t = 13 ∧ i = 47) ∨ (t = 6 ∧ i = 14) ∨ t = 181 ∨ t = 182 ∨ t = 143 ∨ t = 144 → wI w' t k i = wI w t k i) (h : IvP w) : IvP w' := by
  rcases h with ⟨q1, q2⟩ | ⟨m, q1, q2, q3, q4, q5⟩
  · exact Or.inl ⟨by rw [hI _ _ _ (by omega)]; exact q1, by rw [hI _ _ _ (by omega)]; exact q2⟩
  · refine Or.inr ⟨m, q1, q2, by rw [hI _ _ _ (by omega)]; exact q3, by rw [hI _ _ _ (by omega)]; exact q4, fun i hi => ?_⟩
    rw [hI _ _ _ (by omega), hI _ _ _ (by omega), hI _ _ _ (by omega), hI _ _ _ (by omega)]
    exact q5 i hi
theorem IvW_cg {w w' : Wd} (hI : ∀ t k i, (t = 13 ∧ (i = 66 ∨ i = 67)) ∨ t = 7 ∨ t = 183 ∨ t = 168 → wI w' t k i = wI w t k i) (h : IvW w) : IvW w' := by
  obtain ⟨q1, q2, q3, q4⟩ := h
  refine ⟨?_, ?_, ?_, fun i hi => ?_⟩
  · rw [hI _ _ _ (by omega), hI _ _ _ (by omega)]; exact q1
  · rw [hI _ _ _ (by omega)]; exact q2
  · rw [hI _ _ _ (by omega), hI _ _ _ (by omega)]; exact q3
  · rw [cn_cg (hI _ _ _ (by omega))] at hi
    rw [hI _ _ _ (by omega), hI _ _ _ (by omega)]; exact q4 i hi
theorem okc_up {w : Wd} {k b b' : Nat} (h : okc w k b) (hb : b ≤ b') : okc w k b' := ⟨h.1, Nat.le_trans h.2 hb⟩
theorem IvT_cg {c c' : Nat} {w w' : Wd} (hc : c ≤ c') (h2 : wI w' 13 0 2 = wI w 13 0 2) (h38 : wI w' 13 0 38 = wI w 13 0 38) (h : IvT c w) : IvT c' w' := ⟨okc_up (okc_cg h2 h.1) (by omega), okc_up (okc_cg h38 h.2) hc⟩
theorem IvK_cg {w w' : Wd} (h63 : wI w' 13 0 63 = wI w 13 0 63) (hI : ∀ i, wI w' 165 0 i = wI w 165 0 i) (h : IvK w) : IvK w' := fun i hi => by
  rw [cn_cg h63] at hi
  rw [hI]
  exact h i hi
/-- all that the invariant looks at, but for the cells of Cp0 alone -/
def K1 (t : Nat) : Prop := t = 2 ∨ t = 7 ∨ (9 ≤ t ∧ t ≤ 12)
def K2 (t i : Nat) : Prop := t = 13 ∧ (i = 2 ∨ i = 3 ∨ i = 6 ∨ i = 13 ∨ i = 17 ∨ i = 38 ∨ i = 47 ∨ i = 48 ∨ i = 66 ∨ i = 67)
def K3 (t : Nat) : Prop := (107 ≤ t ∧ t ≤ 109) ∨ (114 ≤ t ∧ t ≤ 137) ∨ (143 ≤ t ∧ t ≤ 144) ∨ (149 ≤ t ∧ t ≤ 157) ∨ t = 168
def K4 (t : Nat) : Prop := t = 173 ∨ (181 ≤ t ∧ t ≤ 183) ∨ (186 ≤ t ∧ t ≤ 191)
def K5 (t : Nat) : Prop := t = 227 ∨ t = 230 ∨ t = 235 ∨ t = 239 ∨ t = 254 ∨ t = 270
def Kp (t i : Nat) : Prop := K1 t ∨ K2 t i ∨ K3 t ∨ K4 t ∨ K5 t ∨ (t = 6 ∧ i = 14)
theorem Inv_cg2 {c c' : Nat} {w w' : Wd} (hc : c ≤ c') (h2 : w'.2 = w.2) (hMO : MOk w') (h0 : Cp0 w') (hK : IvK w') (hX : ∀ k i, cn w 3 ≤ i → wI w' 172 k i = wI w 172 k i) (hI : ∀ t k i, Kp t i → wI w' t k i = wI w t k i) (h : Inv c w) : Inv c' w' := by
  have g1 := fun t k i (ht : t = 2 ∨ t = 7 ∨ (9 ≤ t ∧ t ≤ 12)) => hI t k i (Or.inl ht)
  have g2 := fun i (ht : i = 2 ∨ i = 3 ∨ i = 6 ∨ i = 13 ∨ i = 17 ∨ i = 38 ∨ i = 47 ∨ i = 48 ∨ i = 66 ∨ i = 67) k => hI 13 k i (Or.inr (Or.inl ⟨rfl, ht⟩))
  have g3 := fun t k i (ht : (107 ≤ t ∧ t ≤ 109) ∨ (114 ≤ t ∧ t ≤ 137) ∨ (143 ≤ t ∧ t ≤ 144) ∨ (149 ≤ t ∧ t ≤ 157) ∨ t = 168) => hI t k i (Or.inr (Or.inr (Or.inl ht)))
  have g4 := fun t k i (ht : t = 173 ∨ (181 ≤ t ∧ t ≤ 183) ∨ (186 ≤ t ∧ t ≤ 191)) => hI t k i (Or.inr (Or.inr (Or.inr (Or.inl ht))))
  have g5 := fun t k i (ht : t = 227 ∨ t = 230 ∨ t = 235 ∨ t = 239 ∨ t = 254 ∨ t = 270) => hI t k i (Or.inr (Or.inr (Or.inr (Or.inr (Or.inl ht)))))
  have g6 := fun k => hI 6 k 14 (Or.inr (Or.inr (Or.inr (Or.inr (Or.inr ⟨rfl, rfl⟩)))))
  have hM := MSh_of (iv_M h).1 h2
  have e3 := cn_cg (w := w) (w' := w') (g2 3 (by decide) 0)
  have e17 := cn_cg (w := w) (w' := w') (g2 17 (by decide) 0)
  have e38 := cn_cg (w := w) (w' := w') (g2 38 (by decide) 0)
  refine ⟨SSh_of (iv_S h) h2, hMO, h0, IvN_cg h2 (g2 6 (by decide) 0) (g2 17 (by decide) 0) (iv_N h), IvQ_cg h2 (iv_M h).2.2.2.2.1 (fun t k i ht => ?_) (iv_Q h), fun j hj => LtI_cg (Exw_2 h2) hc (by omega) (by omega) (fun t k i ht => ?_) (iv_L h (by omega)), IvY_cg (Exw_2 h2) hM (fun t k i ht => ?_) (iv_Y h), IvE_cg (Exw_2 h2) hc (fun t k i ht => ?_) (iv_E h), IvP_cg (fun t k i ht => ?_) (iv_P h), IvW_cg (fun t k i ht => ?_) (iv_W h), IvT_cg hc (g2 2 (by decide) 0) (g2 38 (by decide) 0) (iv_T h), hK⟩
  · rcases ht with rfl | rfl | rfl | ht | ht | rfl | ⟨rfl, ht⟩
    · exact g1 _ k i (by omega)
    · exact g1 _ k i (by omega)
    · exact g5 _ k i (by omega)
    · exact g4 t k i (by omega)
    · exact g3 t k i (by omega)
    · exact g5 _ k i (by omega)
    · exact g2 i (by omega) k
  · rcases ht with ⟨rfl | rfl | rfl | rfl, -⟩ | ⟨ht | rfl | rfl | rfl, -⟩ | ⟨rfl | rfl | rfl, -⟩
    · exact g1 _ k i (by omega)
    · exact g1 _ k i (by omega)
    · exact g4 _ k i (by omega)
    · exact g4 _ k i (by omega)
    · exact g3 _ k i (by omega)
    · exact g5 _ k i (by omega)
    · exact g5 _ k i (by omega)
    · exact g5 _ k i (by omega)
    · exact g5 _ k i (by omega)
    · exact g3 _ k i (by omega)
    · exact g3 _ k i (by omega)
  · rcases ht with ht | ⟨rfl, ht⟩ | rfl | ⟨rfl, -⟩ | ⟨rfl, ht⟩
    · exact g3 _ k i (by omega)
    · exact g2 i (by omega) k
    · exact g4 _ k i (by omega)
    · exact g1 _ k i (by omega)
    · exact hX k i ht
  · rcases ht with (rfl | rfl) | ht | ht | rfl | ⟨rfl, ht⟩
    · exact g1 _ k i (by omega)
    · exact g4 _ k i (by omega)
    · exact g3 _ k i (by omega)
    · exact g3 _ k i (by omega)
    · exact g3 _ k i (by omega)
    · exact g2 i (by omega) k
  · rcases ht with ⟨rfl, rfl⟩ | ⟨rfl, rfl⟩ | rfl | rfl | rfl | rfl
    · exact g2 _ (by decide) k
    · exact g6 k
    · exact g4 _ k i (by omega)
    · exact g4 _ k i (by omega)
    · exact g3 _ k i (by omega)
    · exact g3 _ k i (by omega)
  · rcases ht with ⟨rfl, ht⟩ | rfl | rfl | rfl
    · exact g2 i (by omega) k
    · exact g1 _ k i (by omega)
    · exact g4 _ k i (by omega)
    · exact g3 _ k i (by omega)
theorem Inv_cg {c c' : Nat} {w w' : Wd} (hc : c ≤ c') (h2 : w'.2 = w.2) (h0 : Cp0 w') (hI : ∀ t k i, Kp t i ∨ (t = 13 ∧ (i = 58 ∨ i = 63)) ∨ t = 165 ∨ (t = 172 ∧ cn w 3 ≤ i) → wI w' t k i = wI w t k i) (h : Inv c w) : Inv c' w' := by
  have g2 := fun i (ht : i = 2 ∨ i = 3 ∨ i = 6 ∨ i = 13 ∨ i = 17 ∨ i = 38 ∨ i = 47 ∨ i = 48 ∨ i = 66 ∨ i = 67) k => hI 13 k i (Or.inl (Or.inr (Or.inl ⟨rfl, ht⟩)))
  have g3 := fun t k i (ht : (107 ≤ t ∧ t ≤ 109) ∨ (114 ≤ t ∧ t ≤ 137) ∨ (143 ≤ t ∧ t ≤ 144) ∨ (149 ≤ t ∧ t ≤ 157) ∨ t = 168) => hI t k i (Or.inl (Or.inr (Or.inr (Or.inl ht))))
  refine Inv_cg2 hc h2 (MOk_cg (MSh_of (iv_M h).1 h2) (fun t k i ht => ?_) (iv_M h)) h0 (IvK_cg (hI _ _ _ (Or.inr (Or.inl ⟨rfl, Or.inr rfl⟩))) (fun i => hI _ _ _ (Or.inr (Or.inr (Or.inl rfl)))) (iv_K h)) (fun k i hi => hI _ _ _ (Or.inr (Or.inr (Or.inr ⟨rfl, hi⟩)))) (fun t k i ht => hI t k i (Or.inl ht)) h
  rcases ht with ⟨rfl, ht⟩ | rfl | rfl
  · by_cases q : i = 58 ∨ i = 63
    · exact hI _ _ _ (Or.inr (Or.inl ⟨rfl, q⟩))
    · exact g2 i (by omega) k
  · exact g3 _ k i (by omega)
  · exact g3 _ k i (by omega)
theorem Inv_up {c : Nat} {w : Wd} (h : Inv c w) : Inv (c + 1) w := Inv_cg (c := c) (w := w) (by omega) rfl (iv_0 h) (fun _ _ _ _ => rfl) h
theorem Inv_rf {c b : Nat} {w : Wd} (h : Inv c w) : Inv (c + 1) (rfz (rfs w b) b) := by
  have Kp_101 : ∀ {t i}, Kp t i → ¬ t = 101 := fun {t i} ht hn => by subst hn; revert ht; simp [Kp, K1, K2, K3, K4, K5]
  have Kp_170 : ∀ {t i}, Kp t i → ¬ t = 170 := fun {t i} ht hn => by subst hn; revert ht; simp [Kp, K1, K2, K3, K4, K5]
  have e : ∀ t k i, wI (rfz (rfs w b) b) t k i = if t = 101 ∧ k = 0 ∧ i = b then wI w 101 0 b + 1 else if t = 170 ∧ k = 0 ∧ i = b then wI w 170 0 b + 1 else wI w t k i := fun t k i => by
    unfold rfz rfs
    rw [yI_sI, yI_sI, yI_sI, if_neg (show ¬ (101 = 170 ∧ 0 = 0 ∧ b = b) by omega)]
  have hn : ∀ t k i, ¬ t = 101 → ¬ t = 170 → wI (rfz (rfs w b) b) t k i = wI w t k i := fun t k i h1 h2 => by rw [e, if_neg (by omega), if_neg (by omega)]
  refine Inv_cg (c := c) (w := w) (by omega) rfl ?_ (fun t k i ht => hn t k i (ht.elim Kp_101 (by omega)) (ht.elim Kp_170 (by omega))) h
  obtain ⟨c1, c2, c3, c4, c5, c6, c7, c8⟩ := iv_0 h
  have hcn : ∀ k, cn (rfz (rfs w b) b) k = cn w k := fun k => cn_cg (hn _ _ _ (by omega) (by omega))
  refine ⟨?_, ?_, ?_, ?_, fun b' hb => ?_, fun p hp => ?_, fun i hi => ?_, fun i hi => ?_⟩
  · rw [hn _ _ _ (by omega) (by omega), hn _ _ _ (by omega) (by omega)]; exact c1
  · rw [hn _ _ _ (by omega) (by omega), hn _ _ _ (by omega) (by omega)]; exact c2
  · rw [hn _ _ _ (by omega) (by omega), hn _ _ _ (by omega) (by omega)]; exact c3
  · rw [hn _ _ _ (by omega) (by omega), hn _ _ _ (by omega) (by omega)]; exact c4
  · by_cases q : b' = b
    · subst q
      rw [e, e, if_neg (by omega), if_pos ⟨rfl, rfl, rfl⟩, if_pos ⟨rfl, rfl, rfl⟩, c5 b' hb]
    · rw [e, e, if_neg (by omega), if_neg (by omega), if_neg (by omega), if_neg (by omega)]; exact c5 b' hb
  · rw [hcn] at hp; rw [hn _ _ _ (by omega) (by omega), hn _ _ _ (by omega) (by omega), hn _ _ _ (by omega) (by omega), hn _ _ _ (by omega) (by omega)]; exact c6 p hp
  · rw [hcn] at hi; rw [hn _ _ _ (by omega) (by omega), hn _ _ _ (by omega) (by omega)]; exact c7 i hi
  · rw [hcn] at hi; rw [hn _ _ _ (by omega) (by omega), hn _ _ _ (by omega) (by omega), hn _ _ _ (by omega) (by omega), hn _ _ _ (by omega) (by omega)]; exact c8 i hi
