/-! calls: a lot more -/
def msk1 (w : Wd) : Wd := (fun t k i => if isC t = true then 0 else w.1 t k i, (fun _ _ _ => none, fun _ => 0, fun _ _ => 0))
theorem mskE1 {α : Sort _} {f : Wd → α} {w w' : Wd} (hf : ∀ w, f (msk1 w) = f w) (hI : ∀ t k i, isC t = false → wI w' t k i = wI w t k i) : f w' = f w := by
  have e : msk1 w' = msk1 w := by
    refine Wd_eq (fun t k i => ?_) rfl
    have e : ∀ v : Wd, wI (msk1 v) t k i = if isC t = true then 0 else wI v t k i := fun _ => rfl
    rw [e, e]
    cases hc : isC t with
    | true => rfl
    | false => rw [hI t k i hc]
  rw [← hf w', e, hf]
/-- the world with a new lot, before it stands in the list -/
def nlW (w : Wd) (a b c d e f g : Int32) : Wd := oiW (nC w 10 0) (wC w 10) a b c d e f g
theorem nlW_I (w : Wd) (a b c d e f g : Int32) (s k q : Nat) (h : ¬ ((s = 10 ∧ k = wC w 10) ∨ (s = 11 ∧ k = wC w 11) ∨ (s = 187 ∧ k = wC w 187) ∨ (s = 188 ∧ k = wC w 188))) : wI (nlW w a b c d e f g) s k q = wI w s k q := by
  unfold nlW oiW eiW
  simp only [yI_sI, yI_sR, yI_nC, yC_nC, yC_sI, yC_sR, Nat.reduceEqDiff, if_false]
  rw [if_neg (by omega), if_neg (by omega), if_neg (by omega), if_neg (by omega), if_neg (by omega), if_neg (by omega), if_neg (by omega), if_neg (by omega), if_neg (by omega), if_neg (by omega), if_neg (by omega), if_neg (by omega), if_neg (by omega), if_neg (by omega), if_neg (by omega), if_neg (by omega), if_neg (by omega), if_neg (by omega), if_neg (by omega), if_neg (by omega), if_neg (by omega), if_neg (by omega), if_neg (by omega)]
theorem nlW_v (w : Wd) (a b c d e f g : Int32) : wI (nlW w a b c d e f g) 10 (wC w 10) 0 = d ∧ wI (nlW w a b c d e f g) 10 (wC w 10) 1 = e ∧ wI (nlW w a b c d e f g) 10 (wC w 10) 3 = a ∧ wI (nlW w a b c d e f g) 10 (wC w 10) 4 = b ∧ wI (nlW w a b c d e f g) 10 (wC w 10) 5 = c ∧ wI (nlW w a b c d e f g) 10 (wC w 10) 6 = f ∧ wI (nlW w a b c d e f g) 10 (wC w 10) 7 = g ∧ wI (nlW w a b c d e f g) 10 (wC w 10) 8 = -1 ∧ wI (nlW w a b c d e f g) 10 (wC w 10) 9 = -1 ∧ wI (nlW w a b c d e f g) 10 (wC w 10) 10 = 0 ∧ wI (nlW w a b c d e f g) 11 (wC w 11) 2 = 0 ∧ wI (nlW w a b c d e f g) 11 (wC w 11) 3 = 0 ∧ wI (nlW w a b c d e f g) 11 (wC w 11) 7 = -1 ∧ wI (nlW w a b c d e f g) 11 (wC w 11) 9 = 0 ∧ wI (nlW w a b c d e f g) 11 (wC w 11) 10 = -1 ∧ ∀ i, wI (nlW w a b c d e f g) 187 (wC w 187) i = 0 := by
  unfold nlW oiW eiW
  simp only [yI_sI, yI_sR, yI_nC, yC_nC, yC_sI, yC_sR, Nat.reduceEqDiff, false_and, and_false, and_true, true_and, and_self, if_false, if_true, implies_true]
theorem nlW_R (w : Wd) (a b c d e f g : Int32) (s k q : Nat) : wR (nlW w a b c d e f g) s k q = if s = 10 ∧ k = wC w 10 ∧ q = 2 then some (11, wC w 11) else if s = 11 ∧ k = wC w 11 ∧ q = 1 then some (188, wC w 188) else if s = 188 ∧ k = wC w 188 then none else if s = 11 ∧ k = wC w 11 ∧ q = 0 then some (187, wC w 187) else if s = 187 ∧ k = wC w 187 then none else if s = 11 ∧ k = wC w 11 then none else if s = 10 ∧ k = wC w 10 then none else wR w s k q := by
  unfold nlW oiW eiW
  simp only [yR_sI, yR_sR, yR_nC, yC_nC, yC_sI, yC_sR, Nat.reduceEqDiff, if_false]
theorem nlW_C (w : Wd) (a b c d e f g : Int32) (s : Nat) : wC (nlW w a b c d e f g) s = if s = 188 then wC w 188 + 1 else if s = 187 then wC w 187 + 1 else if s = 11 then wC w 11 + 1 else if s = 10 then wC w 10 + 1 else wC w s := by
  unfold nlW oiW eiW
  simp only [yC_nC, yC_sI, yC_sR, Nat.reduceEqDiff, if_false]
theorem nlW_N (w : Wd) (a b c d e f g : Int32) (s k : Nat) : wN (nlW w a b c d e f g) s k = if s = 188 ∧ k = wC w 188 then 5 else if s = 187 ∧ k = wC w 187 then 5 else if s = 11 ∧ k = wC w 11 then 0 else if s = 10 ∧ k = wC w 10 then 0 else wN w s k := by
  unfold nlW oiW eiW
  simp only [yN_sI, yN_sR, yN_nC, yC_nC, yC_sI, yC_sR, Nat.reduceEqDiff, if_false]
theorem cmL_I (w : Wd) (n : Nat) : ∀ b t k i, wI (cmL w n b) t k i = if (t = 235 ∨ t = 136) ∧ k = 0 ∧ 5 * n ≤ i ∧ i < 5 * n + b then 0 else wI w t k i
  | 0, t, k, i => by rw [if_neg (by omega)]; rfl
  | b + 1, t, k, i => by
    rw [cmL, yI_sI, yI_sI, cmL_I w n b]
    by_cases c : (t = 235 ∨ t = 136) ∧ k = 0 ∧ i = 5 * n + b
    · rw [if_pos (show (t = 235 ∨ t = 136) ∧ k = 0 ∧ 5 * n ≤ i ∧ i < 5 * n + (b + 1) by omega)]
      rcases c.1 with rfl | rfl
      · rw [if_neg (by omega), if_pos ⟨rfl, c.2⟩]
      · rw [if_pos ⟨rfl, c.2⟩]
    · rw [if_neg (by omega), if_neg (by omega)]
      by_cases d : (t = 235 ∨ t = 136) ∧ k = 0 ∧ 5 * n ≤ i ∧ i < 5 * n + b
      · rw [if_pos d, if_pos (by omega)]
      · rw [if_neg d, if_neg (by omega)]
theorem cmU_n (w : Wd) (k o h lb m p wet : Int32) (t q i : Nat) (hn : ¬ ((t = 13 ∧ i = 17) ∨ (((118 ≤ t ∧ t ≤ 134) ∨ t = 227 ∨ t = 230 ∨ t = 239) ∧ i = cn w 17) ∨ ((t = 235 ∨ t = 136) ∧ 5 * cn w 17 ≤ i ∧ i < 5 * cn w 17 + 5))) : wI (cmU w k o h lb m p wet) t q i = wI w t q i := by
  unfold cmU
  rw [yI_sI, if_neg (by omega), cmL_I, if_neg (by omega)]
  unfold cmW
  simp only [yI_sI]
  rw [if_neg (by omega), if_neg (by omega), if_neg (by omega), if_neg (by omega), if_neg (by omega), if_neg (by omega), if_neg (by omega), if_neg (by omega), if_neg (by omega), if_neg (by omega), if_neg (by omega), if_neg (by omega), if_neg (by omega), if_neg (by omega), if_neg (by omega)]
theorem cmU_w (w : Wd) (k o h lb m p wet : Int32) (t : Nat) (h1 : ¬ t = 13) (h2 : ¬ (t = 235 ∨ t = 136)) : wI (cmU w k o h lb m p wet) t 0 (cn w 17) = wI (cmW w k o h lb m p wet) t 0 (cn w 17) := by
  unfold cmU
  rw [yI_sI, if_neg (by omega), cmL_I, if_neg (by omega)]
theorem cmU_v (w : Wd) (k o h lb m p wet : Int32) : wI (cmU w k o h lb m p wet) 118 0 (cn w 17) = k ∧ wI (cmU w k o h lb m p wet) 119 0 (cn w 17) = o ∧ wI (cmU w k o h lb m p wet) 120 0 (cn w 17) = h ∧ wI (cmU w k o h lb m p wet) 121 0 (cn w 17) = lb ∧ wI (cmU w k o h lb m p wet) 122 0 (cn w 17) = m ∧ wI (cmU w k o h lb m p wet) 123 0 (cn w 17) = p ∧ wI (cmU w k o h lb m p wet) 124 0 (cn w 17) = -1 ∧ wI (cmU w k o h lb m p wet) 125 0 (cn w 17) = -1 ∧ wI (cmU w k o h lb m p wet) 126 0 (cn w 17) = wet ∧ wI (cmU w k o h lb m p wet) 227 0 (cn w 17) = 0 ∧ wI (cmU w k o h lb m p wet) 128 0 (cn w 17) = -1 ∧ wI (cmU w k o h lb m p wet) 230 0 (cn w 17) = 0 ∧ wI (cmU w k o h lb m p wet) 134 0 (cn w 17) = -1 ∧ wI (cmU w k o h lb m p wet) 239 0 (cn w 17) = 0 := by
  rw [cmU_w _ _ _ _ _ _ _ _ _ (by omega) (by omega), cmU_w _ _ _ _ _ _ _ _ _ (by omega) (by omega), cmU_w _ _ _ _ _ _ _ _ _ (by omega) (by omega), cmU_w _ _ _ _ _ _ _ _ _ (by omega) (by omega), cmU_w _ _ _ _ _ _ _ _ _ (by omega) (by omega), cmU_w _ _ _ _ _ _ _ _ _ (by omega) (by omega), cmU_w _ _ _ _ _ _ _ _ _ (by omega) (by omega), cmU_w _ _ _ _ _ _ _ _ _ (by omega) (by omega), cmU_w _ _ _ _ _ _ _ _ _ (by omega) (by omega), cmU_w _ _ _ _ _ _ _ _ _ (by omega) (by omega), cmU_w _ _ _ _ _ _ _ _ _ (by omega) (by omega), cmU_w _ _ _ _ _ _ _ _ _ (by omega) (by omega), cmU_w _ _ _ _ _ _ _ _ _ (by omega) (by omega), cmU_w _ _ _ _ _ _ _ _ _ (by omega) (by omega)]
  unfold cmW
  simp only [yI_sI, Nat.reduceEqDiff, false_and, and_self, if_false, if_true]
theorem cmU_b (w : Wd) (k o h lb m p wet : Int32) (t i : Nat) (ht : t = 235 ∨ t = 136) (hi : i < 5) : wI (cmU w k o h lb m p wet) t 0 (5 * cn w 17 + i) = 0 := by
  unfold cmU
  rw [yI_sI, if_neg (by omega), cmL_I, if_pos (by omega)]
theorem cmU_17 (w : Wd) (k o h lb m p wet : Int32) : wI (cmU w k o h lb m p wet) 13 0 17 = wI w 13 0 17 + 1 := by
  unfold cmU
  rw [yI_sI, if_pos ⟨rfl, rfl, rfl⟩]
theorem cmU_2 (w : Wd) (k o h lb m p wet : Int32) : (cmU w k o h lb m p wet).2 = w.2 := rfl
theorem lo_inv {c m : Nat} {b u w3 w' : Wd} {A B C D E Fv P : Int32} (h : Inv c b) (hm : m = cn b 17) (hm2 : m < 24) (hu : u.2 = (nlW b A B C D E Fv P).2) (hP : LiP u w3 1 m (fun k => (10, k)) (10, m)) (h2 : w'.2 = w3.2) (h17 : wI w' 13 0 17 = nI (m + 1)) (hu2 : ∀ i, wI u 2 i 2 = wI b 2 i 2) (h22 : ∀ i, wI w' 2 i 2 = wI w3 2 i 2) (hI : ∀ t k q, ¬ ((t = 13 ∧ q = 17) ∨ ((t = 10 ∨ t = 11 ∨ t = 187 ∨ t = 188) ∧ k = m) ∨ (((118 ≤ t ∧ t ≤ 134) ∨ t = 227 ∨ t = 230 ∨ t = 239) ∧ q = m) ∨ ((t = 235 ∨ t = 136) ∧ 5 * m ≤ q ∧ q < 5 * m + 5) ∨ (t = 2 ∧ k = 1) ∨ t = 300) → wI w' t k q = wI b t k q) (hL : LtC w' m) (hT : wI w' 11 m 2 = 0) (hB : ∀ i, i < 5 → wI w' 136 0 (5 * m + i) = 0) (h123 : ∃ p, p < cn b 3 ∧ wI w' 123 0 m = nI p) (h124 : wI w' 124 0 m = -1) (h125 : wI w' 125 0 m = -1) (h118 : inR (wI w' 118 0 m) 0 3 = true) (h134 : wI w' 134 0 m = -1) : Inv c w' := by
  have hM := iv_M h
  obtain ⟨n9, n186, n10, n11, n187, n188, n270, n189, n190, n191⟩ := iv_N h
  rw [← hm] at n10 n11 n187 n188
  obtain ⟨p1, p2, p3, p4, p5, p6, p7⟩ := id hP
  have uR : ∀ s k q, wR u s k q = wR (nlW b A B C D E Fv P) s k q := fun s k q => w2_R hu s k q
  have uC : ∀ s, wC u s = wC (nlW b A B C D E Fv P) s := fun s => w2_C hu s
  have uN : ∀ s k, wN u s k = wN (nlW b A B C D E Fv P) s k := fun s k => w2_N hu s k
  have hR : ∀ s k q, ¬ s = 2 → ¬ s = 300 → ¬ ((s = 10 ∨ s = 11 ∨ s = 187 ∨ s = 188) ∧ k = m) → wR w3 s k q = wR b s k q := fun s k q c1 c2 c3 => by
    rw [p2 s k q (by omega) (by omega), uR, nlW_R, n10, n11, n187, n188, if_neg (by omega), if_neg (by omega), if_neg (by omega), if_neg (by omega), if_neg (by omega), if_neg (by omega), if_neg (by omega)]
  have hC : ∀ s, ¬ s = 300 → wC w3 s = if s = 188 then m + 1 else if s = 187 then m + 1 else if s = 11 then m + 1 else if s = 10 then m + 1 else wC b s := fun s c1 => by rw [p3 s c1, uC, nlW_C, n10, n11, n187, n188]
  have u300 : wC u 300 = wC b 300 := by rw [uC, nlW_C, if_neg (by omega), if_neg (by omega), if_neg (by omega), if_neg (by omega)]
  have hN3 : ∀ s k, ¬ (s = 300 ∧ wC b 300 ≤ k) → wN w3 s k = if s = 188 ∧ k = m then 5 else if s = 187 ∧ k = m then 5 else if s = 11 ∧ k = m then 0 else if s = 10 ∧ k = m then 0 else wN b s k := fun s k c1 => by
    rw [p5 s k (by rw [u300]; exact c1), uN, nlW_N, n10, n11, n187, n188]
  have hE : Exw b w' := by
    refine ⟨fun s k q hk c1 c2 => ?_, fun s => ?_, fun s k hk => ?_⟩
    · rw [w2_R h2]
      refine hR s k q c1 c2 (fun z => ?_)
      rcases z with ⟨rfl | rfl | rfl | rfl, z⟩
      · rw [n10] at hk; omega
      · rw [n11] at hk; omega
      · rw [n187] at hk; omega
      · rw [n188] at hk; omega
    · rw [w2_C h2]
      by_cases z : s = 300
      · rw [z, ← u300]; exact p4
      · rw [hC s z]
        by_cases z1 : s = 188
        · rw [if_pos z1, z1, n188]; omega
        · rw [if_neg z1]
          by_cases z2 : s = 187
          · rw [if_pos z2, z2, n187]; omega
          · rw [if_neg z2]
            by_cases z3 : s = 11
            · rw [if_pos z3, z3, n11]; omega
            · rw [if_neg z3]
              by_cases z4 : s = 10
              · rw [if_pos z4, z4, n10]; omega
              · rw [if_neg z4]; exact Nat.le_refl _
    · rw [w2_N h2, hN3 s k (fun z => by rw [z.1] at hk; omega), if_neg (fun z => by rw [z.1, n188] at hk; omega), if_neg (fun z => by rw [z.1, n187] at hk; omega), if_neg (fun z => by rw [z.1, n11] at hk; omega), if_neg (fun z => by rw [z.1, n10] at hk; omega)]
  have hMS : MSh w' := MSh_x (fun q => by rw [w2_R h2]; exact hR _ _ _ (by omega) (by omega) (by omega)) (fun s hs => by rw [w2_C h2, hC s (by omega), if_neg (by omega), if_neg (by omega), if_neg (by omega), if_neg (by omega)]) (fun s k hs => by rw [w2_N h2, hN3 s k (by omega), if_neg (by omega), if_neg (by omega), if_neg (by omega), if_neg (by omega)]) hM.1
  have hSS : SSh w' := SSh_x (fun s k q hs => by rw [w2_R h2]; exact hR _ _ _ (by omega) (by omega) (by omega)) (fun s hs => by rw [w2_C h2, hC s (by omega), if_neg (by omega), if_neg (by omega), if_neg (by omega), if_neg (by omega)]) (fun s k hs => by rw [w2_N h2, hN3 s k (by omega), if_neg (by omega), if_neg (by omega), if_neg (by omega), if_neg (by omega)]) (iv_S h)
  have m17 : cn w' 17 = m + 1 := by rw [cn, h17]; exact nI_clamp (by omega)
  have g := hI
  have m3 := cn_cg (w := b) (w' := w') (g 13 0 3 (by omega))
  have m6 := cn_cg (w := b) (w' := w') (g 13 0 6 (by omega))
  have m38 := cn_cg (w := b) (w' := w') (g 13 0 38 (by omega))
  have m48 := cn_cg (w := b) (w' := w') (g 13 0 48 (by omega))
  have Lu : ∀ i n el, LiA b i n el → LiA u i n el := fun i n el hh => LiA_x (fun k q => by rw [uR, nlW_R, if_neg (by omega), if_neg (by omega), if_neg (by omega), if_neg (by omega), if_neg (by omega), if_neg (by omega), if_neg (by omega)]) (fun k q => by rw [uR, nlW_R, if_neg (by omega), if_neg (by omega), if_neg (by omega), if_neg (by omega), if_neg (by omega), if_neg (by omega), if_neg (by omega)]) (by rw [uC, nlW_C, if_neg (by omega), if_neg (by omega), if_neg (by omega), if_neg (by omega)]) u300 (fun k => by rw [uN, nlW_N, if_neg (by omega), if_neg (by omega), if_neg (by omega), if_neg (by omega)]) (hu2 i) hh
  have LA := iv_Q h
  have Du : LiD u := LiD_x (fun k q => by rw [uR, nlW_R, if_neg (by omega), if_neg (by omega), if_neg (by omega), if_neg (by omega), if_neg (by omega), if_neg (by omega), if_neg (by omega)]) LA.2.2.2
  obtain ⟨ρ, r1, r2⟩ := LA.2.2.1
  have U0 := Lu _ _ _ LA.1
  have U1 := Lu _ _ _ LA.2.1
  have U2 := Lu _ _ _ r1
  have eg : grf w' = grf b := grf_cg fun t k i ht => g t k i (by omega)
  refine ⟨hSS, ?_, Cp0_cg' (fun t k i ht => g t k i (by omega)) (iv_0 h), ?_, ⟨?_, ?_, ⟨ρ, ?_, fun r hr => ?_⟩, ?_⟩, fun j hj => ?_, IvY_cg hE hMS (fun t k i ht => g t k i (by omega)) (iv_Y h), ?_, IvP_cg (fun t k i ht => g t k i (by omega)) (iv_P h), IvW_cg (fun t k i ht => g t k i (by omega)) (iv_W h), IvT_cg (Nat.le_refl c) (g _ _ _ (by omega)) (g _ _ _ (by omega)) (iv_T h), IvK_cg (g _ _ _ (by omega)) (fun i => g _ _ _ (by omega)) (iv_K h)⟩
  · obtain ⟨-, q3, q6, q17, qR, q63, q58, q123, q67, q47⟩ := iv_M h
    refine ⟨hMS, okc_cg (g _ _ _ (by omega)) q3, okc_cg (g _ _ _ (by omega)) q6, ⟨by rw [m17, h17], by omega⟩, ⟨okc_cg (g _ _ _ (by omega)) qR.1, fun r hr => ?_⟩, okc_cg (g _ _ _ (by omega)) q63, okc_cg (g _ _ _ (by omega)) q58, fun j hj => ?_, okc_cg (g _ _ _ (by omega)) q67, ?_⟩
    · rw [m48] at hr
      unfold cnT
      rw [g _ _ _ (by omega)]
      exact qR.2 r hr
    · rw [m17] at hj
      rw [m3]
      by_cases z : j = m
      · rw [z]; exact Or.inr h123
      · rw [g _ _ _ (by omega)]; exact q123 j (by omega)
    · rcases q47 with q | q
      · exact Or.inl (by rw [g _ _ _ (by omega)]; exact q)
      · exact Or.inr (okc_cg (g _ _ _ (by omega)) q)
  · unfold IvN
    simp only [w2_C h2, m6, m17]
    refine ⟨?_, ?_, ?_, ?_, ?_, ?_, ?_, ?_, ?_, ?_⟩
    · rw [hC _ (by omega), if_neg (by omega), if_neg (by omega), if_neg (by omega), if_neg (by omega)]; exact n9
    · rw [hC _ (by omega), if_neg (by omega), if_neg (by omega), if_neg (by omega), if_neg (by omega)]; exact n186
    · rw [hC _ (by omega), if_neg (by omega), if_neg (by omega), if_neg (by omega), if_pos rfl]
    · rw [hC _ (by omega), if_neg (by omega), if_neg (by omega), if_pos rfl]
    · rw [hC _ (by omega), if_neg (by omega), if_pos rfl]
    · rw [hC _ (by omega), if_pos rfl]
    · rw [hC 270 (by omega), if_neg (by omega), if_neg (by omega), if_neg (by omega), if_neg (by omega), hC 12 (by omega), if_neg (by omega), if_neg (by omega), if_neg (by omega), if_neg (by omega)]; exact n270
    · rw [hC 189 (by omega), if_neg (by omega), if_neg (by omega), if_neg (by omega), if_neg (by omega), hC 12 (by omega), if_neg (by omega), if_neg (by omega), if_neg (by omega), if_neg (by omega)]; exact n189
    · rw [hC 190 (by omega), if_neg (by omega), if_neg (by omega), if_neg (by omega), if_neg (by omega), hC 12 (by omega), if_neg (by omega), if_neg (by omega), if_neg (by omega), if_neg (by omega)]; exact n190
    · rw [hC 191 (by omega), if_neg (by omega), if_neg (by omega), if_neg (by omega), if_neg (by omega), hC 12 (by omega), if_neg (by omega), if_neg (by omega), if_neg (by omega), if_neg (by omega)]; exact n191
  · rw [m6]
    exact LiA_cg h2 (h22 _) (LiA_o hP (by omega) (fun x hx => Du 0 1 (by omega) (by omega) (by omega) x hx) U0)
  · rw [m17]
    refine LiA_cg h2 (h22 _) (LiA_el (fun j _ => ?_) p6)
    by_cases z : j = m
    · rw [if_pos z, z]
    · rw [if_neg z]
  · rw [m48]
    exact LiA_cg h2 (h22 _) (LiA_o hP (by omega) (fun x hx => Du 2 1 (by omega) (by omega) (by omega) x hx) U2)
  · rw [m48] at hr
    exact ⟨RuS_e hE (r2 r hr).1, RuC_cg (fun t k i ht => g t k i (by omega)) (hM.2.2.2.2.1.2 r hr).2 (r2 r hr).2⟩
  · refine LiD_x (fun k q => w2_R h2 2 k q) (LiD_P hP (fun j hj x hx => ?_) Du (by omega))
    rcases (show j = 0 ∨ j = 1 ∨ j = 2 by omega) with rfl | rfl | rfl
    · exact LiA_ar U0 hx
    · exact LiA_ar U1 hx
    · exact LiA_ar U2 hx
  · rw [m17] at hj
    by_cases z : j = m
    · rw [z]
      refine ⟨⟨?_, ?_, ?_, ?_, ?_, ?_, ?_, ?_, ?_⟩, hL, ⟨0, hT, Nat.zero_le _, fun _ => 0, fun _ => 0, fun i hi hn => absurd (by rw [hB i hi]; exact Int32.le_refl _) hn⟩, Or.inl h124, Or.inl h125, h118, fun q => absurd h134 q⟩
      · rw [w2_C h2, hC _ (by omega), if_neg (by omega), if_neg (by omega), if_neg (by omega), if_pos rfl]; omega
      · rw [w2_R h2, p2 _ _ _ (by omega) (by omega), uR, nlW_R, n10, n11, if_pos ⟨rfl, rfl, rfl⟩]
      · rw [w2_C h2, hC _ (by omega), if_neg (by omega), if_neg (by omega), if_pos rfl]; omega
      · rw [w2_R h2, p2 _ _ _ (by omega) (by omega), uR, nlW_R, n11, n187, if_neg (by omega), if_neg (by omega), if_neg (by omega), if_pos ⟨rfl, rfl, rfl⟩]
      · rw [w2_R h2, p2 _ _ _ (by omega) (by omega), uR, nlW_R, n11, n188, if_neg (by omega), if_pos ⟨rfl, rfl, rfl⟩]
      · rw [w2_C h2, hC _ (by omega), if_neg (by omega), if_pos rfl]; omega
      · rw [w2_N h2, hN3 _ _ (by omega), if_neg (by omega), if_pos ⟨rfl, rfl⟩]
      · rw [w2_C h2, hC _ (by omega), if_pos rfl]; omega
      · rw [w2_N h2, hN3 _ _ (by omega), if_pos ⟨rfl, rfl⟩]
    · exact LtI_cg hE (Nat.le_refl c) (by omega) (by omega) (fun t k i ht => g t k i (by omega)) (iv_L h (by omega))
  · obtain ⟨F, F1, F2, F3, F4⟩ := iv_E h
    exact ⟨F, CpE_cg hE (fun t k i ht => g t k i (by omega)) F1, RfE_eq F2 eg (g _ _ _ (by omega)) (fun i _ => ⟨g _ _ _ (by omega), g _ _ _ (by omega), g _ _ _ (by omega)⟩), by rw [eg]; exact F3, OwF_cg eg (by omega) (fun j hj => g _ _ _ (by omega)) F4⟩
