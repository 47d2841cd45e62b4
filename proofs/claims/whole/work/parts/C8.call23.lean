/-! calls: alley -/
section
variable {l : Launch} {G : Gc} {c : Nat} {w : Wd}
theorem al_inv {a b t m N : Nat} {w3 : Wd} (h : Inv c w) (hm : m = cn w 6) (hm2 : m < 20) (hN : N = cn w 3) (ha : a < N) (hb : b < N) (hab : ¬ a = b) (ht1 : 1 ≤ t) (ht2 : t ≤ 30) (hP : LiP (naW w (nI a) (nI b) (nI t)) w3 0 m (fun k => (9, k)) (9, m)) : MSh (mxU w3 (nwE (dsM w) a b t) N N 0) ∧ (∀ s k q, ¬ ((s = 2 ∧ k = 0) ∨ (s = 9 ∧ k = m) ∨ (s = 186 ∧ k = m) ∨ s = 300 ∨ s = 173) → wI (mxU w3 (nwE (dsM w) a b t) N N 0) s k q = wI w s k q) ∧ Inv (c + 1) (alW (mxU w3 (nwE (dsM w) a b t) N N 0) (nI a) (nI b) (nI t)) := by
  have hM := iv_M h
  have N14 : N ≤ 14 := by rw [hN]; exact hM.2.1.2
  obtain ⟨n9, n186, n10, n11, n187, n188, n270, n189, n190, n191⟩ := iv_N h
  rw [← hm] at n9 n186
  obtain ⟨p1, p2, p3, p4, p5, p6, p7⟩ := id hP
  have hR : ∀ s k q, ¬ s = 2 → ¬ s = 300 → ¬ (s = 9 ∧ k = m) → ¬ (s = 186 ∧ k = m) → wR w3 s k q = wR w s k q := fun s k q c1 c2 c3 c4 => by
    rw [p2 s k q (by omega) (by omega), naW_R, n9, n186, if_neg (by omega), if_neg (by omega), if_neg (by omega)]
  have hC : ∀ s, ¬ s = 300 → wC w3 s = if s = 186 then m + 1 else if s = 9 then m + 1 else wC w s := fun s c1 => by rw [p3 s c1, naW_C, n9, n186]
  have hN3 : ∀ s k, ¬ (s = 300 ∧ wC w 300 ≤ k) → wN w3 s k = if s = 186 ∧ k = m then 24 else if s = 9 ∧ k = m then 0 else wN w s k := fun s k c1 => by
    rw [p5 s k (by rw [naW_C]; simpa using c1), naW_N, n9, n186]
  have c300 : wC w 300 ≤ wC w3 300 := by
    have := p4
    rw [naW_C, if_neg (by omega), if_neg (by omega)] at this
    exact this
  have I3 : ∀ s k q, ¬ (s = 2 ∧ k = 0) → ¬ s = 300 → wI w3 s k q = if s = 9 ∧ k = m ∧ q = 2 then nI t else if s = 9 ∧ k = m ∧ q = 1 then nI b else if s = 9 ∧ k = m ∧ q = 0 then nI a else if s = 9 ∧ k = m ∧ q = 4 then 0 else if s = 186 ∧ k = m then 0 else if s = 9 ∧ k = m then 0 else wI w s k q := fun s k q c1 c2 => by
    rw [p1 s k q c1 c2, naW_I, n9, n186]
  have g4 : ∀ s k q, ¬ ((s = 2 ∧ k = 0) ∨ (s = 9 ∧ k = m) ∨ (s = 186 ∧ k = m) ∨ s = 300 ∨ s = 173) → wI (mxU w3 (nwE (dsM w) a b t) N N 0) s k q = wI w s k q := fun s k q n => by
    rw [mxU_n (by omega), I3 _ _ _ (by omega) (by omega), if_neg (by omega), if_neg (by omega), if_neg (by omega), if_neg (by omega), if_neg (by omega), if_neg (by omega)]
  have hE3 : Exw w w3 := by
    refine ⟨fun s k q hk c1 c2 => hR s k q c1 c2 (fun z => ?_) (fun z => ?_), fun s => ?_, fun s k hk => ?_⟩
    · rw [z.1, n9] at hk; omega
    · rw [z.1, n186] at hk; omega
    · by_cases z : s = 300
      · rw [z]; exact c300
      · rw [hC s z]
        by_cases z1 : s = 186
        · rw [if_pos z1, z1, n186]; omega
        · rw [if_neg z1]
          by_cases z2 : s = 9
          · rw [if_pos z2, z2, n9]; omega
          · rw [if_neg z2]; exact Nat.le_refl _
    · rw [hN3 s k (fun z => by rw [z.1] at hk; omega), if_neg (fun z => by rw [z.1, n186] at hk; omega), if_neg (fun z => by rw [z.1, n9] at hk; omega)]
  have hMS3 : MSh w3 := MSh_x (fun q => hR _ _ _ (by omega) (by omega) (by omega) (by omega)) (fun s hs => by rw [hC s (by omega), if_neg (by omega), if_neg (by omega)]) (fun s k hs => by rw [hN3 s k (by omega), if_neg (by omega), if_neg (by omega)]) hM.1
  have hMS4 : MSh (mxU w3 (nwE (dsM w) a b t) N N 0) := MSh_of hMS3 (mxU_2 _ _ _ _ _)
  refine ⟨hMS4, g4, ?_⟩
  have hSS3 : SSh w3 := na_S hP (iv_S h)
  have c6 : cn (mxU w3 (nwE (dsM w) a b t) N N 0) 6 = m := by rw [hm]; exact cn_cg (g4 13 0 6 (by omega))
  have w6 : wI (mxU w3 (nwE (dsM w) a b t) N N 0) 13 0 6 = nI m := by rw [g4 13 0 6 (by omega), hm]; exact hM.2.2.1.1
  have e : ∀ s k q, wI (alW (mxU w3 (nwE (dsM w) a b t) N N 0) (nI a) (nI b) (nI t)) s k q = if s = 13 ∧ k = 0 ∧ q = 6 then nI (m + 1) else if s = 109 ∧ k = 0 ∧ q = m then nI t else if s = 108 ∧ k = 0 ∧ q = m then nI b else if s = 107 ∧ k = 0 ∧ q = m then nI a else wI (mxU w3 (nwE (dsM w) a b t) N N 0) s k q := fun s k q => by
    unfold alW
    rw [c6, w6, nI_1, yI_sI, yI_sI, yI_sI, yI_sI]
  have h2 : (alW (mxU w3 (nwE (dsM w) a b t) N N 0) (nI a) (nI b) (nI t)).2 = w3.2 := rfl
  revert e h2
  generalize alW (mxU w3 (nwE (dsM w) a b t) N N 0) (nI a) (nI b) (nI t) = w'
  intro e h2
  have g : ∀ s k q, ¬ ((s = 13 ∧ q = 6) ∨ ((107 ≤ s ∧ s ≤ 109) ∧ q = m) ∨ (s = 2 ∧ k = 0) ∨ (s = 9 ∧ k = m) ∨ (s = 186 ∧ k = m) ∨ s = 300 ∨ s = 173) → wI w' s k q = wI w s k q := fun s k q n => by
    rw [e, if_neg (by omega), if_neg (by omega), if_neg (by omega), if_neg (by omega)]
    exact g4 s k q (by omega)
  have f9 : ∀ q, wI w' 9 m q = if q = 2 then nI t else if q = 1 then nI b else if q = 0 then nI a else 0 := fun q => by
    rw [e, if_neg (by omega), if_neg (by omega), if_neg (by omega), if_neg (by omega), mxU_n (by omega), I3 _ _ _ (by omega) (by omega)]
    by_cases q2 : q = 2
    · rw [if_pos ⟨rfl, rfl, q2⟩, if_pos q2]
    · rw [if_neg (by omega), if_neg q2]
      by_cases q1 : q = 1
      · rw [if_pos ⟨rfl, rfl, q1⟩, if_pos q1]
      · rw [if_neg (by omega), if_neg q1]
        by_cases q0 : q = 0
        · rw [if_pos ⟨rfl, rfl, q0⟩, if_pos q0]
        · rw [if_neg (by omega), if_neg q0]
          by_cases q4 : q = 4
          · rw [if_pos ⟨rfl, rfl, q4⟩]
          · rw [if_neg (by omega), if_neg (by omega), if_pos ⟨rfl, rfl⟩]
  have f107 : wI w' 107 0 m = nI a := by rw [e, if_neg (by omega), if_neg (by omega), if_neg (by omega), if_pos ⟨rfl, rfl, rfl⟩]
  have f108 : wI w' 108 0 m = nI b := by rw [e, if_neg (by omega), if_neg (by omega), if_pos ⟨rfl, rfl, rfl⟩]
  have f109 : wI w' 109 0 m = nI t := by rw [e, if_neg (by omega), if_pos ⟨rfl, rfl, rfl⟩]
  have f6 : wI w' 13 0 6 = nI (m + 1) := by rw [e, if_pos ⟨rfl, rfl, rfl⟩]
  have m6 : cn w' 6 = m + 1 := by rw [cn, f6]; exact nI_clamp (by omega)
  have hE : Exw w w' := by
    obtain ⟨x1, x2, x3⟩ := hE3
    exact ⟨fun s k q hk c1 c2 => by rw [w2_R h2]; exact x1 s k q hk c1 c2, fun s => by rw [w2_C h2]; exact x2 s, fun s k hk => by rw [w2_N h2]; exact x3 s k hk⟩
  have hMS : MSh w' := MSh_of hMS3 h2
  have m3 := cn_cg (w := w) (w' := w') (g 13 0 3 (by omega))
  have m17 := cn_cg (w := w) (w' := w') (g 13 0 17 (by omega))
  have m38 := cn_cg (w := w) (w' := w') (g 13 0 38 (by omega))
  have m48 := cn_cg (w := w) (w' := w') (g 13 0 48 (by omega))
  have gN : gfN (grf w) = m := hm.symm
  have gN' : gfN (grf w') = m + 1 := m6
  have gs : ∀ k, k < m → gfA (grf w') k = gfA (grf w) k ∧ gfB (grf w') k = gfB (grf w) k ∧ gfT (grf w') k = gfT (grf w) k := fun k hk => by
    refine ⟨?_, ?_, ?_⟩
    · show (wI w' 107 0 k).toNatClampNeg = (wI w 107 0 k).toNatClampNeg
      rw [g _ _ _ (by omega)]
    · show (wI w' 108 0 k).toNatClampNeg = (wI w 108 0 k).toNatClampNeg
      rw [g _ _ _ (by omega)]
    · show (wI w' 109 0 k).toNatClampNeg = (wI w 109 0 k).toNatClampNeg
      rw [g _ _ _ (by omega)]
  have gA : gfA (grf w') m = a := by
    show (wI w' 107 0 m).toNatClampNeg = a
    rw [f107]; exact nI_clamp (by omega)
  have gB : gfB (grf w') m = b := by
    show (wI w' 108 0 m).toNatClampNeg = b
    rw [f108]; exact nI_clamp (by omega)
  have gT : gfT (grf w') m = t := by
    show (wI w' 109 0 m).toNatClampNeg = t
    rw [f109]; exact nI_clamp (by omega)
  obtain ⟨y1, ⟨⟨-, k3, k6, kA, kg, kD⟩, y2⟩, y3⟩ := iv_Y h
  rw [← hN] at kg kD y2
  have mt : Mtr (grf w) N (dsM w) := by
    unfold dsM
    rw [← hN]
    exact dst_ok kD
  have mt' : Mtr (grf w') N (nwE (dsM w) a b t) := nwE_Mtr mt (by rw [gN, gN']) (by rw [gN]; exact gs) (by rw [gN]; exact gA) (by rw [gN]; exact gB) (by rw [gN]; exact gT) ha hb hab kg
  have kg' : gfOk (grf w') N := fun k hk => by
    rw [gN'] at hk
    by_cases z : k = m
    · rw [z, gA, gB, gT]; exact ⟨ha, hb, hab, ht1, ht2⟩
    · obtain ⟨s1, s2, s3⟩ := gs k (by omega)
      rw [s1, s2, s3]; exact kg k (by rw [gN]; omega)
  have LA := iv_Q h
  have Lu : ∀ i n el, LiA w i n el → LiA (naW w (nI a) (nI b) (nI t)) i n el := fun i n el hh => LiA_x (fun k q => by rw [naW_R, if_neg (by omega), if_neg (by omega), if_neg (by omega)]) (fun k q => by rw [naW_R, if_neg (by omega), if_neg (by omega), if_neg (by omega)]) (by rw [naW_C, if_neg (by omega), if_neg (by omega)]) (by rw [naW_C, if_neg (by omega), if_neg (by omega)]) (fun k => by rw [naW_N, if_neg (by omega), if_neg (by omega)]) (by rw [naW_I, if_neg (by omega), if_neg (by omega), if_neg (by omega), if_neg (by omega), if_neg (by omega), if_neg (by omega)]) hh
  have Du : LiD (naW w (nI a) (nI b) (nI t)) := LiD_x (fun k q => by rw [naW_R, if_neg (by omega), if_neg (by omega), if_neg (by omega)]) LA.2.2.2
  obtain ⟨ρ, r1, r2⟩ := LA.2.2.1
  have U0 := Lu _ _ _ LA.1
  have U1 := Lu _ _ _ LA.2.1
  have U2 := Lu _ _ _ r1
  refine ⟨SSh_of hSS3 h2, ?_, Cp0_cg' (fun t k i ht => g t k i (by omega)) (iv_0 h), ?_, ⟨?_, ?_, ⟨ρ, ?_, fun r hr => ?_⟩, ?_⟩, fun j hj => LtI_cg hE (Nat.le_succ c) (by omega) (by omega) (fun t k i ht => g t k i (by omega)) (iv_L h (by omega)), ⟨fun k hk => ?_, ⟨⟨hMS, okc_cg (g _ _ _ (by omega)) k3, ⟨by rw [m6, f6], by omega⟩, fun k hk => ?_, by rw [m3, ← hN]; exact kg', by rw [m3, ← hN]; exact ⟨_, mt'⟩⟩, fun i j hi hj => ?_⟩, fun p hp hp2 => ?_⟩, ?_, IvP_cg (fun t k i ht => g t k i (by omega)) (iv_P h), IvW_cg (fun t k i ht => g t k i (by omega)) (iv_W h), IvT_cg (Nat.le_succ c) (g _ _ _ (by omega)) (g _ _ _ (by omega)) (iv_T h), IvK_cg (g _ _ _ (by omega)) (fun i => g _ _ _ (by omega)) (iv_K h)⟩
  · obtain ⟨-, q3, q6, q17, qR, q63, q58, q123, q67, q47⟩ := iv_M h
    refine ⟨hMS, okc_cg (g _ _ _ (by omega)) q3, ⟨by rw [m6, f6], by omega⟩, okc_cg (g _ _ _ (by omega)) q17, ⟨okc_cg (g _ _ _ (by omega)) qR.1, fun r hr => ?_⟩, okc_cg (g _ _ _ (by omega)) q63, okc_cg (g _ _ _ (by omega)) q58, fun j hj => ?_, okc_cg (g _ _ _ (by omega)) q67, ?_⟩
    · rw [m48] at hr
      unfold cnT
      rw [g _ _ _ (by omega)]
      exact qR.2 r hr
    · rw [m17] at hj
      rw [m3, g _ _ _ (by omega)]
      exact q123 j hj
    · rcases q47 with q | q
      · exact Or.inl (by rw [g _ _ _ (by omega)]; exact q)
      · exact Or.inr (okc_cg (g _ _ _ (by omega)) q)
  · unfold IvN
    simp only [w2_C h2, m6, m17]
    refine ⟨?_, ?_, ?_, ?_, ?_, ?_, ?_, ?_, ?_, ?_⟩
    · rw [hC _ (by omega), if_neg (by omega), if_pos rfl]
    · rw [hC _ (by omega), if_pos rfl]
    · rw [hC _ (by omega), if_neg (by omega), if_neg (by omega)]; exact n10
    · rw [hC _ (by omega), if_neg (by omega), if_neg (by omega)]; exact n11
    · rw [hC _ (by omega), if_neg (by omega), if_neg (by omega)]; exact n187
    · rw [hC _ (by omega), if_neg (by omega), if_neg (by omega)]; exact n188
    · rw [hC _ (by omega), if_neg (by omega), if_neg (by omega), hC _ (by omega), if_neg (by omega), if_neg (by omega)]; exact n270
    · rw [hC _ (by omega), if_neg (by omega), if_neg (by omega), hC _ (by omega), if_neg (by omega), if_neg (by omega)]; exact n189
    · rw [hC _ (by omega), if_neg (by omega), if_neg (by omega), hC _ (by omega), if_neg (by omega), if_neg (by omega)]; exact n190
    · rw [hC _ (by omega), if_neg (by omega), if_neg (by omega), hC _ (by omega), if_neg (by omega), if_neg (by omega)]; exact n191
  · rw [m6]
    refine LiA_cg h2 ?_ (LiA_el (fun j _ => ?_) p6)
    · rw [e, if_neg (by omega), if_neg (by omega), if_neg (by omega), if_neg (by omega), mxU_n (by omega)]
    · by_cases z : j = m
      · rw [if_pos z, z]
      · rw [if_neg z]
  · rw [m17]
    refine LiA_cg h2 ?_ (LiA_o hP (by omega) (fun x hx => Du 1 0 (by omega) (by omega) (by omega) x hx) U1)
    rw [e, if_neg (by omega), if_neg (by omega), if_neg (by omega), if_neg (by omega), mxU_n (by omega)]
  · rw [m48]
    refine LiA_cg h2 ?_ (LiA_o hP (by omega) (fun x hx => Du 2 0 (by omega) (by omega) (by omega) x hx) U2)
    rw [e, if_neg (by omega), if_neg (by omega), if_neg (by omega), if_neg (by omega), mxU_n (by omega)]
  · rw [m48] at hr
    exact ⟨RuS_e hE (r2 r hr).1, RuC_cg (fun t k i ht => g t k i (by omega)) (hM.2.2.2.2.1.2 r hr).2 (r2 r hr).2⟩
  · refine LiD_x (fun k q => w2_R h2 2 k q) (LiD_P hP (fun j hj x hx => ?_) Du (by omega))
    rcases (show j = 0 ∨ j = 1 ∨ j = 2 by omega) with rfl | rfl | rfl
    · exact LiA_ar U0 hx
    · exact LiA_ar U1 hx
    · exact LiA_ar U2 hx
  · rw [m6] at hk
    by_cases z : k = m
    · rw [z]
      refine ⟨⟨?_, ?_, ?_, ?_⟩, ?_, ?_, ?_⟩
      · rw [w2_C h2, hC _ (by omega), if_neg (by omega), if_pos rfl]; omega
      · rw [w2_R h2, p2 _ _ _ (by omega) (by omega), naW_R, n9, n186, if_pos ⟨rfl, rfl, rfl⟩]
      · rw [w2_C h2, hC _ (by omega), if_pos rfl]; omega
      · rw [w2_N h2, hN3 _ _ (by omega), if_pos ⟨rfl, rfl⟩]
      · rw [f9, f107, if_neg (by omega), if_neg (by omega), if_pos rfl]
      · rw [f9, f108, if_neg (by omega), if_pos rfl]
      · rw [f9, f109, if_pos rfl]
    · obtain ⟨q1, q2, q3, q4⟩ := y1 k (by omega)
      rw [g 9 _ _ (by omega), g 9 _ _ (by omega), g 9 _ _ (by omega), g 107 _ _ (by omega), g 108 _ _ (by omega), g 109 _ _ (by omega)]
      exact ⟨AlS_e hE q1, q2, q3, q4⟩
  · rw [m6] at hk
    by_cases z : k = m
    · rw [z, gA, gB, gT]; exact ⟨f107, f108, f109⟩
    · obtain ⟨s1, s2, s3⟩ := gs k (by omega)
      rw [s1, s2, s3, g _ _ _ (by omega), g _ _ _ (by omega), g _ _ _ (by omega)]
      exact kA k (by omega)
  · rw [m3, ← hN] at hi hj
    unfold dsM
    rw [m3, ← hN, dst_is kg' mt' i j hi hj, e, if_neg (by omega), if_neg (by omega), if_neg (by omega), if_neg (by omega), mxU_I, if_pos ⟨rfl, hj, Or.inl hi⟩]
  · rw [m3, ← hN] at hp
    rw [g 172 _ _ (by omega), e, if_neg (by omega), if_neg (by omega), if_neg (by omega), if_neg (by omega), mxU_I, if_neg (by omega), I3 _ _ _ (by omega) (by omega), if_neg (by omega), if_neg (by omega), if_neg (by omega), if_neg (by omega), if_neg (by omega), if_neg (by omega)]
    exact y3 p (by omega) hp2
  · obtain ⟨F, F1, F2, F3, F4⟩ := iv_E h
    have fl : ∀ x ∈ F.map (fun f => f.1), x.1 < m := fun x hx => by have := (F3 x hx).1; rw [gN] at this; exact this
    refine ⟨F, fun k hk => ?_, ⟨by rw [g _ _ _ (by omega)]; exact F2.1, F2.2.1, fun i x hx => ?_⟩, fun x hx => ?_, F4.1, F4.2.1, fun f hf => ?_⟩
    · rw [m6] at hk
      by_cases z : k = m
      · rw [z]
        have s0 : szA w' m = 0 := by
          show (wI w' 9 m 4).toNatClampNeg = 0
          rw [f9]; rfl
        have mn : mnA w' m = t := by
          show (wI w' 9 m 2).toNatClampNeg = t
          rw [f9]; exact nI_clamp (by omega)
        refine ⟨⟨⟨?_, ?_, ?_, ?_⟩, ?_, by omega, ?_, by omega, fun i hi => by omega⟩, ?_⟩
        · rw [w2_C h2, hC _ (by omega), if_neg (by omega), if_pos rfl]; omega
        · rw [w2_R h2, p2 _ _ _ (by omega) (by omega), naW_R, n9, n186, if_pos ⟨rfl, rfl, rfl⟩]
        · rw [w2_C h2, hC _ (by omega), if_pos rfl]; omega
        · rw [w2_N h2, hN3 _ _ (by omega), if_pos ⟨rfl, rfl⟩]
        · rw [s0, f9]; rfl
        · rw [mn, f9]; rfl
        · rw [s0, List.filter_eq_nil_iff.mpr (fun x hx => by have := fl x hx; simp; omega)]; rfl
      · obtain ⟨⟨a1, a2, a3, a4, a5, a6⟩, b1⟩ := F1 k (by omega)
        have e1 : szA w' k = szA w k := by unfold szA; rw [g _ _ _ (by omega)]
        have e2 : mnA w' k = mnA w k := by unfold mnA; rw [g _ _ _ (by omega)]
        have e3 : tkv w' k = tkv w k := funext fun i => by unfold tkv; rw [g _ _ _ (by omega)]
        refine ⟨⟨AlS_e hE a1, by rw [e1, g _ _ _ (by omega)]; exact a2, by rw [e1]; exact a3, by rw [e2, g _ _ _ (by omega)]; exact a4, by rw [e2]; exact a5, fun i hi => ?_⟩, by rw [e1, e3]; exact b1⟩
        rw [e1] at hi
        rw [g _ _ _ (by omega), e3]
        exact a6 i hi
    · have := fl x (List.mem_of_getElem? hx)
      rw [(gs x.1 this).2.2, g _ _ _ (by omega), g _ _ _ (by omega), g _ _ _ (by omega)]
      exact F2.2.2 i x hx
    · have := fl x hx
      rw [gN', (gs x.1 this).2.2]
      exact ⟨by omega, by have := (F3 x hx).2; omega⟩
    · obtain ⟨q1, d, q2, q3, q4⟩ := F4.2.2 f hf
      rw [m17, (gs f.1.1 (fl f.1 (List.mem_map.mpr ⟨f, hf, rfl⟩))).2.2, g _ _ _ (by omega)]
      exact ⟨q1, d, q2, q3, q4⟩
theorem in_30 {x : Int32} (h : inR x 1 30 = true) : ∃ j, 1 ≤ j ∧ j ≤ 30 ∧ x = nI j := by
  obtain ⟨h1, h2⟩ := inR_spec h
  obtain ⟨j, j1, j2, rfl⟩ := in_1k (inR_t h1 (fun z => h2 (Int32.lt_trans (by decide) z)))
  rw [show (30 : Int32) = nI 30 from rfl, nI_ltI (by omega) (by omega)] at h2
  exact ⟨j, j1, by omega, rfl⟩
set_option maxRecDepth 100000 in
set_option maxHeartbeats 4000000 in
theorem ca_alley (h : Inv c w) (x y z : Int32) : Cok l G c w mS_alley mM_alley [.inl x, .inl y, .inl z] := by
  have hS := iv_S h
  have hM := iv_M h
  have h0 := iv_0 h
  have h3 := hM.2.1
  have h6 := hM.2.2.1
  have ru1 := ruY_hasPlace (p := x) hS h3 h0
  have ru2 := ruY_hasPlace (p := y) hS h3 h0
  have rs := ruL_size (iv_y h).2.2.1.1
  have rf : ∀ b : Nat, 0 < b ∧ b < 9 → dM_alley w x y z = -nI b → Pst l G c mM_alley [.inl x, .inl y, .inl z] (some (.inl (-nI b))) (rfs w b) := fun b hb hd => by
    refine Pst_rf (d := fun w => dM_alley w x y z) (v := fun w => wI w 13 0 6) (W := fun w => alW w x y z) (okM_alley l G) (by decide) (fun _ => rfl) h (b := b) hb rfl ?_
    show dM_alley w x y z = _
    exact hd
  refine ⟨18, by decide, Sem_of (by decide) rfl (Nat.le_of_ble_eq_true rfl) ?_⟩
  refine wpn_ok (M := mS_alley) (C := cenS) (X := (alk [(89, lvY_hasPlace, fsY_hasPlace), (75, lvS_within, fsS_within), (96, lvL_size, fsL_size), (79, lvS_refuse, fsS_refuse)])) (tb := tS_alley) (st := []) eoS (XOk_cons qmS_89 (okY_hasPlace l G) (XOk_cons qmS_75 (okS_within l G) (XOk_cons qmS_96 (okL_size l G) (XOk_cons qmS_79 (okS_refuse l G) XOk_nil)))) kS_alley 90 _ _ _ _ _ _ ?_
  have t1 : ¬ (1 : Int32) = 0 := by decide
  cases h1 : inR x 0 (wI w 13 0 3 - 1) with
  | false =>
    simp only [reduceCtorEq, fv0, fv1, fv2, fv3, bI_0, bI_1, bft, MSh_sI_eq, fsP_T, inL_0, inL_s, pad_0, pad_n, pad_s, wpn_s, wp1_s, lg_0, lg_s, lset_0, lset_s, kil_0, kil_s, st1_s, st2_s, isL_i, isL_l, isL_r, isL_n, spl_0, spl_s, cll_n, cll_s, catS_0, catS_s, jmp_s, alk_0, alk_s, otl_n, otl_s, List.nil_append, List.cons_append, List.contains_cons, List.contains_nil, Nat.reduceBEq, Bool.or_false, Bool.false_or, Bool.or_self, Bool.false_eq_true, Bool.true_or, Bool.or_true, if_true, if_false, ite_true, ite_false, ↓reduceIte, List.length_cons, List.length_nil, Nat.reduceAdd, Nat.reduceLT, Nat.reduceLeDiff, Nat.reduceEqDiff, Int.reduceAdd, Int.reduceLE, Int.toNat_natCast, Int.reduceToNat, Int.cast_ofNat_Int, true_and, and_true, false_and, and_false, true_implies, forall_const, eq_self, and_self, or_true, true_or, or_self, false_or, or_false, yI_sI, yR_sI, yC_sI, yN_sI, yI_sR, yR_sR, yC_sR, yN_sR, not_true_eq_false, not_false_eq_true, false_implies, implies_true, Nat.zero_add, Nat.add_zero, Nat.le_refl, Nat.reduceSub, Int.reduceSub, Int.reduceLT, Int.sub_zero, Int.sub_self, List.getElem?_toArray, List.getElem?_cons_zero, List.getElem?_cons_succ, Int.toNat_zero, Int.toNat_one, Int.lt_irrefl, yI_sB, yR_sB, yC_sB, yN_sB, MSh_sB_eq, pS_alley_0, stp_aload_n, pS_alley_1, stp_getfield, qfS_12, rp_0_0, ss_C0 hS, ss_R0_0 hS, ss_C1 hS, pS_alley_4, stp_iload_n, pS_alley_5, stp_invokevirtual, qmS_89, cy_Y_hasPlace, pS_alley_8, stp_ifCond_eq, pS_alley_11, pS_alley_12, pS_alley_15, pS_alley_16, pS_alley_19, stp_ifCond_ne, pS_alley_22, pS_alley_23, stp_bipush, pS_alley_25, qmS_79, cy_S_refuse, pS_alley_28, stp_ireturn, pS_alley_29, pS_alley_30, pS_alley_31, stp_if_icmp_eq, pS_alley_34, pS_alley_35, stp_iconst, pS_alley_36, pS_alley_38, stp_invokestatic, qmS_75, cy_S_within, pS_alley_41, pS_alley_44, pS_alley_45, pS_alley_47, pS_alley_50, pS_alley_51, pS_alley_52, pS_alley_55, qfS_93, rp_1_0, ss_R1_0 hS, ss_C2 hS, pS_alley_58, qmS_96, cy_L_size, pS_alley_61, pS_alley_63, stp_if_icmp_lt, pS_alley_66, pS_alley_67, pS_alley_69, pS_alley_72, pS_alley_73, pS_alley_74, pS_alley_77, pS_alley_78, pS_alley_79, pS_alley_80, qmS_100, cy_Y_addAlley, pS_alley_83, bp_m3, ic_1, bp_30, bp_m7, bp_20, bp_m8, nv_S_alley, ml_S_alley, ru1, h1, rfS_3 hS, lvY_hasPlace, lvS_within, lvL_size, lvS_refuse]
    exact rf 3 (by decide) (by simp only [dM_alley, h1, if_true]; rfl)
  | true =>
    cases h2 : inR y 0 (wI w 13 0 3 - 1) with
    | false =>
      simp only [reduceCtorEq, fv0, fv1, fv2, fv3, bI_0, bI_1, bft, MSh_sI_eq, fsP_T, inL_0, inL_s, pad_0, pad_n, pad_s, wpn_s, wp1_s, lg_0, lg_s, lset_0, lset_s, kil_0, kil_s, st1_s, st2_s, isL_i, isL_l, isL_r, isL_n, spl_0, spl_s, cll_n, cll_s, catS_0, catS_s, jmp_s, alk_0, alk_s, otl_n, otl_s, List.nil_append, List.cons_append, List.contains_cons, List.contains_nil, Nat.reduceBEq, Bool.or_false, Bool.false_or, Bool.or_self, Bool.false_eq_true, Bool.true_or, Bool.or_true, if_true, if_false, ite_true, ite_false, ↓reduceIte, List.length_cons, List.length_nil, Nat.reduceAdd, Nat.reduceLT, Nat.reduceLeDiff, Nat.reduceEqDiff, Int.reduceAdd, Int.reduceLE, Int.toNat_natCast, Int.reduceToNat, Int.cast_ofNat_Int, true_and, and_true, false_and, and_false, true_implies, forall_const, eq_self, and_self, or_true, true_or, or_self, false_or, or_false, yI_sI, yR_sI, yC_sI, yN_sI, yI_sR, yR_sR, yC_sR, yN_sR, not_true_eq_false, not_false_eq_true, false_implies, implies_true, Nat.zero_add, Nat.add_zero, Nat.le_refl, Nat.reduceSub, Int.reduceSub, Int.reduceLT, Int.sub_zero, Int.sub_self, List.getElem?_toArray, List.getElem?_cons_zero, List.getElem?_cons_succ, Int.toNat_zero, Int.toNat_one, Int.lt_irrefl, yI_sB, yR_sB, yC_sB, yN_sB, MSh_sB_eq, pS_alley_0, stp_aload_n, pS_alley_1, stp_getfield, qfS_12, rp_0_0, ss_C0 hS, ss_R0_0 hS, ss_C1 hS, pS_alley_4, stp_iload_n, pS_alley_5, stp_invokevirtual, qmS_89, cy_Y_hasPlace, pS_alley_8, stp_ifCond_eq, pS_alley_11, pS_alley_12, pS_alley_15, pS_alley_16, pS_alley_19, stp_ifCond_ne, pS_alley_22, pS_alley_23, stp_bipush, pS_alley_25, qmS_79, cy_S_refuse, pS_alley_28, stp_ireturn, pS_alley_29, pS_alley_30, pS_alley_31, stp_if_icmp_eq, pS_alley_34, pS_alley_35, stp_iconst, pS_alley_36, pS_alley_38, stp_invokestatic, qmS_75, cy_S_within, pS_alley_41, pS_alley_44, pS_alley_45, pS_alley_47, pS_alley_50, pS_alley_51, pS_alley_52, pS_alley_55, qfS_93, rp_1_0, ss_R1_0 hS, ss_C2 hS, pS_alley_58, qmS_96, cy_L_size, pS_alley_61, pS_alley_63, stp_if_icmp_lt, pS_alley_66, pS_alley_67, pS_alley_69, pS_alley_72, pS_alley_73, pS_alley_74, pS_alley_77, pS_alley_78, pS_alley_79, pS_alley_80, qmS_100, cy_Y_addAlley, pS_alley_83, bp_m3, ic_1, bp_30, bp_m7, bp_20, bp_m8, nv_S_alley, ml_S_alley, ru1, ru2, h1, h2, t1, rfS_3 hS, lvY_hasPlace, lvS_within, lvL_size, lvS_refuse]
      exact rf 3 (by decide) (by simp only [dM_alley, h1, h2, Bool.true_eq_false, if_true, if_false]; rfl)
    | true =>
      by_cases h4 : x = y
      · simp only [reduceCtorEq, fv0, fv1, fv2, fv3, bI_0, bI_1, bft, MSh_sI_eq, fsP_T, inL_0, inL_s, pad_0, pad_n, pad_s, wpn_s, wp1_s, lg_0, lg_s, lset_0, lset_s, kil_0, kil_s, st1_s, st2_s, isL_i, isL_l, isL_r, isL_n, spl_0, spl_s, cll_n, cll_s, catS_0, catS_s, jmp_s, alk_0, alk_s, otl_n, otl_s, List.nil_append, List.cons_append, List.contains_cons, List.contains_nil, Nat.reduceBEq, Bool.or_false, Bool.false_or, Bool.or_self, Bool.false_eq_true, Bool.true_or, Bool.or_true, if_true, if_false, ite_true, ite_false, ↓reduceIte, List.length_cons, List.length_nil, Nat.reduceAdd, Nat.reduceLT, Nat.reduceLeDiff, Nat.reduceEqDiff, Int.reduceAdd, Int.reduceLE, Int.toNat_natCast, Int.reduceToNat, Int.cast_ofNat_Int, true_and, and_true, false_and, and_false, true_implies, forall_const, eq_self, and_self, or_true, true_or, or_self, false_or, or_false, yI_sI, yR_sI, yC_sI, yN_sI, yI_sR, yR_sR, yC_sR, yN_sR, not_true_eq_false, not_false_eq_true, false_implies, implies_true, Nat.zero_add, Nat.add_zero, Nat.le_refl, Nat.reduceSub, Int.reduceSub, Int.reduceLT, Int.sub_zero, Int.sub_self, List.getElem?_toArray, List.getElem?_cons_zero, List.getElem?_cons_succ, Int.toNat_zero, Int.toNat_one, Int.lt_irrefl, yI_sB, yR_sB, yC_sB, yN_sB, MSh_sB_eq, pS_alley_0, stp_aload_n, pS_alley_1, stp_getfield, qfS_12, rp_0_0, ss_C0 hS, ss_R0_0 hS, ss_C1 hS, pS_alley_4, stp_iload_n, pS_alley_5, stp_invokevirtual, qmS_89, cy_Y_hasPlace, pS_alley_8, stp_ifCond_eq, pS_alley_11, pS_alley_12, pS_alley_15, pS_alley_16, pS_alley_19, stp_ifCond_ne, pS_alley_22, pS_alley_23, stp_bipush, pS_alley_25, qmS_79, cy_S_refuse, pS_alley_28, stp_ireturn, pS_alley_29, pS_alley_30, pS_alley_31, stp_if_icmp_eq, pS_alley_34, pS_alley_35, stp_iconst, pS_alley_36, pS_alley_38, stp_invokestatic, qmS_75, cy_S_within, pS_alley_41, pS_alley_44, pS_alley_45, pS_alley_47, pS_alley_50, pS_alley_51, pS_alley_52, pS_alley_55, qfS_93, rp_1_0, ss_R1_0 hS, ss_C2 hS, pS_alley_58, qmS_96, cy_L_size, pS_alley_61, pS_alley_63, stp_if_icmp_lt, pS_alley_66, pS_alley_67, pS_alley_69, pS_alley_72, pS_alley_73, pS_alley_74, pS_alley_77, pS_alley_78, pS_alley_79, pS_alley_80, qmS_100, cy_Y_addAlley, pS_alley_83, bp_m3, ic_1, bp_30, bp_m7, bp_20, bp_m8, nv_S_alley, ml_S_alley, ru1, ru2, h1, h2, eq_true h4, t1, rfS_7 hS, lvY_hasPlace, lvS_within, lvL_size, lvS_refuse]
        exact rf 7 (by decide) (by simp only [dM_alley, h1, h2, eq_true h4, Bool.true_eq_false, if_true, if_false]; rfl)
      · cases h5 : inR z 1 30 with
        | false =>
          simp only [reduceCtorEq, fv0, fv1, fv2, fv3, bI_0, bI_1, bft, MSh_sI_eq, fsP_T, inL_0, inL_s, pad_0, pad_n, pad_s, wpn_s, wp1_s, lg_0, lg_s, lset_0, lset_s, kil_0, kil_s, st1_s, st2_s, isL_i, isL_l, isL_r, isL_n, spl_0, spl_s, cll_n, cll_s, catS_0, catS_s, jmp_s, alk_0, alk_s, otl_n, otl_s, List.nil_append, List.cons_append, List.contains_cons, List.contains_nil, Nat.reduceBEq, Bool.or_false, Bool.false_or, Bool.or_self, Bool.false_eq_true, Bool.true_or, Bool.or_true, if_true, if_false, ite_true, ite_false, ↓reduceIte, List.length_cons, List.length_nil, Nat.reduceAdd, Nat.reduceLT, Nat.reduceLeDiff, Nat.reduceEqDiff, Int.reduceAdd, Int.reduceLE, Int.toNat_natCast, Int.reduceToNat, Int.cast_ofNat_Int, true_and, and_true, false_and, and_false, true_implies, forall_const, eq_self, and_self, or_true, true_or, or_self, false_or, or_false, yI_sI, yR_sI, yC_sI, yN_sI, yI_sR, yR_sR, yC_sR, yN_sR, not_true_eq_false, not_false_eq_true, false_implies, implies_true, Nat.zero_add, Nat.add_zero, Nat.le_refl, Nat.reduceSub, Int.reduceSub, Int.reduceLT, Int.sub_zero, Int.sub_self, List.getElem?_toArray, List.getElem?_cons_zero, List.getElem?_cons_succ, Int.toNat_zero, Int.toNat_one, Int.lt_irrefl, yI_sB, yR_sB, yC_sB, yN_sB, MSh_sB_eq, pS_alley_0, stp_aload_n, pS_alley_1, stp_getfield, qfS_12, rp_0_0, ss_C0 hS, ss_R0_0 hS, ss_C1 hS, pS_alley_4, stp_iload_n, pS_alley_5, stp_invokevirtual, qmS_89, cy_Y_hasPlace, pS_alley_8, stp_ifCond_eq, pS_alley_11, pS_alley_12, pS_alley_15, pS_alley_16, pS_alley_19, stp_ifCond_ne, pS_alley_22, pS_alley_23, stp_bipush, pS_alley_25, qmS_79, cy_S_refuse, pS_alley_28, stp_ireturn, pS_alley_29, pS_alley_30, pS_alley_31, stp_if_icmp_eq, pS_alley_34, pS_alley_35, stp_iconst, pS_alley_36, pS_alley_38, stp_invokestatic, qmS_75, cy_S_within, pS_alley_41, pS_alley_44, pS_alley_45, pS_alley_47, pS_alley_50, pS_alley_51, pS_alley_52, pS_alley_55, qfS_93, rp_1_0, ss_R1_0 hS, ss_C2 hS, pS_alley_58, qmS_96, cy_L_size, pS_alley_61, pS_alley_63, stp_if_icmp_lt, pS_alley_66, pS_alley_67, pS_alley_69, pS_alley_72, pS_alley_73, pS_alley_74, pS_alley_77, pS_alley_78, pS_alley_79, pS_alley_80, qmS_100, cy_Y_addAlley, pS_alley_83, bp_m3, ic_1, bp_30, bp_m7, bp_20, bp_m8, nv_S_alley, ml_S_alley, ru1, ru2, h1, h2, h4, h5, t1, fsS_within, rfS_7 hS, lvY_hasPlace, lvS_within, lvL_size, lvS_refuse]
          exact rf 7 (by decide) (by simp only [dM_alley, h1, h2, h4, h5, Bool.true_eq_false, if_true, if_false]; rfl)
        | true =>
          by_cases h7 : wI w 13 0 6 = 20
          · have e20 : nI (cn w 6) = 20 := h6.1.symm.trans h7
            rw [e20] at rs
            simp only [reduceCtorEq, fv0, fv1, fv2, fv3, bI_0, bI_1, bft, MSh_sI_eq, fsP_T, inL_0, inL_s, pad_0, pad_n, pad_s, wpn_s, wp1_s, lg_0, lg_s, lset_0, lset_s, kil_0, kil_s, st1_s, st2_s, isL_i, isL_l, isL_r, isL_n, spl_0, spl_s, cll_n, cll_s, catS_0, catS_s, jmp_s, alk_0, alk_s, otl_n, otl_s, List.nil_append, List.cons_append, List.contains_cons, List.contains_nil, Nat.reduceBEq, Bool.or_false, Bool.false_or, Bool.or_self, Bool.false_eq_true, Bool.true_or, Bool.or_true, if_true, if_false, ite_true, ite_false, ↓reduceIte, List.length_cons, List.length_nil, Nat.reduceAdd, Nat.reduceLT, Nat.reduceLeDiff, Nat.reduceEqDiff, Int.reduceAdd, Int.reduceLE, Int.toNat_natCast, Int.reduceToNat, Int.cast_ofNat_Int, true_and, and_true, false_and, and_false, true_implies, forall_const, eq_self, and_self, or_true, true_or, or_self, false_or, or_false, yI_sI, yR_sI, yC_sI, yN_sI, yI_sR, yR_sR, yC_sR, yN_sR, not_true_eq_false, not_false_eq_true, false_implies, implies_true, Nat.zero_add, Nat.add_zero, Nat.le_refl, Nat.reduceSub, Int.reduceSub, Int.reduceLT, Int.sub_zero, Int.sub_self, List.getElem?_toArray, List.getElem?_cons_zero, List.getElem?_cons_succ, Int.toNat_zero, Int.toNat_one, Int.lt_irrefl, yI_sB, yR_sB, yC_sB, yN_sB, MSh_sB_eq, pS_alley_0, stp_aload_n, pS_alley_1, stp_getfield, qfS_12, rp_0_0, ss_C0 hS, ss_R0_0 hS, ss_C1 hS, pS_alley_4, stp_iload_n, pS_alley_5, stp_invokevirtual, qmS_89, cy_Y_hasPlace, pS_alley_8, stp_ifCond_eq, pS_alley_11, pS_alley_12, pS_alley_15, pS_alley_16, pS_alley_19, stp_ifCond_ne, pS_alley_22, pS_alley_23, stp_bipush, pS_alley_25, qmS_79, cy_S_refuse, pS_alley_28, stp_ireturn, pS_alley_29, pS_alley_30, pS_alley_31, stp_if_icmp_eq, pS_alley_34, pS_alley_35, stp_iconst, pS_alley_36, pS_alley_38, stp_invokestatic, qmS_75, cy_S_within, pS_alley_41, pS_alley_44, pS_alley_45, pS_alley_47, pS_alley_50, pS_alley_51, pS_alley_52, pS_alley_55, qfS_93, rp_1_0, ss_R1_0 hS, ss_C2 hS, pS_alley_58, qmS_96, cy_L_size, pS_alley_61, pS_alley_63, stp_if_icmp_lt, pS_alley_66, pS_alley_67, pS_alley_69, pS_alley_72, pS_alley_73, pS_alley_74, pS_alley_77, pS_alley_78, pS_alley_79, pS_alley_80, qmS_100, cy_Y_addAlley, pS_alley_83, bp_m3, ic_1, bp_30, bp_m7, bp_20, bp_m8, nv_S_alley, ml_S_alley, ru1, ru2, rs, h1, h2, h4, h5, t1, fsS_within, show ¬ (20 : Int32) < 20 by decide, rfS_8 hS, lvY_hasPlace, lvS_within, lvL_size, lvS_refuse]
            exact rf 8 (by decide) (by simp only [dM_alley, h1, h2, h4, h5, h7, Bool.true_eq_false, if_true, if_false]; rfl)
          · have hlt := okc_lt h6 (c := 20) rfl h7
            have q : nI (cn w 6) < 20 := nI_lt (b := 20) hlt (by omega)
            obtain ⟨a, ha, ex, -, -⟩ := okc_p h3 (by omega) h1
            obtain ⟨b, hb, ey, -, -⟩ := okc_p h3 (by omega) h2
            obtain ⟨t, tt1, tt2, ez⟩ := in_30 h5
            have hab : ¬ a = b := fun q => h4 (by rw [ex, ey, q])
            have mt : Mtr (grf w) (cn w 3) (dsM w) := dst_ok (iv_Y h).2.1.1.2.2.2.2.2
            have call := smY_addAlley (l := l) (G := G) (t := t) hS h3 h0 (iv_Q h).1 hlt (iv_N h).1 ha hb tt2 mt (iv_Y h).2.1.2
            rw [← ex, ← ey, ← ez] at call
            simp only [reduceCtorEq, fv0, fv1, fv2, fv3, bI_0, bI_1, bft, MSh_sI_eq, fsP_T, inL_0, inL_s, pad_0, pad_n, pad_s, wpn_s, wp1_s, lg_0, lg_s, lset_0, lset_s, kil_0, kil_s, st1_s, st2_s, isL_i, isL_l, isL_r, isL_n, spl_0, spl_s, cll_n, cll_s, catS_0, catS_s, jmp_s, alk_0, alk_s, otl_n, otl_s, List.nil_append, List.cons_append, List.contains_cons, List.contains_nil, Nat.reduceBEq, Bool.or_false, Bool.false_or, Bool.or_self, Bool.false_eq_true, Bool.true_or, Bool.or_true, if_true, if_false, ite_true, ite_false, ↓reduceIte, List.length_cons, List.length_nil, Nat.reduceAdd, Nat.reduceLT, Nat.reduceLeDiff, Nat.reduceEqDiff, Int.reduceAdd, Int.reduceLE, Int.toNat_natCast, Int.reduceToNat, Int.cast_ofNat_Int, true_and, and_true, false_and, and_false, true_implies, forall_const, eq_self, and_self, or_true, true_or, or_self, false_or, or_false, yI_sI, yR_sI, yC_sI, yN_sI, yI_sR, yR_sR, yC_sR, yN_sR, not_true_eq_false, not_false_eq_true, false_implies, implies_true, Nat.zero_add, Nat.add_zero, Nat.le_refl, Nat.reduceSub, Int.reduceSub, Int.reduceLT, Int.sub_zero, Int.sub_self, List.getElem?_toArray, List.getElem?_cons_zero, List.getElem?_cons_succ, Int.toNat_zero, Int.toNat_one, Int.lt_irrefl, yI_sB, yR_sB, yC_sB, yN_sB, MSh_sB_eq, pS_alley_0, stp_aload_n, pS_alley_1, stp_getfield, qfS_12, rp_0_0, ss_C0 hS, ss_R0_0 hS, ss_C1 hS, pS_alley_4, stp_iload_n, pS_alley_5, stp_invokevirtual, qmS_89, cy_Y_hasPlace, pS_alley_8, stp_ifCond_eq, pS_alley_11, pS_alley_12, pS_alley_15, pS_alley_16, pS_alley_19, stp_ifCond_ne, pS_alley_22, pS_alley_23, stp_bipush, pS_alley_25, qmS_79, cy_S_refuse, pS_alley_28, stp_ireturn, pS_alley_29, pS_alley_30, pS_alley_31, stp_if_icmp_eq, pS_alley_34, pS_alley_35, stp_iconst, pS_alley_36, pS_alley_38, stp_invokestatic, qmS_75, cy_S_within, pS_alley_41, pS_alley_44, pS_alley_45, pS_alley_47, pS_alley_50, pS_alley_51, pS_alley_52, pS_alley_55, qfS_93, rp_1_0, ss_R1_0 hS, ss_C2 hS, pS_alley_58, qmS_96, cy_L_size, pS_alley_61, pS_alley_63, stp_if_icmp_lt, pS_alley_66, pS_alley_67, pS_alley_69, pS_alley_72, pS_alley_73, pS_alley_74, pS_alley_77, pS_alley_78, pS_alley_79, pS_alley_80, qmS_100, cy_Y_addAlley, pS_alley_83, bp_m3, ic_1, bp_30, bp_m7, bp_20, bp_m8, nv_S_alley, ml_S_alley, ru1, ru2, rs, h1, h2, h4, h5, q, t1, fsS_within, lvY_hasPlace, lvS_within, lvL_size, lvS_refuse]
            refine ⟨9, 3, 62, by decide, by decide, by decide, call.mono fun rr w' h' => ?_⟩
            obtain ⟨rfl, w3, hP, rfl⟩ := h'
            rw [ex, ey, ez] at hP
            obtain ⟨A1, A2, A3⟩ := al_inv h rfl hlt rfl ha hb hab tt1 tt2 hP
            have d4 : dM_alley (mxU w3 (nwE (dsM w) a b t) (cn w 3) (cn w 3) 0) x y z = 0 := by
              unfold dM_alley
              rw [A2 13 0 3 (by omega), A2 13 0 6 (by omega)]
              simp only [h1, h2, h4, h5, h7, Bool.true_eq_false, if_false]
            have hM4 : MOk (mxU w3 (nwE (dsM w) a b t) (cn w 3) (cn w 3) 0) := MOk_cg A1 (fun t k i ht => A2 t k i (by omega)) hM
            have v4 : nI (cn w 6) = wI (mxU w3 (nwE (dsM w) a b t) (cn w 3) (cn w 3) 0) 13 0 6 := by rw [A2 13 0 6 (by omega)]; exact h6.1.symm
            rw [← ex, ← ey, ← ez] at A3
            revert A3 d4 hM4 v4
            generalize mxU w3 (nwE (dsM w) a b t) (cn w 3) (cn w 3) 0 = w4
            intro A3 d4 hM4 v4
            refine wpn_ok (M := mS_alley) (C := cenS) (X := (alk [])) (tb := tS_alley) (st := []) eoS XOk_nil kS_alley 60 _ _ _ _ _ _ ?_
            simp only [reduceCtorEq, fv0, fv1, fv2, fv3, bI_0, bI_1, bft, MSh_sI_eq, fsP_T, inL_0, inL_s, pad_0, pad_n, pad_s, wpn_s, wp1_s, lg_0, lg_s, lset_0, lset_s, kil_0, kil_s, st1_s, st2_s, isL_i, isL_l, isL_r, isL_n, spl_0, spl_s, cll_n, cll_s, catS_0, catS_s, jmp_s, alk_0, alk_s, otl_n, otl_s, List.nil_append, List.cons_append, List.contains_cons, List.contains_nil, Nat.reduceBEq, Bool.or_false, Bool.false_or, Bool.or_self, Bool.false_eq_true, Bool.true_or, Bool.or_true, if_true, if_false, ite_true, ite_false, ↓reduceIte, List.length_cons, List.length_nil, Nat.reduceAdd, Nat.reduceLT, Nat.reduceLeDiff, Nat.reduceEqDiff, Int.reduceAdd, Int.reduceLE, Int.toNat_natCast, Int.reduceToNat, Int.cast_ofNat_Int, true_and, and_true, false_and, and_false, true_implies, forall_const, eq_self, and_self, or_true, true_or, or_self, false_or, or_false, yI_sI, yR_sI, yC_sI, yN_sI, yI_sR, yR_sR, yC_sR, yN_sR, not_true_eq_false, not_false_eq_true, false_implies, implies_true, Nat.zero_add, Nat.add_zero, Nat.le_refl, Nat.reduceSub, Int.reduceSub, Int.reduceLT, Int.sub_zero, Int.sub_self, List.getElem?_toArray, List.getElem?_cons_zero, List.getElem?_cons_succ, Int.toNat_zero, Int.toNat_one, Int.lt_irrefl, yI_sB, yR_sB, yC_sB, yN_sB, MSh_sB_eq, pS_alley_0, stp_aload_n, pS_alley_1, stp_getfield, qfS_12, rp_0_0, pS_alley_4, stp_iload_n, pS_alley_5, stp_invokevirtual, qmS_89, cy_Y_hasPlace, pS_alley_8, stp_ifCond_eq, pS_alley_11, pS_alley_12, pS_alley_15, pS_alley_16, pS_alley_19, stp_ifCond_ne, pS_alley_22, pS_alley_23, stp_bipush, pS_alley_25, qmS_79, cy_S_refuse, pS_alley_28, stp_ireturn, pS_alley_29, pS_alley_30, pS_alley_31, stp_if_icmp_eq, pS_alley_34, pS_alley_35, stp_iconst, pS_alley_36, pS_alley_38, stp_invokestatic, qmS_75, cy_S_within, pS_alley_41, pS_alley_44, pS_alley_45, pS_alley_47, pS_alley_50, pS_alley_51, pS_alley_52, pS_alley_55, qfS_93, rp_1_0, pS_alley_58, qmS_96, cy_L_size, pS_alley_61, pS_alley_63, stp_if_icmp_lt, pS_alley_66, pS_alley_67, pS_alley_69, pS_alley_72, pS_alley_73, pS_alley_74, pS_alley_77, pS_alley_78, pS_alley_79, pS_alley_80, qmS_100, cy_Y_addAlley, pS_alley_83, bp_m3, ic_1, bp_30, bp_m7, bp_20, bp_m8, nv_S_alley, ml_S_alley, Option.toList_some]
            exact Pst_ok (d := fun w => dM_alley w x y z) (v := fun w => wI w 13 0 6) (W := fun w => alW w x y z) (okM_alley l G) (by decide) (fun _ => rfl) hM4 d4 v4 A3
end
