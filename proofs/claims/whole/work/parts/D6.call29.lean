/-! calls: rule -/
theorem rqA {m r t k i : Nat} (h : (t = 12 ∨ t = 270 ∨ (189 ≤ t ∧ t ≤ 191)) ∧ k = m) : RlS m r t k i := Or.inl h
theorem rqB {m r t k i : Nat} (h : t = 3 ∧ (i = 1 ∨ i = 2)) : RlS m r t k i := Or.inr (Or.inl h)
theorem rqC {m r t k i : Nat} (h : t = 13 ∧ ((60 ≤ i ∧ i ≤ 62) ∨ i = 58 ∨ i = 48)) : RlS m r t k i := Or.inr (Or.inr (Or.inl h))
theorem rqE {m r t k i : Nat} (h : (149 ≤ t ∧ t ≤ 153) ∧ i = r) : RlS m r t k i := Or.inr (Or.inr (Or.inr (Or.inl h)))
theorem rqF {m r t k i : Nat} (h : (t = 254 ∨ (155 ≤ t ∧ t ≤ 157)) ∧ 3 * r ≤ i ∧ i < 3 * r + 3) : RlS m r t k i := Or.inr (Or.inr (Or.inr (Or.inr (Or.inl h))))
theorem rqG {m r t k i : Nat} (h : t = 2 ∧ k = 2) : RlS m r t k i := Or.inr (Or.inr (Or.inr (Or.inr (Or.inr (Or.inl h)))))
theorem rqH {m r t k i : Nat} (h : t = 300) : RlS m r t k i := Or.inr (Or.inr (Or.inr (Or.inr (Or.inr (Or.inr h)))))
theorem rl_R {m r t k i : Nat} (hn : ¬ RlS m r t k i) : ¬ ((t = 13 ∧ (i = 60 ∨ i = 61 ∨ i = 62)) ∨ ((t = 149 ∨ t = 150 ∨ t = 153) ∧ i = r) ∨ ((t = 254 ∨ t = 155 ∨ t = 156 ∨ t = 157) ∧ 3 * r ≤ i ∧ i < 3 * r + 3)) := by
  rintro (z | z | z)
  · exact hn (rqC ⟨z.1, by omega⟩)
  · exact hn (rqE ⟨by omega, z.2⟩)
  · exact hn (rqF ⟨by omega, z.2⟩)
theorem rl_V {m r t k i : Nat} (hn : ¬ RlS m r t k i) : ¬ ((t = 3 ∧ i = 2) ∨ (((t = 12 ∧ 6 ≤ i) ∨ t = 270 ∨ t = 189 ∨ t = 190 ∨ t = 191) ∧ k = m)) := by
  rintro (z | z)
  · exact hn (rqB ⟨z.1, Or.inr z.2⟩)
  · exact hn (rqA ⟨by omega, z.2⟩)
theorem rl_U {m r t k i a b c d e : Nat} (hn : ¬ RlS m r t k i) (ha : a = m) (hb : b = m) (hc : c = m) (hd : d = m) (he : e = m) : ¬ ((t = 12 ∧ k = a) ∨ (t = 270 ∧ k = b) ∨ (t = 189 ∧ k = c) ∨ (t = 190 ∧ k = d) ∨ (t = 191 ∧ k = e)) := by
  rintro (z | z | z | z | z)
  · exact hn (rqA ⟨by omega, by omega⟩)
  · exact hn (rqA ⟨by omega, by omega⟩)
  · exact hn (rqA ⟨by omega, by omega⟩)
  · exact hn (rqA ⟨by omega, by omega⟩)
  · exact hn (rqA ⟨by omega, by omega⟩)
section
variable {l : Launch} {G : Gc} {c : Nat} {w : Wd}
theorem rl_no {m r : Nat} {w1 w2 : Wd} {a b : Int32} (h : Inv c w) (hm : m = wC w 12) (hr : r = cn w 48) (hV : SmV m (nuW w a b) w1) (hR : SmR r w1 w2) : Inv (c + 1) w2 := by
  obtain ⟨n9, n186, n10, n11, n187, n188, n270, n189, n190, n191⟩ := iv_N h
  rw [← hm] at n270 n189 n190 n191
  have hu : w2.2 = (nuW w a b).2 := hR.1.trans hV.1
  obtain ⟨s1, s2, s3, s4, -⟩ := nu_sh h hu
  have g' : ∀ t k i, ¬ RlS m r t k i → wI w2 t k i = wI w t k i := fun t k i hn => by
    rw [hR.2 t k i (rl_R hn), hV.2 t k i (rl_V hn), nuW_I _ _ _ _ _ _ (rl_U hn hm.symm n270 n189 n190 n191)]
  have g : ∀ t k i, ¬ (((t = 12 ∨ t = 270 ∨ (189 ≤ t ∧ t ≤ 191)) ∧ k = m) ∨ (t = 3 ∧ (i = 1 ∨ i = 2)) ∨ (t = 13 ∧ ((60 ≤ i ∧ i ≤ 62) ∨ i = 58 ∨ i = 48)) ∨ ((149 ≤ t ∧ t ≤ 153) ∧ i = r) ∨ ((t = 254 ∨ (155 ≤ t ∧ t ≤ 157)) ∧ 3 * r ≤ i ∧ i < 3 * r + 3) ∨ (t = 2 ∧ k = 2) ∨ t = 300) → wI w2 t k i = wI w t k i := g'
  have gN : ∀ k i, ¬ (60 ≤ i ∧ i ≤ 62) → wI w2 13 k i = wI w 13 k i := fun k i hn => by
    rw [hR.2 13 k i (by omega), hV.2 13 k i (by omega), nuW_I _ _ _ _ _ _ (by omega)]
  have g31 : wI w2 3 0 1 = wI w 3 0 1 := by rw [hR.2 _ _ _ (by omega), hV.2 _ _ _ (by omega), nuW_I _ _ _ _ _ _ (by omega)]
  have g22 : ∀ k, wI w2 2 k 2 = wI w 2 k 2 := fun k => by rw [hR.2 _ _ _ (by omega), hV.2 _ _ _ (by omega), nuW_I _ _ _ _ _ _ (by omega)]
  have e48 := cn_cg (w := w) (w' := w2) (gN 0 48 (by omega))
  have e58 := cn_cg (w := w) (w' := w2) (gN 0 58 (by omega))
  have LA := iv_Q h
  have Lx : ∀ i n el, LiA w i n el → LiA w2 i n el := fun i n el hh => LiA_x (fun k q => by rw [w2_R hu, nuW_R _ _ _ _ _ _ (by omega)]) (fun k q => by rw [w2_R hu, nuW_R _ _ _ _ _ _ (by omega)]) (by rw [w2_C hu, nuW_C, if_neg (by omega), if_neg (by omega), if_neg (by omega), if_neg (by omega), if_neg (by omega)]) (by rw [w2_C hu, nuW_C, if_neg (by omega), if_neg (by omega), if_neg (by omega), if_neg (by omega), if_neg (by omega)]) (fun k => by rw [w2_N hu, nuW_N, if_neg (by omega), if_neg (by omega), if_neg (by omega), if_neg (by omega), if_neg (by omega)]) (g22 _) hh
  obtain ⟨ρ, r1, r2⟩ := LA.2.2.1
  have hRo := (iv_M h).2.2.2.2.1
  refine rl_all (m := m) (r := r) h s3 s1 s2 (IvN_cg (w := sI (sI w2 13 0 6 (wI w 13 0 6)) 13 0 17 (wI w 13 0 17)) rfl (by rw [yI_sI, if_neg (by omega), yI_sI, if_pos ⟨rfl, rfl, rfl⟩]; exact g _ _ _ (by omega)) (by rw [yI_sI, if_pos ⟨rfl, rfl, rfl⟩]; exact g _ _ _ (by omega)) s4) ⟨?_, ?_, ⟨ρ, ?_, fun q hq => ?_⟩, ?_⟩ ⟨okc_cg (gN _ _ (by omega)) hRo.1, fun q hq => ?_⟩ (okc_cg (gN _ _ (by omega)) (iv_M h).2.2.2.2.2.2.1) ?_ (fun i hi => ?_) g'
  · rw [cn_cg (g _ _ _ (by omega))]; exact Lx _ _ _ LA.1
  · rw [cn_cg (g _ _ _ (by omega))]; exact Lx _ _ _ LA.2.1
  · rw [e48]; exact Lx _ _ _ r1
  · rw [e48] at hq
    have hlt := (r2 q hq).1.1
    exact ⟨RuS_e s3 (r2 q hq).1, RuC_cg (fun t k i ht => g t k i (by omega)) (hRo.2 q hq).2 (r2 q hq).2⟩
  · exact LiD_x (fun k q => by rw [w2_R hu, nuW_R _ _ _ _ _ _ (by omega)]) LA.2.2.2
  · rw [e48] at hq
    have e : wI w2 153 0 q = wI w 153 0 q := g _ _ _ (by omega)
    unfold cnT
    rw [e]
    exact hRo.2 q hq
  · rw [g31, gN _ _ (by omega)]; exact (iv_0 h).2.2.1
  · rw [e58] at hi
    rw [g _ _ _ (by omega), g _ _ _ (by omega)]; exact (iv_0 h).2.2.2.2.2.2.1 i hi
theorem rl_yes {m r : Nat} {w1 w3 w4 : Wd} {a b ky nb : Int32} {s : RS} {ts : List Tst} {ρ : Nat → Nat} (h : Inv c w) (hm : m = wC w 12) (hr : r = cn w 48) (hr10 : r < 10) (hV : SmV m (nuW w a b) w1) (r1 : LiA w 2 (cn w 48) (fun q => (12, ρ q))) (r2 : ∀ q, q < cn w 48 → RuS w (ρ q) ∧ RuC w (ρ q) q) (hP : LiP (sI w1 3 0 1 0) w3 2 r (fun q => (12, ρ q)) (12, m)) (hJ : RdJ w3 w4 r ky nb s ts) (hT : RuT w1 m ts) (h7 : wI w1 12 m 7 = swK ky) (h8 : wI w1 12 m 8 = nb) (hsg : ∀ t ∈ ts, sgT t) (hl3 : ts.length ≤ 3) (hky : ky = 0 ∨ ky = 1 ∨ ky = 2 ∨ ky = 3) : Inv (c + 1) (sI (sI (sI (sI w4 151 0 r a) 152 0 r b) 13 0 58 0) 13 0 48 (nI (r + 1))) := by
  obtain ⟨n9, n186, n10, n11, n187, n188, n270, n189, n190, n191⟩ := iv_N h
  rw [← hm] at n270 n189 n190 n191
  obtain ⟨hR, -, -, J4, J5, J6, J7⟩ := hJ
  obtain ⟨p1, p2, p3, p4, p5, p6, p7⟩ := id hP
  have hu : w1.2 = (nuW w a b).2 := hV.1
  obtain ⟨s1, s2, s3, s4, s5⟩ := nu_sh h hu
  rw [← hm] at s5
  have I4 : ∀ t k i, wI (sI (sI (sI (sI w4 151 0 r a) 152 0 r b) 13 0 58 0) 13 0 48 (nI (r + 1))) t k i = if t = 13 ∧ k = 0 ∧ i = 48 then nI (r + 1) else if t = 13 ∧ k = 0 ∧ i = 58 then 0 else if t = 152 ∧ k = 0 ∧ i = r then b else if t = 151 ∧ k = 0 ∧ i = r then a else wI w4 t k i := fun t k i => by rw [yI_sI, yI_sI, yI_sI, yI_sI]
  have h2 : (sI (sI (sI (sI w4 151 0 r a) 152 0 r b) 13 0 58 0) 13 0 48 (nI (r + 1))).2 = w3.2 := hR.1
  revert I4 h2
  generalize sI (sI (sI (sI w4 151 0 r a) 152 0 r b) 13 0 58 0) 13 0 48 (nI (r + 1)) = w'
  intro I4 h2
  have g' : ∀ t k i, ¬ RlS m r t k i → wI w' t k i = wI w t k i := fun t k i hn => by
    rw [I4, if_neg (fun z => hn (rqC ⟨z.1, by omega⟩)), if_neg (fun z => hn (rqC ⟨z.1, by omega⟩)), if_neg (fun z => hn (rqE ⟨by omega, z.2.2⟩)), if_neg (fun z => hn (rqE ⟨by omega, z.2.2⟩)), hR.2 t k i (rl_R hn), p1 t k i (fun z => hn (rqG z)) (fun z => hn (rqH z)), yI_sI, if_neg (fun z => hn (rqB ⟨z.1, Or.inl z.2.2⟩)), hV.2 t k i (rl_V hn), nuW_I _ _ _ _ _ _ (rl_U hn hm.symm n270 n189 n190 n191)]
  have g : ∀ t k i, ¬ (((t = 12 ∨ t = 270 ∨ (189 ≤ t ∧ t ≤ 191)) ∧ k = m) ∨ (t = 3 ∧ (i = 1 ∨ i = 2)) ∨ (t = 13 ∧ ((60 ≤ i ∧ i ≤ 62) ∨ i = 58 ∨ i = 48)) ∨ ((149 ≤ t ∧ t ≤ 153) ∧ i = r) ∨ ((t = 254 ∨ (155 ≤ t ∧ t ≤ 157)) ∧ 3 * r ≤ i ∧ i < 3 * r + 3) ∨ (t = 2 ∧ k = 2) ∨ t = 300) → wI w' t k i = wI w t k i := g'
  have gm : ∀ t i, (t = 12 ∨ t = 270 ∨ t = 189 ∨ t = 190 ∨ t = 191) → wI w' t m i = wI w1 t m i := fun t i ht => by
    rw [I4, if_neg (by omega), if_neg (by omega), if_neg (by omega), if_neg (by omega), hR.2 t m i (by omega), p1 t m i (by omega) (by omega), yI_sI, if_neg (by omega)]
  have R3 : ∀ t k q, ¬ t = 2 → ¬ t = 300 → wR w' t k q = wR w1 t k q := fun t k q c1 c2 => by rw [w2_R h2, p2 t k q (by omega) (by omega)]; rfl
  have C3 : ∀ t, ¬ t = 300 → wC w' t = wC w1 t := fun t c1 => by rw [w2_C h2, p3 t c1]; rfl
  have c300 : wC w1 300 ≤ wC w' 300 := by rw [w2_C h2]; exact p4
  have N3 : ∀ t k, ¬ (t = 300 ∧ wC w1 300 ≤ k) → wN w' t k = wN w1 t k := fun t k c1 => by rw [w2_N h2, p5 t k c1]; rfl
  have hE : Exw w w' := by
    obtain ⟨x1, x2, x3⟩ := s3
    refine ⟨fun t k q hk c1 c2 => by rw [R3 t k q c1 c2]; exact x1 t k q hk c1 c2, fun t => ?_, fun t k hk => by rw [N3 t k (fun z => by have := x2 300; rw [z.1] at hk; omega)]; exact x3 t k hk⟩
    by_cases z : t = 300
    · have := x2 300
      rw [z]; omega
    · rw [C3 t z]; exact x2 t
  have hSS : SSh w' := SSh_x (fun t k q ht => R3 t k q (by omega) (by omega)) (fun t ht => C3 t (by omega)) (fun t k ht => N3 t k (by omega)) s1
  have hMS : MSh w' := MSh_x (fun q => R3 _ _ _ (by omega) (by omega)) (fun t ht => C3 t (by omega)) (fun t k ht => N3 t k (by omega)) s2
  have f48 : wI w' 13 0 48 = nI (r + 1) := by rw [I4, if_pos ⟨rfl, rfl, rfl⟩]
  have e48 : cn w' 48 = r + 1 := by rw [cn, f48]; exact nI_clamp (by omega)
  have f58 : wI w' 13 0 58 = 0 := by rw [I4, if_neg (by omega), if_pos ⟨rfl, rfl, rfl⟩]
  have e58 : cn w' 58 = 0 := by rw [cn, f58]; rfl
  have e6 := cn_cg (w := w) (w' := w') (g 13 0 6 (by omega))
  have e17 := cn_cg (w := w) (w' := w') (g 13 0 17 (by omega))
  have LA := iv_Q h
  have Lu : ∀ i n el, LiA w i n el → LiA (sI w1 3 0 1 0) i n el := fun i n el hh => LiA_x (fun k q => by show wR w1 2 k q = _; rw [w2_R hu, nuW_R _ _ _ _ _ _ (by omega)]) (fun k q => by show wR w1 300 k q = _; rw [w2_R hu, nuW_R _ _ _ _ _ _ (by omega)]) (by show wC w1 2 = _; rw [w2_C hu, nuW_C, if_neg (by omega), if_neg (by omega), if_neg (by omega), if_neg (by omega), if_neg (by omega)]) (by show wC w1 300 = _; rw [w2_C hu, nuW_C, if_neg (by omega), if_neg (by omega), if_neg (by omega), if_neg (by omega), if_neg (by omega)]) (fun k => by show wN w1 300 k = _; rw [w2_N hu, nuW_N, if_neg (by omega), if_neg (by omega), if_neg (by omega), if_neg (by omega), if_neg (by omega)]) (by rw [yI_sI, if_neg (by omega), hV.2 _ _ _ (by omega), nuW_I _ _ _ _ _ _ (by omega)]) hh
  have Du : LiD (sI w1 3 0 1 0) := LiD_x (fun k q => by show wR w1 2 k q = _; rw [w2_R hu, nuW_R _ _ _ _ _ _ (by omega)]) LA.2.2.2
  have U0 := Lu _ _ _ LA.1
  have U1 := Lu _ _ _ LA.2.1
  have U2 := Lu _ _ _ r1
  have i2 : ∀ i, wI w' 2 i 2 = wI w3 2 i 2 := fun i => by rw [I4, if_neg (by omega), if_neg (by omega), if_neg (by omega), if_neg (by omega), hR.2 _ _ _ (by omega)]
  have hRo := (iv_M h).2.2.2.2.1
  have s153 : wI w' 153 0 r = nI ts.length := by rw [I4, if_neg (by omega), if_neg (by omega), if_neg (by omega), if_neg (by omega)]; exact J6
  have ct : cnT w' r = ts.length := by unfold cnT; rw [s153]; exact nI_clamp (by omega)
  refine rl_all (m := m) (r := r) h hE hSS hMS ?_ ⟨?_, ?_, ⟨fun q => if q = r then m else ρ q, ?_, fun q hq => ?_⟩, ?_⟩ ⟨⟨by rw [e48, f48], by omega⟩, fun q hq => ?_⟩ ⟨by rw [e58, f58]; rfl, by omega⟩ ?_ (fun i hi => by omega) g'
  · have q : IvN (sI (sI w1 13 0 6 (wI w 13 0 6)) 13 0 17 (wI w 13 0 17)) := s4
    have y6 : cn (sI (sI w1 13 0 6 (wI w 13 0 6)) 13 0 17 (wI w 13 0 17)) 6 = cn w 6 := by unfold cn; rw [yI_sI, if_neg (by omega), yI_sI, if_pos ⟨rfl, rfl, rfl⟩]
    have y17 : cn (sI (sI w1 13 0 6 (wI w 13 0 6)) 13 0 17 (wI w 13 0 17)) 17 = cn w 17 := by unfold cn; rw [yI_sI, if_pos ⟨rfl, rfl, rfl⟩]
    have yc : ∀ t, wC (sI (sI w1 13 0 6 (wI w 13 0 6)) 13 0 17 (wI w 13 0 17)) t = wC w1 t := fun _ => rfl
    unfold IvN at q ⊢
    simp only [yc, y6, y17] at q
    rw [e6, e17, C3 9 (by omega), C3 186 (by omega), C3 10 (by omega), C3 11 (by omega), C3 187 (by omega), C3 188 (by omega), C3 270 (by omega), C3 12 (by omega), C3 189 (by omega), C3 190 (by omega), C3 191 (by omega)]
    exact q
  · rw [e6]
    exact LiA_cg h2 (i2 _) (LiA_o hP (by omega) (fun x hx => Du 0 2 (by omega) (by omega) (by omega) x hx) U0)
  · rw [e17]
    exact LiA_cg h2 (i2 _) (LiA_o hP (by omega) (fun x hx => Du 1 2 (by omega) (by omega) (by omega) x hx) U1)
  · rw [e48]
    refine LiA_cg h2 (i2 _) (LiA_el (fun j _ => ?_) p6)
    show (if j = r then (12, m) else (12, ρ j)) = (12, if j = r then m else ρ j)
    by_cases z : j = r
    · rw [if_pos z, if_pos z]
    · rw [if_neg z, if_neg z]
  · rw [e48] at hq
    show RuS w' (if q = r then m else ρ q) ∧ RuC w' (if q = r then m else ρ q) q
    by_cases z : q = r
    · rw [if_pos z, z]
      obtain ⟨t1, t2, t3⟩ := hT
      obtain ⟨v0, v1, -⟩ := nuW_v w a b
      rw [← hm] at v0 v1
      refine ⟨?_, ?_, ?_, ?_, ?_, ?_, fun i hi => ?_, ?_⟩
      · obtain ⟨z1, z2, z3, z4, z5, z6, z7, z8, z9, y1, y2, y3, y4⟩ := t1
        refine ⟨?_, ?_, ?_, ?_, ?_, ?_, ?_, ?_, ?_, ?_, ?_, ?_, ?_⟩
        · rw [C3 _ (by omega)]; exact z1
        · rw [R3 _ _ _ (by omega) (by omega)]; exact z2
        · rw [R3 _ _ _ (by omega) (by omega)]; exact z3
        · rw [R3 _ _ _ (by omega) (by omega)]; exact z4
        · rw [R3 _ _ _ (by omega) (by omega)]; exact z5
        · rw [C3 _ (by omega)]; exact z6
        · rw [N3 _ _ (by omega)]; exact z7
        · rw [C3 _ (by omega)]; exact z8
        · rw [N3 _ _ (by omega)]; exact z9
        · rw [C3 _ (by omega)]; exact y1
        · rw [N3 _ _ (by omega)]; exact y2
        · rw [C3 _ (by omega)]; exact y3
        · rw [N3 _ _ (by omega)]; exact y4
      · rw [gm _ _ (by omega), hV.2 _ _ _ (by omega), v0, I4, if_neg (by omega), if_neg (by omega), if_neg (by omega), if_pos ⟨rfl, rfl, rfl⟩]
      · rw [gm _ _ (by omega), hV.2 _ _ _ (by omega), v1, I4, if_neg (by omega), if_neg (by omega), if_pos ⟨rfl, rfl, rfl⟩]
      · rw [gm _ _ (by omega), s153]; exact t2
      · rw [gm _ _ (by omega), h7, I4, if_neg (by omega), if_neg (by omega), if_neg (by omega), if_neg (by omega), J4]
      · rw [gm _ _ (by omega), h8, I4, if_neg (by omega), if_neg (by omega), if_neg (by omega), if_neg (by omega), J5]
      · rw [ct] at hi
        obtain ⟨t, ht⟩ : ∃ t, ts[i]? = some t := ⟨_, List.getElem?_eq_getElem hi⟩
        obtain ⟨x1, x2, x3, x4⟩ := t3 i t ht
        obtain ⟨y1, y2, y3, y4⟩ := J7 i t ht
        have sg := hsg t (List.mem_of_getElem? ht)
        have I5 : ∀ u j, ¬ (u = 13 ∨ u = 151 ∨ u = 152) → wI w' u 0 j = wI w4 u 0 j := fun u j hu => by rw [I4, if_neg (by omega), if_neg (by omega), if_neg (by omega), if_neg (by omega)]
        rw [gm _ _ (by omega), gm _ _ (by omega), gm _ _ (by omega), gm _ _ (by omega), I5 254 _ (by omega), I5 155 _ (by omega), I5 156 _ (by omega), I5 157 _ (by omega), x1, x2, x3, x4, y1, y2, y3, y4]
        refine ⟨rfl, rfl, rfl, rfl, sg, ?_⟩
        cases t.1
        · exact Or.inl rfl
        · exact Or.inr rfl
      · rw [I4, if_neg (by omega), if_neg (by omega), if_neg (by omega), if_neg (by omega), J4]; exact hky
    · rw [if_neg z]
      have hq' : q < cn w 48 := by omega
      have hlt := (r2 q hq').1.1
      exact ⟨RuS_e hE (r2 q hq').1, RuC_cg (fun t k i ht => g t k i (by omega)) (hRo.2 q hq').2 (r2 q hq').2⟩
  · refine LiD_x (fun k q => w2_R h2 2 k q) (LiD_P hP (fun j hj x hx => ?_) Du (by omega))
    rcases (show j = 0 ∨ j = 1 ∨ j = 2 by omega) with rfl | rfl | rfl
    · exact LiA_ar U0 hx
    · exact LiA_ar U1 hx
    · exact LiA_ar U2 hx
  · rw [e48] at hq
    by_cases z : q = r
    · rw [z, ct, s153]; exact ⟨rfl, hl3⟩
    · have e : wI w' 153 0 q = wI w 153 0 q := g _ _ _ (by omega)
      unfold cnT
      rw [e]
      exact hRo.2 q (by omega)
  · rw [f58, I4, if_neg (by omega), if_neg (by omega), if_neg (by omega), if_neg (by omega), hR.2 _ _ _ (by omega), p1 _ _ _ (by omega) (by omega), yI_sI, if_pos ⟨rfl, rfl, rfl⟩]
end
