/-! calls: drive -/
theorem mp_l (F : List (Ent × Nat)) (T : List Ent) (j : Nat) : (F ++ T.map (fun e => (e, j))).map (fun f => f.1) = F.map (fun f => f.1) ++ T := by
  rw [List.map_append, List.map_map]
  congr 1
  exact List.map_id' _
theorem RfE_3 {w : Wd} {E : List Ent} {j : Nat} {a b c : Int32} (h : RfE w E) : RfE (sI (sI (sI w 125 0 j a) 123 0 j b) 124 0 j c) E := RfE_eq h rfl rfl (fun _ _ => ⟨rfl, rfl, rfl⟩)
theorem goU_2 (w : Wd) (t : Int32) (i : Nat) : (goU w t i).2 = w.2 := rfl
theorem wkW_2 (w : Wd) (a b : Nat) : (wkW w a b).2 = w.2 := rfl
theorem fiW_2 (w : Wd) (a b x : Nat) : (fiW w a b x).2 = w.2 := fiS_2 w a b x _
section
variable {l : Launch} {G : Gc} {c : Nat} {w : Wd}
/-- the class's world behind a drive of lot j from a to p -/
noncomputable def dvT (w : Wd) (E : List Ent) (t0 a p : Nat) : Nat := lfN (grf w) E (wyK (grf w) (dsM w) a p) (wyL (grf w) (dsM w) a p) t0
noncomputable def dvW (w : Wd) (E : List Ent) (t0 a p : Nat) : Wd := tkW (fiW w a p 16) (wyK (grf w) (dsM w) a p) (aN (grf w) (wyK (grf w) (dsM w) a p)) (dvT w E t0 a p) (wyL (grf w) (dsM w) a p)
noncomputable def dvL (w : Wd) (E : List Ent) (t0 a p j : Nat) : Wd := lvW (dvW w E t0 a p) j (nI p) (nI (dvT w E t0 a p + dsM w a p))
theorem dvL_I (w : Wd) (E : List Ent) (t0 a p j t k i : Nat) (h : ¬ (t = 8 ∨ t = 184 ∨ t = 185 ∨ t = 186 ∨ (t = 9 ∧ i = 4))) : wI (dvL w E t0 a p j) t k i = if t = 10 ∧ k = j ∧ i = 9 then nI (dvT w E t0 a p + dsM w a p) else if t = 10 ∧ k = j ∧ i = 8 then nI p else if t = 10 ∧ k = j ∧ i = 7 then -1 else wI w t k i := by
  have e : wI (fiW w a p 16) t k i = wI w t k i := fiS_n (by omega)
  unfold dvL lvW dvW
  rw [yI_sI, yI_sI, yI_sI, (tkW_E (fiW w a p 16) _ _ _ _).2 t k i (by omega), e]
theorem dvW_2 (w : Wd) (E : List Ent) (t0 a p : Nat) : (dvW w E t0 a p).2 = w.2 := by
  unfold dvW
  rw [(tkW_E (fiW w a p 16) _ _ _ _).1, fiW_2]
theorem dvL_2 (w : Wd) (E : List Ent) (t0 a p j : Nat) : (dvL w E t0 a p j).2 = w.2 := by
  unfold dvL lvW
  rw [sI_2, sI_2, sI_2, dvW_2]
theorem dvL_m (w : Wd) (E : List Ent) (t0 a p j : Nat) : ∀ t k i, isC t = false → wI (dvL w E t0 a p j) t k i = wI w t k i := fun t k i hc => by
  rw [dvL_I _ _ _ _ _ _ _ _ _ (by rintro (rfl | rfl | rfl | rfl | ⟨rfl, -⟩) <;> cases hc), if_neg (by rintro ⟨rfl, -⟩; cases hc), if_neg (by rintro ⟨rfl, -⟩; cases hc), if_neg (by rintro ⟨rfl, -⟩; cases hc)]
theorem cap_al {F : List (Ent × Nat)} {k j : Nat} (h : Inv c w) (h1 : CpE w (F.map (fun f => f.1))) (h4 : OwF w F) (hk : k < cn w 6) (hj : j < cn w 17) (h5 : wI w 125 0 j = -1) : szA w k < 24 := by
  have e := congrArg List.length (h1 k hk).2
  rw [List.length_map, List.length_range, List.length_map, List.filter_map, List.length_map] at e
  have := own_cap (k := k) [j] h4 (List.nodup_cons.mpr ⟨List.not_mem_nil, List.nodup_nil⟩) (fun x hx => by rw [List.mem_singleton] at hx; rw [hx]; exact ⟨hj, h5⟩) (iv_M h).2.2.2.1.2
  rw [e]
  exact Nat.lt_of_lt_of_le (Nat.lt_succ_self _) this
theorem dv_inv {F : List (Ent × Nat)} {j a p t0 : Nat} (h : Inv c w) (hc : c < 1000) (hj : j < cn w 17) (ha : a < cn w 3) (hp : p < cn w 3) (hat : wI w 123 0 j = nI a) (hf : dsM w a p < 1000000) (ht : wI w 13 0 2 = nI t0) (ht0 : t0 ≤ 1000 * c) (F1 : CpE w (F.map (fun f => f.1))) (F2 : RfE w (F.map (fun f => f.1))) (F3 : enB (grf w) (F.map (fun f => f.1)) (1400 * c)) (F4 : OwF w F) :
    tkO (fiW w a p 16) (wyK (grf w) (dsM w) a p) (aN (grf w) (wyK (grf w) (dsM w) a p)) (dvT w (F.map (fun f => f.1)) t0 a p) (wyL (grf w) (dsM w) a p) ∧ drOk (dvL w (F.map (fun f => f.1)) t0 a p j) ∧ goT (wkW (dvL w (F.map (fun f => f.1)) t0 a p j) a p) + ahI (wkW (dvL w (F.map (fun f => f.1)) t0 a p j) a p) (cn (wkW (dvL w (F.map (fun f => f.1)) t0 a p j) a p) 12) = nI (dvT w (F.map (fun f => f.1)) t0 a p + dsM w a p) ∧
    Inv (c + 1) (sI (sI (sI (goU (wkW (dvL w (F.map (fun f => f.1)) t0 a p j) a p) (goT (wkW (dvL w (F.map (fun f => f.1)) t0 a p j) a p)) (cn (wkW (dvL w (F.map (fun f => f.1)) t0 a p j) a p) 12)) 125 0 j (nI (dvT w (F.map (fun f => f.1)) t0 a p + dsM w a p))) 123 0 j (-1)) 124 0 j (nI p)) := by
  have hM := iv_M h
  have hL := iv_L h hj
  obtain ⟨a1, a2, a3, a4, a5, a6, a7, a8, a9, b1, b2, b3, b4, b5, b6, b7, b8, b9, d1, d2, d3, d4, d5, d6⟩ := id hL.2.1
  have k14 := hM.2.1.2
  have n123 : ¬ wI w 123 0 j = -1 := by rw [hat]; exact nI_nm1 (by omega)
  have s124 : wI w 124 0 j = -1 := Classical.byContradiction fun z => n123 (d5.mpr z)
  have s125 : wI w 125 0 j = -1 := d6.mpr s124
  have hk := (iv_Y h).2.1.1
  have hg := hk.2.2.2.2.1
  have hD : Mtr (grf w) (cn w 3) (dsM w) := dst_ok hk.2.2.2.2.2
  obtain ⟨m1, -, -⟩ := wyL_ok hg hD k14 ha hp hf
  obtain ⟨q1, q2⟩ := wy_sum hg hD k14 ha hp hf
  have hkl : ∀ i, i < wyL (grf w) (dsM w) a p → wyK (grf w) (dsM w) a p i < cn w 6 := fun i hi => wyK_lt hg hD k14 ha hp hf hi
  have hdj : ∀ i i', i < i' → i' < wyL (grf w) (dsM w) a p → ¬ wyK (grf w) (dsM w) a p i = wyK (grf w) (dsM w) a p i' := fun i i' h1 h2 => wyK_dj hg hD k14 ha hp hf h1 h2
  obtain ⟨dd, -, e1, e2, -⟩ := lf_ok (κ := wyK (grf w) (dsM w) a p) (m := wyL (grf w) (dsM w) a p) (t := t0) F3 (by omega) (by omega)
  have hT : dvT w (F.map (fun f => f.1)) t0 a p ≤ 1400 * c := by unfold dvT; rw [e1]; exact e2
  have haN : ∀ i, i ≤ wyL (grf w) (dsM w) a p → aN (grf w) (wyK (grf w) (dsM w) a p) i ≤ 390 := fun i hi => by
    have := aN_le (g := grf w) (κ := wyK (grf w) (dsM w) a p) hi
    omega
  have Sf := SmW_fi w a p 16 (wyL (grf w) (dsM w) a p)
  have egf : grf (fiW w a p 16) = grf w := SmW_g Sf
  have hIf : ∀ t k i, ¬ (t = 8 ∨ t = 184 ∨ t = 185) → wI (fiW w a p 16) t k i = wI w t k i := fun t k i n1 => fiS_n n1
  have c6f : cn (fiW w a p 16) 6 = cn w 6 := cn_cg (hIf _ _ _ (by omega))
  have F1f : CpE (fiW w a p 16) (F.map (fun f => f.1)) := CpE_cg (w := w) (Exw_2 (fiW_2 _ _ _ _)) (fun t k i ht => hIf t k i (by omega)) F1
  have tk := tk_cp (w := fiW w a p 16) (κ := wyK (grf w) (dsM w) a p) (m := wyL (grf w) (dsM w) a p) (t := dvT w (F.map (fun f => f.1)) t0 a p) F1f (fun i hi => by
    refine ⟨by rw [c6f]; exact hkl i hi, by rw [egf]; have := haN i (by omega); omega, ?_⟩
    have : szA (fiW w a p 16) (wyK (grf w) (dsM w) a p i) = szA w (wyK (grf w) (dsM w) a p i) := by unfold szA; rw [hIf _ _ _ (by omega)]
    rw [this]
    exact cap_al h F1 F4 (hkl i hi) hj s125) hdj
  rw [egf] at tk
  have tkO' : tkO (fiW w a p 16) (wyK (grf w) (dsM w) a p) (aN (grf w) (wyK (grf w) (dsM w) a p)) (dvT w (F.map (fun f => f.1)) t0 a p) (wyL (grf w) (dsM w) a p) := fun i hi => by
    obtain ⟨t1, t2⟩ := tk i (by omega)
    have SE := tkW_E (fiW w a p 16) (wyK (grf w) (dsM w) a p) (aN (grf w) (wyK (grf w) (dsM w) a p)) (dvT w (F.map (fun f => f.1)) t0 a p) i
    refine ⟨(t1 (wyK (grf w) (dsM w) a p i) (by rw [SmW_c (SmE_W SE), c6f]; exact hkl i hi)).1.2.1, ?_⟩
    rw [t2 i (Nat.le_refl _) hi]
    have : szA (fiW w a p 16) (wyK (grf w) (dsM w) a p i) = szA w (wyK (grf w) (dsM w) a p i) := by unfold szA; rw [hIf _ _ _ (by omega)]
    rw [this]
    exact cap_al h F1 F4 (hkl i hi) hj s125
  have CpT : CpE (dvW w (F.map (fun f => f.1)) t0 a p) (F.map (fun f => f.1) ++ tkE (grf w) (wyK (grf w) (dsM w) a p) (wyL (grf w) (dsM w) a p) (dvT w (F.map (fun f => f.1)) t0 a p)) := (tk _ (Nat.le_refl _)).1
  have m := dvL_m w (F.map (fun f => f.1)) t0 a p j
  have V := dvL_I w (F.map (fun f => f.1)) t0 a p j
  have V2 := dvL_2 w (F.map (fun f => f.1)) t0 a p j
  have V9 : ∀ t k i, t = 9 ∨ t = 186 → wI (dvL w (F.map (fun f => f.1)) t0 a p j) t k i = wI (dvW w (F.map (fun f => f.1)) t0 a p) t k i := fun t k i ht => by
    unfold dvL lvW
    rw [yI_sI, if_neg (by omega), yI_sI, if_neg (by omega), yI_sI, if_neg (by omega)]
  have W2 := dvW_2 w (F.map (fun f => f.1)) t0 a p
  refine ⟨tkO', ?_⟩
  revert m V V2 V9
  generalize dvL w (F.map (fun f => f.1)) t0 a p j = u
  intro m V V2 V9
  have egu : grf u = grf w := grf_cg fun t k i ht => m t k i (by rcases ht with ht | ⟨rfl, -⟩; (rcases (show t = 107 ∨ t = 108 ∨ t = 109 by omega) with rfl | rfl | rfl <;> rfl); rfl)
  have c3u : cn u 3 = cn w 3 := cn_cg (m _ _ _ rfl)
  have edu : dsM u = dsM w := by unfold dsM; rw [egu, c3u]
  have hku : wkOk u := wkOk_cg (MSh_of hM.1 V2) (fun t k i ht => m t k i (by rcases ht with ht | ⟨rfl, -⟩; (rcases (show t = 107 ∨ t = 108 ∨ t = 109 by omega) with rfl | rfl | rfl <;> rfl); rfl)) hk
  have hEu : RfE u (F.map (fun f => f.1)) := RfE_eq F2 egu (m _ _ _ rfl) (fun i _ => ⟨m _ _ _ rfl, m _ _ _ rfl, m _ _ _ rfl⟩)
  have hlen : (F.map (fun f => f.1)).length + 13 ≤ 500 := by
    rw [List.length_map]
    have := own_len (cn w 17) F (fun f hf => (F4.2.2 f hf).1) F4.2.1
    have := hM.2.2.2.1.2
    omega
  have go := fun (x y : Nat) (hx : x < cn u 3) (hy : y < cn u 3) (hxy : dsM u x y < 1000000) => dr_go (w := u) (B := 1400 * c) (t0 := t0) hEu hku (by rw [egu]; exact F3) (by omega) (by omega) (by rw [m _ _ _ rfl]; exact ht) hlen hx hy hxy
  refine ⟨fun x y hx hy hxy => (go x y hx hy hxy).1, ?_⟩
  obtain ⟨-, g2, g3, g4, g5⟩ := go a p (by omega) (by omega) (by rw [edu]; exact hf)
  rw [egu, edu] at g2 g3 g4 g5
  have eT : drE (grf w) (dsM w) (F.map (fun f => f.1)) t0 a p = dvT w (F.map (fun f => f.1)) t0 a p + dsM w a p := by unfold drE dvT; rfl
  rw [eT] at g2 g4
  refine ⟨g2, ?_⟩
  have e : ∀ t k i, ¬ (t = 114 ∨ t = 115 ∨ t = 116) → ¬ (t = 13 ∧ (i = 12 ∨ i = 13)) → ¬ (t = 110 ∨ t = 111) → wI (sI (sI (sI (goU (wkW u a p) (goT (wkW u a p)) (cn (wkW u a p) 12)) 125 0 j (nI (dvT w (F.map (fun f => f.1)) t0 a p + dsM w a p))) 123 0 j (-1)) 124 0 j (nI p)) t k i = if t = 124 ∧ k = 0 ∧ i = j then nI p else if t = 123 ∧ k = 0 ∧ i = j then -1 else if t = 125 ∧ k = 0 ∧ i = j then nI (dvT w (F.map (fun f => f.1)) t0 a p + dsM w a p) else wI u t k i := fun t k i n1 n2 n3 => by
    rw [yI_sI, yI_sI, yI_sI, goU_I, if_neg (show ¬ (t = 13 ∧ k = 0 ∧ i = 13) by omega), if_neg (show ¬ (t = 116 ∧ k = 0) by omega), if_neg (show ¬ (t = 115 ∧ k = 0) by omega), if_neg (show ¬ (t = 114 ∧ k = 0) by omega), wkW_I, if_neg (show ¬ (t = 13 ∧ k = 0 ∧ i = 12) by omega), if_neg (show ¬ (t = 111 ∧ k = 0) by omega), if_neg (show ¬ (t = 110 ∧ k = 0) by omega)]
  have R' : RfE (sI (sI (sI (goU (wkW u a p) (goT (wkW u a p)) (cn (wkW u a p) 12)) 125 0 j (nI (dvT w (F.map (fun f => f.1)) t0 a p + dsM w a p))) 123 0 j (-1)) 124 0 j (nI p)) (drL (grf w) (dsM w) (F.map (fun f => f.1)) t0 a p) := RfE_3 g3
  have h2 : (sI (sI (sI (goU (wkW u a p) (goT (wkW u a p)) (cn (wkW u a p) 12)) 125 0 j (nI (dvT w (F.map (fun f => f.1)) t0 a p + dsM w a p))) 123 0 j (-1)) 124 0 j (nI p)).2 = w.2 := by rw [sI_2, sI_2, sI_2, goU_2, wkW_2]; exact V2
  revert e R' h2
  generalize sI (sI (sI (goU (wkW u a p) (goT (wkW u a p)) (cn (wkW u a p) 12)) 125 0 j (nI (dvT w (F.map (fun f => f.1)) t0 a p + dsM w a p))) 123 0 j (-1)) 124 0 j (nI p) = w'
  intro e R' h2
  have g : ∀ t k i, ¬ (t = 114 ∨ t = 115 ∨ t = 116) ∧ ¬ (t = 13 ∧ (i = 12 ∨ i = 13)) ∧ ¬ (t = 110 ∨ t = 111) ∧ ¬ ((123 ≤ t ∧ t ≤ 125) ∧ i = j) ∧ ¬ (t = 8 ∨ t = 184 ∨ t = 185 ∨ t = 186 ∨ (t = 9 ∧ i = 4)) ∧ ¬ (t = 10 ∧ k = j ∧ 7 ≤ i ∧ i ≤ 9) → wI w' t k i = wI w t k i := fun t k i n => by
    rw [e _ _ _ n.1 n.2.1 n.2.2.1, if_neg (by omega), if_neg (by omega), if_neg (by omega), V _ _ _ n.2.2.2.2.1, if_neg (by omega), if_neg (by omega), if_neg (by omega)]
  have f7 : wI w' 10 j 7 = -1 := by rw [e _ _ _ (by omega) (by omega) (by omega), if_neg (by omega), if_neg (by omega), if_neg (by omega), V _ _ _ (by omega), if_neg (by omega), if_neg (by omega), if_pos ⟨rfl, rfl, rfl⟩]
  have f8 : wI w' 10 j 8 = nI p := by rw [e _ _ _ (by omega) (by omega) (by omega), if_neg (by omega), if_neg (by omega), if_neg (by omega), V _ _ _ (by omega), if_neg (by omega), if_pos ⟨rfl, rfl, rfl⟩]
  have f9 : wI w' 10 j 9 = nI (dvT w (F.map (fun f => f.1)) t0 a p + dsM w a p) := by rw [e _ _ _ (by omega) (by omega) (by omega), if_neg (by omega), if_neg (by omega), if_neg (by omega), V _ _ _ (by omega), if_pos ⟨rfl, rfl, rfl⟩]
  have f123 : wI w' 123 0 j = -1 := by rw [e _ _ _ (by omega) (by omega) (by omega), if_neg (by omega), if_pos ⟨rfl, rfl, rfl⟩]
  have f124 : wI w' 124 0 j = nI p := by rw [e _ _ _ (by omega) (by omega) (by omega), if_pos ⟨rfl, rfl, rfl⟩]
  have f125 : wI w' 125 0 j = nI (dvT w (F.map (fun f => f.1)) t0 a p + dsM w a p) := by rw [e _ _ _ (by omega) (by omega) (by omega), if_neg (by omega), if_neg (by omega), if_pos ⟨rfl, rfl, rfl⟩]
  have hMS := MSh_of hM.1 h2
  have m3 := cn_cg (w := w) (w' := w') (g 13 0 3 (by omega))
  have m17 := cn_cg (w := w) (w' := w') (g 13 0 17 (by omega))
  have m38 := cn_cg (w := w) (w' := w') (g 13 0 38 (by omega))
  have eg : grf w' = grf w := grf_cg fun t k i ht => g t k i (by omega)
  have du30 : dvT w (F.map (fun f => f.1)) t0 a p + dsM w a p < 2 ^ 30 := by omega
  refine ⟨SSh_of (iv_S h) h2, ?_, Cp0_cg' (fun t k i ht => g t k i (by omega)) (iv_0 h), IvN_cg h2 (g _ _ _ (by omega)) (g _ _ _ (by omega)) (iv_N h), IvQ_cg h2 (iv_M h).2.2.2.2.1 (fun t k i ht => g t k i (by omega)) (iv_Q h), fun i hi => ?_, IvY_cg (Exw_2 h2) hMS (fun t k i ht => g t k i (by omega)) (iv_Y h), ?_, IvP_cg (fun t k i ht => g t k i (by omega)) (iv_P h), IvW_cg (fun t k i ht => g t k i (by omega)) (iv_W h), IvT_cg (Nat.le_succ c) (g _ _ _ (by omega)) (g _ _ _ (by omega)) (iv_T h), IvK_cg (g _ _ _ (by omega)) (fun i => g _ _ _ (by omega)) (iv_K h)⟩
  · obtain ⟨-, y3, y6, y17, yR, y63, y58, y123, y67, y47⟩ := iv_M h
    refine ⟨hMS, okc_cg (g _ _ _ (by omega)) y3, okc_cg (g _ _ _ (by omega)) y6, okc_cg (g _ _ _ (by omega)) y17, ⟨okc_cg (g _ _ _ (by omega)) yR.1, fun r hr => ?_⟩, okc_cg (g _ _ _ (by omega)) y63, okc_cg (g _ _ _ (by omega)) y58, fun i hi => ?_, okc_cg (g _ _ _ (by omega)) y67, ?_⟩
    · rw [cn_cg (g _ _ _ (by omega))] at hr
      unfold cnT
      rw [g _ _ _ (by omega)]
      exact yR.2 r hr
    · rw [m17] at hi
      by_cases z : i = j
      · rw [z]; exact Or.inl f123
      · rw [m3, g _ _ _ (by omega)]; exact y123 i hi
    · rcases y47 with q | q
      · exact Or.inl (by rw [g _ _ _ (by omega)]; exact q)
      · exact Or.inr (okc_cg (g _ _ _ (by omega)) q)
  · rw [m17] at hi
    by_cases z : i = j
    · rw [z]
      refine ⟨LtS_e (Exw_2 h2) hL.1, ⟨?_, ?_, ?_, ?_, ?_, ?_, ?_, ?_, ?_, ?_, ?_, ?_, ?_, ?_, fun b hb => ?_, fun b hb => ?_, ?_, ?_, ?_, ?_, ?_, ?_, ?_, ?_⟩, BdC_cg (Nat.le_succ c) (by omega) (fun t k i ht => g t k i (by omega)) hL.2.2.1, Or.inr ⟨p, by omega, f124⟩, Or.inr ⟨_, by omega, f125⟩, by rw [g _ _ _ (by omega)]; exact hL.2.2.2.2.2.1, WgC_cg (fun t ht => g t 0 j (by omega)) hL.2.2.2.2.2.2⟩
      · rw [g _ _ _ (by omega), g _ _ _ (by omega)]; exact a1
      · rw [g _ _ _ (by omega), g _ _ _ (by omega)]; exact a2
      · rw [g _ _ _ (by omega), g _ _ _ (by omega)]; exact a3
      · rw [g _ _ _ (by omega), g _ _ _ (by omega)]; exact a4
      · rw [g _ _ _ (by omega), g _ _ _ (by omega)]; exact a5
      · rw [g _ _ _ (by omega), g _ _ _ (by omega)]; exact a6
      · rw [f7, f123]
      · rw [f8, f124]
      · rw [f9, f125]
      · rw [g _ _ _ (by omega), g _ _ _ (by omega)]; exact b1
      · rw [g _ _ _ (by omega), g _ _ _ (by omega)]; exact b2
      · rw [g _ _ _ (by omega), g _ _ _ (by omega)]; exact b3
      · rw [g _ _ _ (by omega), g _ _ _ (by omega)]; exact b4
      · rw [g _ _ _ (by omega), g _ _ _ (by omega)]; exact b5
      · rw [g _ _ _ (by omega), g _ _ _ (by omega)]; exact b6 b hb
      · rw [g _ _ _ (by omega), g _ _ _ (by omega)]; exact b7 b hb
      · rw [g 128 _ _ (by omega), g 11 _ _ (by omega), g 129 _ _ (by omega), g 118 _ _ (by omega)]; exact b8
      · rw [g 230 _ _ (by omega), g 11 _ 5 (by omega), g 133 _ _ (by omega), g 11 _ 6 (by omega), g 120 _ _ (by omega), g 132 _ _ (by omega), g 11 _ 8 (by omega), g 131 _ _ (by omega), g 128 _ _ (by omega)]; exact b9
      · rw [g 227 _ _ (by omega)]; exact d1
      · rw [g 230 _ _ (by omega)]; exact d2
      · rw [g 134 _ _ (by omega), g 230 _ _ (by omega)]; exact d3
      · rw [g 119 _ _ (by omega)]; exact d4
      · rw [f123, f124]
        exact ⟨fun _ => nI_nm1 (by omega), fun _ => rfl⟩
      · rw [f125, f124]
        exact ⟨fun z => absurd z (nI_nm1 (by omega)), fun z => absurd z (nI_nm1 (by omega))⟩
    · exact LtI_cg (Exw_2 h2) (Nat.le_succ c) (by omega) (by omega) (fun t k i ht => g t k i (by omega)) (iv_L h hi)
  · have hFj : ∀ f ∈ F, ¬ f.2 = j := fun f hf z => by
      obtain ⟨-, d, y1, -, y2⟩ := F4.2.2 f hf
      rw [z, s125] at y1
      exact nI_nm1 (by omega) y1.symm
    have mp : (F ++ (tkE (grf w) (wyK (grf w) (dsM w) a p) (wyL (grf w) (dsM w) a p) (dvT w (F.map (fun f => f.1)) t0 a p)).map (fun e => (e, j))).map (fun f => f.1) = drL (grf w) (dsM w) (F.map (fun f => f.1)) t0 a p := by
      rw [mp_l]
      unfold drL dvT
      rfl
    refine ⟨F ++ (tkE (grf w) (wyK (grf w) (dsM w) a p) (wyL (grf w) (dsM w) a p) (dvT w (F.map (fun f => f.1)) t0 a p)).map (fun e => (e, j)), ?_, ?_, ?_, ?_, fun o => ?_, fun f hf => ?_⟩
    · rw [mp]
      refine CpE_cg (Exw_2 (by rw [h2, W2])) (fun t k i ht => ?_) CpT
      rcases ht with ht | ⟨rfl, rfl⟩
      · rw [e _ _ _ (by omega) (by omega) (by omega), if_neg (by omega), if_neg (by omega), if_neg (by omega)]
        exact V9 t k i (by omega)
      · rw [g _ _ _ (by omega)]
        unfold dvW
        rw [(tkW_E (fiW w a p 16) _ _ _ _).2 _ _ _ (by omega), hIf _ _ _ (by omega)]
    · rw [mp]; exact R'
    · rw [mp, eg]; exact enB_up (by omega) g5
    · rw [List.map_append, List.nodup_append]
      refine ⟨F4.1, ?_, fun x hx y hy hxy => ?_⟩
      · unfold tkE
        rw [List.map_map, List.map_map]
        unfold List.Nodup
        rw [List.pairwise_map]
        refine List.Pairwise.imp_of_mem (fun {i i'} hi hi' hne z => ?_) (List.nodup_range (n := wyL (grf w) (dsM w) a p))
        have z1 : wyK (grf w) (dsM w) a p i = wyK (grf w) (dsM w) a p i' := congrArg Prod.fst z
        have hi := List.mem_range.mp hi
        have hi' := List.mem_range.mp hi'
        rcases Nat.lt_trichotomy i i' with q | q | q
        · exact hdj i i' q hi' z1
        · exact hne q
        · exact hdj i' i q hi z1.symm
      · obtain ⟨f, hf, rfl⟩ := List.mem_map.mp hx
        obtain ⟨f', hf', rfl⟩ := List.mem_map.mp hy
        obtain ⟨e', -, rfl⟩ := List.mem_map.mp hf'
        exact hFj f hf (congrArg Prod.snd hxy)
    · rw [List.filter_append, List.length_append]
      by_cases z : o = j
      · have y1 : (F.filter (fun f => decide (f.2 = o))) = [] := List.filter_eq_nil_iff.mpr (fun f hf => by simp [z, hFj f hf])
        rw [y1]
        refine Nat.le_trans (Nat.add_le_add_left (List.length_filter_le _ _) _) ?_
        simp [tkE]
        exact m1
      · have y1 : (((tkE (grf w) (wyK (grf w) (dsM w) a p) (wyL (grf w) (dsM w) a p) (dvT w (F.map (fun f => f.1)) t0 a p)).map (fun e => (e, j))).filter (fun f => decide (f.2 = o))) = [] := List.filter_eq_nil_iff.mpr (fun f hf => by
          obtain ⟨e', -, rfl⟩ := List.mem_map.mp hf
          simp
          exact fun q => z q.symm)
        rw [y1]
        exact F4.2.1 o
    · rw [eg]
      rcases List.mem_append.mp hf with hf | hf
      · obtain ⟨y0, d, y1, y2, y3⟩ := F4.2.2 f hf
        refine ⟨by omega, d, ?_, y2, y3⟩
        rw [g _ _ _ (by have := hFj f hf; omega)]
        exact y1
      · obtain ⟨e', he', rfl⟩ := List.mem_map.mp hf
        obtain ⟨i, hi, rfl⟩ := List.mem_map.mp he'
        have hi := List.mem_range.mp hi
        refine ⟨by show j < cn w' 17; omega, dvT w (F.map (fun f => f.1)) t0 a p + dsM w a p, f125, ?_, du30⟩
        show dvT w (F.map (fun f => f.1)) t0 a p + aN (grf w) (wyK (grf w) (dsM w) a p) i + gfT (grf w) (wyK (grf w) (dsM w) a p i) ≤ _
        have y1 := aN_le (g := grf w) (κ := wyK (grf w) (dsM w) a p) (show i + 1 ≤ wyL (grf w) (dsM w) a p from hi)
        have y2 : aN (grf w) (wyK (grf w) (dsM w) a p) (i + 1) = aN (grf w) (wyK (grf w) (dsM w) a p) i + gfT (grf w) (wyK (grf w) (dsM w) a p i) := rfl
        omega
end
