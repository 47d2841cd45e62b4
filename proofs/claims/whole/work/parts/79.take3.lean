/-! the way that find gives; what taking it and giving it back does -/
theorem wyK_st {g : Gf} {np a b s : Nat} {D : Nat → Nat → Nat} (hg : gfOk g np) (h : Mtr g np D) (h14 : np ≤ 14) (ha : a < np) (hb : b < np) (hf : D a b < 1000000) (hs : s < wyL g D a b) : tcB g (wyK g D a b s) (wyP g D a b s) = true ∧ D (wyP g D a b (s + 1)) b < D (wyP g D a b s) b := by
  obtain ⟨m1, m2, m3⟩ := wyL_ok hg h h14 ha hb hf
  obtain ⟨p1, p2, -⟩ := wy_ok hg h ha hb hf s (fun i hi => m3 i (by omega))
  obtain ⟨k, -, k2, k3, k4, k5, k6, k7, -⟩ := nx_ex hg h hb p1 p2 (m3 s hs)
  have e : wyK g D a b s = k := k2
  rw [e]
  refine ⟨k4, ?_⟩
  show D (otN g (nxK g D b (wyP g D a b s)) (wyP g D a b s)) b < _
  rw [k2]
  omega
theorem wyP_dec {g : Gf} {np a b i : Nat} {D : Nat → Nat → Nat} (hg : gfOk g np) (h : Mtr g np D) (h14 : np ≤ 14) (ha : a < np) (hb : b < np) (hf : D a b < 1000000) : ∀ d, i + d < wyL g D a b → D (wyP g D a b (i + d + 1)) b < D (wyP g D a b i) b
  | 0, hd => (wyK_st hg h h14 ha hb hf hd).2
  | d + 1, hd => Nat.lt_trans (wyK_st hg h h14 ha hb hf hd).2 (wyP_dec hg h h14 ha hb hf d (by omega))
theorem wyK_dj {g : Gf} {np a b i j : Nat} {D : Nat → Nat → Nat} (hg : gfOk g np) (h : Mtr g np D) (h14 : np ≤ 14) (ha : a < np) (hb : b < np) (hf : D a b < 1000000) (hij : i < j) (hj : j < wyL g D a b) : ¬ wyK g D a b i = wyK g D a b j := by
  intro e
  obtain ⟨t1, -⟩ := wyK_st hg h h14 ha hb hf (show i < wyL g D a b by omega)
  obtain ⟨t2, -⟩ := wyK_st hg h h14 ha hb hf hj
  have d1 := wyP_dec hg h h14 ha hb hf (i := i) (j - i - 1) (by omega)
  have d2 := wyP_dec hg h h14 ha hb hf (i := i) (j - i) (by omega)
  rw [show i + (j - i - 1) + 1 = j by omega] at d1
  rw [show i + (j - i) + 1 = j + 1 by omega] at d2
  rw [e] at t1
  have ot : wyP g D a b (j + 1) = otN g (wyK g D a b j) (wyP g D a b j) := rfl
  unfold tcB at t1 t2
  simp only [Bool.or_eq_true, decide_eq_true_eq] at t1 t2
  have : wyP g D a b i = wyP g D a b j ∨ wyP g D a b i = wyP g D a b (j + 1) := by
    rw [ot]
    unfold otN
    by_cases c : gfA g (wyK g D a b j) = wyP g D a b j
    · rw [if_pos c]
      rcases t1 with q | q
      · exact Or.inl (q.symm.trans c)
      · exact Or.inr q.symm
    · rw [if_neg c]
      rcases t1 with q | q
      · exact Or.inr q.symm
      · rcases t2 with z | z
        · exact absurd z c
        · exact Or.inl (q.symm.trans z)
  rcases this with q | q <;> rw [q] at d1 d2 <;> omega
/-- the way that find leaves -/
theorem WyC_fi {w : Wd} {a b x : Nat} (hC : Cpy w) (ha : a < cn w 3) (hb : b < cn w 3) (hf : dsM w a b < 1000000) : WyC (fiW w a b x) x (wyK (grf w) (dsM w) a b) (wyL (grf w) (dsM w) a b) := by
  have hD := hC.2.2.2.1
  have hM : Mtr (grf w) (cn w 3) (dsM w) := dst_ok hD.2.2.2.2.2
  have h14 := hD.2.1.2
  obtain ⟨m1, m2, m3⟩ := wyL_ok hD.2.2.2.2.1 hM h14 ha hb hf
  have S := SmW_fi w a b x (wyL (grf w) (dsM w) a b)
  unfold fiW
  refine ⟨by rw [fiS_I]; simp, m1, fun i hi => ?_⟩
  rw [SmW_c S, SmW_g S]
  refine ⟨by rw [fiS_I]; simp [hi], wyK_lt hD.2.2.2.2.1 hM h14 ha hb hf hi, by rw [fiS_I]; simp [hi], ?_⟩
  obtain ⟨-, i2⟩ := wy_aN hD.2.2.2.2.1 hM ha hb hf i (fun z hz => m3 z (by omega))
  omega
theorem CpE_W {w0 w : Wd} {E : List Ent} (h2 : w.2 = w0.2) (hI : ∀ t k i, (t = 9 ∨ t = 186 ∨ t = 13) → wI w t k i = wI w0 t k i) (h : CpE w0 E) : CpE w E := by
  intro k hk
  have e6 : cn w 6 = cn w0 6 := by unfold cn; rw [hI 13 0 6 (by omega)]
  rw [e6] at hk
  obtain ⟨⟨a0, a1, a2, a3, a4, a5⟩, a6⟩ := h k hk
  have s : szA w k = szA w0 k := by unfold szA; rw [hI 9 k 4 (by omega)]
  have m : mnA w k = mnA w0 k := by unfold mnA; rw [hI 9 k 2 (by omega)]
  have t : tkv w k = tkv w0 k := funext fun i => by unfold tkv; rw [hI 186 k i (by omega)]
  rw [s, t]
  refine ⟨⟨AlS_cg h2 a0, by rw [s, hI 9 k 4 (by omega)]; exact a1, by rw [s]; exact a2, by rw [m, hI 9 k 2 (by omega)]; exact a3, by rw [m]; exact a4, fun i hi => ?_⟩, a6⟩
  rw [s] at hi
  rw [t, hI 186 k i (by omega)]
  exact a5 i hi
theorem CpE_fi {w : Wd} {E : List Ent} {a b x s : Nat} (h : CpE w E) : CpE (fiS w a b x s) E := CpE_W (w0 := w) (fiS_2 w a b x s) (fun t k i ht => fiS_n (by omega)) h
theorem tkE_s (g : Gf) (κ : Nat → Nat) (i t : Nat) : tkE g κ (i + 1) t = tkE g κ i t ++ [(κ i, t + aN g κ i)] := by
  unfold tkE
  rw [List.range_succ, List.map_append]
  rfl
theorem tkE_m {g : Gf} {κ : Nat → Nat} {m t : Nat} {e : Ent} (h : e ∈ tkE g κ m t) : ∃ i, i < m ∧ e.1 = κ i := by
  obtain ⟨i, i1, i2⟩ := List.mem_map.mp h
  exact ⟨i, List.mem_range.mp i1, by rw [← i2]⟩
theorem tk_cp {w : Wd} {E : List Ent} {κ : Nat → Nat} {m t : Nat} (hE : CpE w E) (hk : ∀ i, i < m → κ i < cn w 6 ∧ t + aN (grf w) κ i < 2 ^ 29 ∧ szA w (κ i) < 24) (hD : ∀ i j, i < j → j < m → ¬ κ i = κ j) : ∀ i, i ≤ m → CpE (tkW w κ (aN (grf w) κ) t i) (E ++ tkE (grf w) κ i t) ∧ ∀ j, i ≤ j → j < m → szA (tkW w κ (aN (grf w) κ) t i) (κ j) = szA w (κ j)
  | 0, _ => ⟨by rw [show tkE (grf w) κ 0 t = [] from rfl, List.append_nil]; exact hE, fun j _ _ => rfl⟩
  | i + 1, hi => by
    obtain ⟨i1, i2⟩ := tk_cp hE hk hD i (by omega)
    obtain ⟨k1, k2, k3⟩ := hk i (by omega)
    have S := tkW_E w κ (aN (grf w) κ) t i
    rw [tkE_s, ← List.append_assoc]
    refine ⟨CpE_tk i1 (by rw [SmW_c (SmE_W S)]; exact k1) (by rw [i2 i (by omega) (by omega)]; exact k3) k2, fun j j1 j2 => ?_⟩
    rw [← i2 j (by omega) j2]
    have := hD i j (by omega) j2
    unfold szA
    show (wI (tk1 _ _ _) 9 (κ j) 4).toNatClampNeg = _
    rw [tk1_I, if_neg (fun q => this q.2.1.symm), if_neg (by omega)]
theorem tk_ok {w : Wd} {E : List Ent} {κ : Nat → Nat} {m t : Nat} (hE : CpE w E) (hk : ∀ i, i < m → κ i < cn w 6 ∧ t + aN (grf w) κ i < 2 ^ 29 ∧ szA w (κ i) < 24) (hD : ∀ i j, i < j → j < m → ¬ κ i = κ j) : tkO w κ (aN (grf w) κ) t m := by
  intro i hi
  obtain ⟨i1, i2⟩ := tk_cp hE hk hD i (by omega)
  obtain ⟨k1, k2, k3⟩ := hk i hi
  have S := tkW_E w κ (aN (grf w) κ) t i
  exact ⟨(i1 (κ i) (by rw [SmW_c (SmE_W S)]; exact k1)).1.2.1, by rw [i2 i (Nat.le_refl _) hi]; exact k3⟩
theorem gb_cp {w : Wd} {E : List Ent} {κ : Nat → Nat} {g : Gf} {m t : Nat} (hE : CpE w (E ++ tkE g κ m t)) (hk : ∀ i, i < m → κ i < cn w 6) (hD : ∀ i j, i < j → j < m → ¬ κ i = κ j) : ∀ i, i ≤ m → CpE (gbW w κ i) (E ++ (List.range' i (m - i)).map (fun i => (κ i, t + aN g κ i)))
  | 0, _ => by
    rw [Nat.sub_zero, ← List.range_eq_range']
    exact hE
  | i + 1, hi => by
    have ih := gb_cp hE hk hD i (by omega)
    rw [show m - i = m - (i + 1) + 1 by omega, List.range'_succ, List.map_cons] at ih
    refine (CpE_gb ih (fun e he => ?_) (by rw [SmW_c (SmE_W (gbW_E w κ i))]; exact hk i (by omega))).1
    obtain ⟨j, j1, j2⟩ := List.mem_map.mp he
    have := List.mem_range'_1.mp j1
    rw [← j2]
    exact fun q => hD i j (by omega) (by omega) q.symm
theorem gb_ok {w : Wd} {E : List Ent} {κ : Nat → Nat} {g : Gf} {m t : Nat} (hE : CpE w (E ++ tkE g κ m t)) (hk : ∀ i, i < m → κ i < cn w 6) (hD : ∀ i j, i < j → j < m → ¬ κ i = κ j) : gbO w κ m ∧ CpE (gbW w κ m) E := by
  constructor
  · intro i hi
    have ih := gb_cp hE hk hD i (by omega)
    have hk' : κ i < cn (gbW w κ i) 6 := by rw [SmW_c (SmE_W (gbW_E w κ i))]; exact hk i hi
    obtain ⟨⟨a0, a1, a2, -⟩, -⟩ := ih _ hk'
    rw [show m - i = m - (i + 1) + 1 by omega, List.range'_succ, List.map_cons] at ih
    refine ⟨a1, (CpE_gb ih (fun e he => ?_) hk').2, a2⟩
    obtain ⟨j, j1, j2⟩ := List.mem_map.mp he
    have := List.mem_range'_1.mp j1
    rw [← j2]
    exact fun q => hD i j (by omega) (by omega) q.symm
  · have := gb_cp hE hk hD m (Nat.le_refl _)
    rw [Nat.sub_self] at this
    simpa using this
theorem tkW_cg {w : Wd} {κ κ' a a' : Nat → Nat} {t : Nat} : ∀ i, (∀ j, j < i → κ j = κ' j ∧ a j = a' j) → tkW w κ a t i = tkW w κ' a' t i
  | 0, _ => rfl
  | i + 1, h => by rw [tkW, tkW, tkW_cg i (fun j hj => h j (by omega)), (h i (by omega)).1, (h i (by omega)).2]
theorem gbW_cg {w : Wd} {κ κ' : Nat → Nat} : ∀ i, (∀ j, j < i → κ j = κ' j) → gbW w κ i = gbW w κ' i
  | 0, _ => rfl
  | i + 1, h => by rw [gbW, gbW, gbW_cg i (fun j hj => h j (by omega)), h i (by omega)]
theorem ruY_take {w : Wd} {x m t : Nat} {κ : Nat → Nat} (hC : Cpy w) (hx : x < 17) (hW : WyC w x κ m) (ht : t < 2 ^ 31) (hO : tkO w κ (aN (grf w) κ) t m) : fsY_take [.inr (.inr (some (1, 0))), .inr (.inr (some (8, x))), .inl (nI t)] w = some (none, tkW w κ (aN (grf w) κ) t m) := by
  have h20 := hC.2.2.2.1.2.2.1.2
  have hW' := WyC_c (by omega) hW
  obtain ⟨e1, e2⟩ := WyC_k (by omega) hW
  have ea : ∀ j, j ≤ m → aN (grf w) (wkC w x) j = aN (grf w) κ j := fun j hj => aN_cg j (fun i hi => e2 i (by omega))
  have et : ∀ i, i ≤ m → tkW w (wkC w x) (aN (grf w) (wkC w x)) t i = tkW w κ (aN (grf w) κ) t i := fun i hi => tkW_cg i (fun j hj => ⟨e2 j (by omega), ea j (by omega)⟩)
  have : fsY_take [.inr (.inr (some (1, 0))), .inr (.inr (some (8, x))), .inl (nI t)] w = fsP (Cpy w ∧ x < 17 ∧ WyC w x (wkC w x) (wlN w x) ∧ nI t = nI (nI t).toNatClampNeg ∧ tkO w (wkC w x) (aN (grf w) (wkC w x)) (nI t).toNatClampNeg (wlN w x)) (none, tkW w (wkC w x) (aN (grf w) (wkC w x)) (nI t).toNatClampNeg (wlN w x)) := rfl
  have hO' : tkO w (wkC w x) (aN (grf w) (wkC w x)) t (wlN w x) := by
    intro i hi
    rw [e1] at hi
    rw [et i (by omega), e2 i hi]
    exact hO i hi
  rw [this, nI_clamp ht, fsP_t ⟨hC, hx, hW', rfl, hO'⟩, e1, et m (Nat.le_refl _)]
theorem ruY_giveBack {w : Wd} {x m : Nat} {κ : Nat → Nat} (hC : Cpy w) (hx : x < 17) (hW : WyC w x κ m) (hO : gbO w κ m) : fsY_giveBack [.inr (.inr (some (1, 0))), .inr (.inr (some (8, x)))] w = some (none, gbW w κ m) := by
  have h20 := hC.2.2.2.1.2.2.1.2
  have hW' := WyC_c (by omega) hW
  obtain ⟨e1, e2⟩ := WyC_k (by omega) hW
  have et : ∀ i, i ≤ m → gbW w (wkC w x) i = gbW w κ i := fun i hi => gbW_cg i (fun j hj => e2 j (by omega))
  have : fsY_giveBack [.inr (.inr (some (1, 0))), .inr (.inr (some (8, x)))] w = fsP (Cpy w ∧ x < 17 ∧ WyC w x (wkC w x) (wlN w x) ∧ gbO w (wkC w x) (wlN w x)) (none, gbW w (wkC w x) (wlN w x)) := rfl
  have hO' : gbO w (wkC w x) (wlN w x) := by
    intro i hi
    rw [e1] at hi
    rw [et i (by omega), e2 i hi]
    exact hO i hi
  rw [this, fsP_t ⟨hC, hx, hW', hO'⟩, e1, et m (Nat.le_refl _)]
