/-! ArrayList.add, whole -/
def LiA (w : Wd) (i n : Nat) (el : Nat → Nat × Nat) : Prop := wI w 2 i 2 = nI n ∧ n ≤ 24 ∧ i < wC w 2 ∧ ((n = 0 ∧ wR w 2 i 1 = some (900, 0)) ∨ ∃ x, wR w 2 i 1 = some (300, x) ∧ x < wC w 300 ∧ n ≤ wN w 300 x ∧ (wN w 300 x = 10 ∨ wN w 300 x = 15 ∨ wN w 300 x = 22 ∨ wN w 300 x = 33) ∧ ∀ j, j < n → wR w 300 x j = some (el j))
theorem LiA_S {w : Wd} {i n : Nat} {el : Nat → Nat × Nat} (h : LiA w i n el) : LiS w i n el := by
  obtain ⟨h1, h2, h3, h4⟩ := h
  refine ⟨h1, h2, h3, ?_⟩
  rcases h4 with ⟨h4, -⟩ | ⟨x, q1, q2, q3, q4, q5⟩
  · exact Or.inl h4
  · exact Or.inr ⟨x, q1, q2, q3, by omega, q5⟩
def LiP (w w' : Wd) (i n : Nat) (el : Nat → Nat × Nat) (v : Nat × Nat) : Prop := (∀ t k q, ¬ (t = 2 ∧ k = i) → ¬ t = 300 → wI w' t k q = wI w t k q) ∧ (∀ t k q, ¬ (t = 2 ∧ k = i ∧ q = 1) → ¬ (t = 300 ∧ (wR w 2 i 1 = some (300, k) ∨ wC w 300 ≤ k)) → wR w' t k q = wR w t k q) ∧ (∀ t, ¬ t = 300 → wC w' t = wC w t) ∧ wC w 300 ≤ wC w' 300 ∧ (∀ t k, ¬ (t = 300 ∧ wC w 300 ≤ k) → wN w' t k = wN w t k) ∧ LiA w' i (n + 1) (fun j => if j = n then v else el j) ∧ (∀ y, wR w' 2 i 1 = some (300, y) → wR w 2 i 1 = some (300, y) ∨ wC w 300 ≤ y)
theorem cpW_I (w : Wd) (x c c' t k q : Nat) : wI (cpW w x c c') t k q = if t = 300 ∧ k = wC w 300 then 0 else wI w t k q := by unfold cpW; rw [yI_sQ, yI_nC]
theorem cpW_R (w : Wd) (x c c' t k q : Nat) : wR (cpW w x c c') t k q = if t = 300 ∧ k = wC w 300 then (if q < c then wR w 300 x q else none) else wR w t k q := by
  unfold cpW
  rw [yR_sQ, yR_nC]
  by_cases d : t = 300 ∧ k = wC w 300
  · rw [if_pos d, if_pos d]
  · rw [if_neg d, if_neg d, if_neg d]
theorem cpW_C (w : Wd) (x c c' t : Nat) : wC (cpW w x c c') t = if t = 300 then wC w 300 + 1 else wC w t := by unfold cpW; rw [yC_sQ, yC_nC]
theorem cpW_N (w : Wd) (x c c' t k : Nat) : wN (cpW w x c c') t k = if t = 300 ∧ k = wC w 300 then c' else wN w t k := by unfold cpW; rw [yN_sQ, yN_nC]
/-- the three ways of an add: into a first array, into the array that stands, into a longer one -/
def laA (w : Wd) (i : Nat) (v : Nat × Nat) : Wd := sI (sR (sR (nC w 300 10) 2 i 1 (some (300, wC w 300))) 300 (wC w 300) 0 (some v)) 2 i 2 (nI 1)
def laB (w : Wd) (i x n : Nat) (v : Nat × Nat) : Wd := sI (sR w 300 x n (some v)) 2 i 2 (nI (n + 1))
def laC (w : Wd) (i x n c' : Nat) (v : Nat × Nat) : Wd := sI (sR (sR (cpW w x n c') 2 i 1 (some (300, wC w 300))) 300 (wC w 300) n (some v)) 2 i 2 (nI (n + 1))
theorem LiP_A {w : Wd} {i : Nat} {el : Nat → Nat × Nat} {v : Nat × Nat} (hi : i < wC w 2) : LiP w (laA w i v) i 0 el v := by
  have eI : ∀ t k q, wI (laA w i v) t k q = if t = 2 ∧ k = i ∧ q = 2 then nI 1 else if t = 300 ∧ k = wC w 300 then 0 else wI w t k q := fun t k q => by unfold laA; rw [yI_sI, yI_sR, yI_sR, yI_nC]
  have eR : ∀ t k q, wR (laA w i v) t k q = if t = 300 ∧ k = wC w 300 ∧ q = 0 then some v else if t = 2 ∧ k = i ∧ q = 1 then some (300, wC w 300) else if t = 300 ∧ k = wC w 300 then none else wR w t k q := fun t k q => by unfold laA; rw [yR_sI, yR_sR, yR_sR, yR_nC]
  have eC : ∀ t, wC (laA w i v) t = if t = 300 then wC w 300 + 1 else wC w t := fun t => by unfold laA; rw [yC_sI, yC_sR, yC_sR, yC_nC]
  have eN : ∀ t k, wN (laA w i v) t k = if t = 300 ∧ k = wC w 300 then 10 else wN w t k := fun t k => by unfold laA; rw [yN_sI, yN_sR, yN_sR, yN_nC]
  refine ⟨fun t k q h1 h2 => by rw [eI, if_neg (by omega), if_neg (by omega)], fun t k q h1 h2 => ?_, fun t h => by rw [eC, if_neg h], by rw [eC, if_pos rfl]; omega, fun t k h => by rw [eN, if_neg (by omega)], ⟨by rw [eI, if_pos ⟨rfl, rfl, rfl⟩], by omega, by rw [eC, if_neg (by omega)]; exact hi, Or.inr ⟨wC w 300, by rw [eR, if_neg (by omega), if_pos ⟨rfl, rfl, rfl⟩], by rw [eC, if_pos rfl]; omega, by rw [eN, if_pos ⟨rfl, rfl⟩]; omega, by rw [eN, if_pos ⟨rfl, rfl⟩]; omega, fun j hj => ?_⟩⟩, fun y hy => ?_⟩
  · have h3 : ¬ (t = 300 ∧ k = wC w 300) := fun z => h2 ⟨z.1, Or.inr (by omega)⟩
    rw [eR, if_neg (fun z => h3 ⟨z.1, z.2.1⟩), if_neg h1, if_neg h3]
  · have : j = 0 := by omega
    subst this
    rw [eR, if_pos ⟨rfl, rfl, rfl⟩]; simp only [if_true]
  · rw [eR, if_neg (by omega), if_pos ⟨rfl, rfl, rfl⟩] at hy
    cases hy
    exact Or.inr (Nat.le_refl _)
theorem LiP_B {w : Wd} {i n x : Nat} {el : Nat → Nat × Nat} {v : Nat × Nat} (hi : i < wC w 2) (hn : n < 24) (h1 : wR w 2 i 1 = some (300, x)) (hx : x < wC w 300) (hN : n < wN w 300 x) (hcap : wN w 300 x = 10 ∨ wN w 300 x = 15 ∨ wN w 300 x = 22 ∨ wN w 300 x = 33) (hel : ∀ j, j < n → wR w 300 x j = some (el j)) : LiP w (laB w i x n v) i n el v := by
  have eI : ∀ t k q, wI (laB w i x n v) t k q = if t = 2 ∧ k = i ∧ q = 2 then nI (n + 1) else wI w t k q := fun t k q => by unfold laB; rw [yI_sI, yI_sR]
  have eR : ∀ t k q, wR (laB w i x n v) t k q = if t = 300 ∧ k = x ∧ q = n then some v else wR w t k q := fun t k q => by unfold laB; rw [yR_sI, yR_sR]
  have eC : ∀ t, wC (laB w i x n v) t = wC w t := fun t => by unfold laB; rw [yC_sI, yC_sR]
  have eN : ∀ t k, wN (laB w i x n v) t k = wN w t k := fun t k => by unfold laB; rw [yN_sI, yN_sR]
  refine ⟨fun t k q h1 h2 => by rw [eI, if_neg (by omega)], fun t k q h3 h2 => ?_, fun t h => eC t, by rw [eC]; omega, fun t k h => eN t k, ⟨by rw [eI, if_pos ⟨rfl, rfl, rfl⟩], by omega, by rw [eC]; exact hi, Or.inr ⟨x, by rw [eR, if_neg (by omega)]; exact h1, by rw [eC]; exact hx, by rw [eN]; omega, by rw [eN]; exact hcap, fun j hj => ?_⟩⟩, fun y hy => ?_⟩
  · rw [eR, if_neg]
    rintro ⟨rfl, rfl, -⟩
    exact h2 ⟨rfl, Or.inl h1⟩
  · by_cases e : j = n
    · rw [eR, if_pos ⟨rfl, rfl, e⟩]; simp only [if_pos e]
    · rw [eR, if_neg (fun z => e z.2.2)]; simp only [if_neg e]; exact hel j (by omega)
  · rw [eR, if_neg (by omega)] at hy
    exact Or.inl hy
theorem LiP_C {w : Wd} {i n x c' : Nat} {el : Nat → Nat × Nat} {v : Nat × Nat} (hi : i < wC w 2) (hn : n < 24) (h1 : wR w 2 i 1 = some (300, x)) (hx : x < wC w 300) (hcc : (n = 10 ∧ c' = 15) ∨ (n = 15 ∧ c' = 22) ∨ (n = 22 ∧ c' = 33)) (hel : ∀ j, j < n → wR w 300 x j = some (el j)) : LiP w (laC w i x n c' v) i n el v := by
  have eI : ∀ t k q, wI (laC w i x n c' v) t k q = if t = 2 ∧ k = i ∧ q = 2 then nI (n + 1) else if t = 300 ∧ k = wC w 300 then 0 else wI w t k q := fun t k q => by unfold laC; rw [yI_sI, yI_sR, yI_sR, cpW_I]
  have eR : ∀ t k q, wR (laC w i x n c' v) t k q = if t = 300 ∧ k = wC w 300 ∧ q = n then some v else if t = 2 ∧ k = i ∧ q = 1 then some (300, wC w 300) else if t = 300 ∧ k = wC w 300 then (if q < n then wR w 300 x q else none) else wR w t k q := fun t k q => by unfold laC; rw [yR_sI, yR_sR, yR_sR, cpW_R]
  have eC : ∀ t, wC (laC w i x n c' v) t = if t = 300 then wC w 300 + 1 else wC w t := fun t => by unfold laC; rw [yC_sI, yC_sR, yC_sR, cpW_C]
  have eN : ∀ t k, wN (laC w i x n c' v) t k = if t = 300 ∧ k = wC w 300 then c' else wN w t k := fun t k => by unfold laC; rw [yN_sI, yN_sR, yN_sR, cpW_N]
  refine ⟨fun t k q h1 h2 => by rw [eI, if_neg (by omega), if_neg (by omega)], fun t k q h1 h2 => ?_, fun t h => by rw [eC, if_neg h], by rw [eC, if_pos rfl]; omega, fun t k h => by rw [eN, if_neg (by omega)], ⟨by rw [eI, if_pos ⟨rfl, rfl, rfl⟩], by omega, by rw [eC, if_neg (by omega)]; exact hi, Or.inr ⟨wC w 300, by rw [eR, if_neg (by omega), if_pos ⟨rfl, rfl, rfl⟩], by rw [eC, if_pos rfl]; omega, by rw [eN, if_pos ⟨rfl, rfl⟩]; omega, by rw [eN, if_pos ⟨rfl, rfl⟩]; omega, fun j hj => ?_⟩⟩, fun y hy => ?_⟩
  · have h3 : ¬ (t = 300 ∧ k = wC w 300) := fun z => h2 ⟨z.1, Or.inr (by omega)⟩
    rw [eR, if_neg (fun z => h3 ⟨z.1, z.2.1⟩), if_neg h1, if_neg h3]
  · by_cases e : j = n
    · rw [eR, if_pos ⟨rfl, rfl, e⟩]; simp only [if_pos e]
    · rw [eR, if_neg (fun z => e z.2.2), if_neg (by omega), if_pos ⟨rfl, rfl⟩, if_pos (by omega)]; simp only [if_neg e]; exact hel j (by omega)
  · rw [eR, if_neg (by omega), if_pos ⟨rfl, rfl, rfl⟩] at hy
    cases hy
    exact Or.inr (Nat.le_refl _)
section
variable {l : Launch} {G : Gc} {w : Wd}
set_option maxRecDepth 100000 in
set_option maxHeartbeats 4000000 in
theorem smL_grow0A {i : Nat} (hi : i < wC w 2) (h2 : wI w 2 i 2 = nI 0) (h1 : wR w 2 i 1 = some (900, 0)) : Sem l G mL_grow0 6 1 33 [.inr (.inr (some (2, i)))] w (fun r w' => r = some (.inr (.inr (some (300, wC w 300)))) ∧ w' = sR (nC w 300 10) 2 i 1 (some (300, wC w 300))) := by
  have call := smL_grow1A (l := l) (G := G) hi h1
  refine Sem_of (by decide) rfl (Nat.le_of_ble_eq_true rfl) ?_
  refine wpn_ok (M := mL_grow0) (C := cenL) (X := (alk [])) (tb := tL_grow0) (st := [10]) eoL XOk_nil kL_grow0 60 _ _ _ _ _ _ ?_
  simp only [reduceCtorEq, fv0, fv1, fv2, fv3, bI_0, bI_1, bft, MSh_sI_eq, fsP_T, inL_0, inL_s, pad_0, pad_n, pad_s, wpn_s, wp1_s, lg_0, lg_s, lset_0, lset_s, kil_0, kil_s, st1_s, st2_s, isL_i, isL_l, isL_r, isL_n, spl_0, spl_s, cll_n, cll_s, catS_0, catS_s, jmp_s, alk_0, alk_s, otl_n, otl_s, List.nil_append, List.cons_append, List.contains_cons, List.contains_nil, Nat.reduceBEq, Bool.or_false, Bool.false_or, Bool.or_self, Bool.false_eq_true, Bool.true_or, Bool.or_true, if_true, if_false, ite_true, ite_false, ↓reduceIte, List.length_cons, List.length_nil, Nat.reduceAdd, Nat.reduceLT, Nat.reduceLeDiff, Nat.reduceEqDiff, Int.reduceAdd, Int.reduceLE, Int.toNat_natCast, Int.reduceToNat, Int.cast_ofNat_Int, true_and, and_true, false_and, and_false, true_implies, forall_const, eq_self, and_self, or_true, true_or, or_self, false_or, or_false, yI_sI, yR_sI, yC_sI, yN_sI, yI_sR, yR_sR, yC_sR, yN_sR, not_true_eq_false, not_false_eq_true, false_implies, implies_true, Nat.zero_add, Nat.add_zero, Nat.le_refl, Nat.reduceSub, Int.reduceSub, Int.reduceLT, Int.sub_zero, Int.sub_self, List.getElem?_toArray, List.getElem?_cons_zero, List.getElem?_cons_succ, Int.toNat_zero, Int.toNat_one, Int.lt_irrefl, yI_sB, yR_sB, yC_sB, yN_sB, MSh_sB_eq, pL_grow0_0, stp_aload_n, pL_grow0_1, pL_grow0_2, stp_getfield, qfL_48, rp_2_2, pL_grow0_5, stp_iconst, pL_grow0_6, stp_iadd, pL_grow0_7, stp_invokevirtual, qmL_69, cy_L_grow1, pL_grow0_10, stp_areturn, ic_1, nv_L_grow0, ml_L_grow0, hi, h2, nI_1]
  refine ⟨5, 1, 33, by decide, by omega, by omega, call.mono fun rr w' h' => ?_⟩
  obtain ⟨rfl, rfl⟩ := h'
  refine wpn_ok (M := mL_grow0) (C := cenL) (X := (alk [])) (tb := tL_grow0) (st := []) eoL XOk_nil kL_grow0 60 _ _ _ _ _ _ ?_
  simp only [reduceCtorEq, fv0, fv1, fv2, fv3, bI_0, bI_1, bft, MSh_sI_eq, fsP_T, inL_0, inL_s, pad_0, pad_n, pad_s, wpn_s, wp1_s, lg_0, lg_s, lset_0, lset_s, kil_0, kil_s, st1_s, st2_s, isL_i, isL_l, isL_r, isL_n, spl_0, spl_s, cll_n, cll_s, catS_0, catS_s, jmp_s, alk_0, alk_s, otl_n, otl_s, List.nil_append, List.cons_append, List.contains_cons, List.contains_nil, Nat.reduceBEq, Bool.or_false, Bool.false_or, Bool.or_self, Bool.false_eq_true, Bool.true_or, Bool.or_true, if_true, if_false, ite_true, ite_false, ↓reduceIte, List.length_cons, List.length_nil, Nat.reduceAdd, Nat.reduceLT, Nat.reduceLeDiff, Nat.reduceEqDiff, Int.reduceAdd, Int.reduceLE, Int.toNat_natCast, Int.reduceToNat, Int.cast_ofNat_Int, true_and, and_true, false_and, and_false, true_implies, forall_const, eq_self, and_self, or_true, true_or, or_self, false_or, or_false, yI_sI, yR_sI, yC_sI, yN_sI, yI_sR, yR_sR, yC_sR, yN_sR, not_true_eq_false, not_false_eq_true, false_implies, implies_true, Nat.zero_add, Nat.add_zero, Nat.le_refl, Nat.reduceSub, Int.reduceSub, Int.reduceLT, Int.sub_zero, Int.sub_self, List.getElem?_toArray, List.getElem?_cons_zero, List.getElem?_cons_succ, Int.toNat_zero, Int.toNat_one, Int.lt_irrefl, yI_sB, yR_sB, yC_sB, yN_sB, MSh_sB_eq, pL_grow0_0, stp_aload_n, pL_grow0_1, pL_grow0_2, stp_getfield, qfL_48, rp_2_2, pL_grow0_5, stp_iconst, pL_grow0_6, stp_iadd, pL_grow0_7, stp_invokevirtual, qmL_69, cy_L_grow1, pL_grow0_10, stp_areturn, ic_1, nv_L_grow0, ml_L_grow0]
set_option maxRecDepth 100000 in
set_option maxHeartbeats 4000000 in
theorem smL_grow0B {i x c c' : Nat} (hi : i < wC w 2) (h2 : wI w 2 i 2 = nI c) (h1 : wR w 2 i 1 = some (300, x)) (hx : x < wC w 300) (hN : wN w 300 x = c) (hcc : (c = 10 ∧ c' = 15) ∨ (c = 15 ∧ c' = 22) ∨ (c = 22 ∧ c' = 33)) (hel : ∀ i, i < c → ∀ q, wR w 300 x i = some q → q.1 < 14 ∧ q.2 < wC w q.1) : Sem l G mL_grow0 6 1 33 [.inr (.inr (some (2, i)))] w (fun r w' => r = some (.inr (.inr (some (300, wC w 300)))) ∧ w' = sR (cpW w x c c') 2 i 1 (some (300, wC w 300))) := by
  have call := smL_grow1B (l := l) (G := G) hi h1 hx hN hcc hel
  refine Sem_of (by decide) rfl (Nat.le_of_ble_eq_true rfl) ?_
  refine wpn_ok (M := mL_grow0) (C := cenL) (X := (alk [])) (tb := tL_grow0) (st := [10]) eoL XOk_nil kL_grow0 60 _ _ _ _ _ _ ?_
  simp only [reduceCtorEq, fv0, fv1, fv2, fv3, bI_0, bI_1, bft, MSh_sI_eq, fsP_T, inL_0, inL_s, pad_0, pad_n, pad_s, wpn_s, wp1_s, lg_0, lg_s, lset_0, lset_s, kil_0, kil_s, st1_s, st2_s, isL_i, isL_l, isL_r, isL_n, spl_0, spl_s, cll_n, cll_s, catS_0, catS_s, jmp_s, alk_0, alk_s, otl_n, otl_s, List.nil_append, List.cons_append, List.contains_cons, List.contains_nil, Nat.reduceBEq, Bool.or_false, Bool.false_or, Bool.or_self, Bool.false_eq_true, Bool.true_or, Bool.or_true, if_true, if_false, ite_true, ite_false, ↓reduceIte, List.length_cons, List.length_nil, Nat.reduceAdd, Nat.reduceLT, Nat.reduceLeDiff, Nat.reduceEqDiff, Int.reduceAdd, Int.reduceLE, Int.toNat_natCast, Int.reduceToNat, Int.cast_ofNat_Int, true_and, and_true, false_and, and_false, true_implies, forall_const, eq_self, and_self, or_true, true_or, or_self, false_or, or_false, yI_sI, yR_sI, yC_sI, yN_sI, yI_sR, yR_sR, yC_sR, yN_sR, not_true_eq_false, not_false_eq_true, false_implies, implies_true, Nat.zero_add, Nat.add_zero, Nat.le_refl, Nat.reduceSub, Int.reduceSub, Int.reduceLT, Int.sub_zero, Int.sub_self, List.getElem?_toArray, List.getElem?_cons_zero, List.getElem?_cons_succ, Int.toNat_zero, Int.toNat_one, Int.lt_irrefl, yI_sB, yR_sB, yC_sB, yN_sB, MSh_sB_eq, pL_grow0_0, stp_aload_n, pL_grow0_1, pL_grow0_2, stp_getfield, qfL_48, rp_2_2, pL_grow0_5, stp_iconst, pL_grow0_6, stp_iadd, pL_grow0_7, stp_invokevirtual, qmL_69, cy_L_grow1, pL_grow0_10, stp_areturn, ic_1, nv_L_grow0, ml_L_grow0, hi, h2, nI_1]
  refine ⟨5, 1, 33, by decide, by omega, by omega, call.mono fun rr w' h' => ?_⟩
  obtain ⟨rfl, rfl⟩ := h'
  refine wpn_ok (M := mL_grow0) (C := cenL) (X := (alk [])) (tb := tL_grow0) (st := []) eoL XOk_nil kL_grow0 60 _ _ _ _ _ _ ?_
  simp only [reduceCtorEq, fv0, fv1, fv2, fv3, bI_0, bI_1, bft, MSh_sI_eq, fsP_T, inL_0, inL_s, pad_0, pad_n, pad_s, wpn_s, wp1_s, lg_0, lg_s, lset_0, lset_s, kil_0, kil_s, st1_s, st2_s, isL_i, isL_l, isL_r, isL_n, spl_0, spl_s, cll_n, cll_s, catS_0, catS_s, jmp_s, alk_0, alk_s, otl_n, otl_s, List.nil_append, List.cons_append, List.contains_cons, List.contains_nil, Nat.reduceBEq, Bool.or_false, Bool.false_or, Bool.or_self, Bool.false_eq_true, Bool.true_or, Bool.or_true, if_true, if_false, ite_true, ite_false, ↓reduceIte, List.length_cons, List.length_nil, Nat.reduceAdd, Nat.reduceLT, Nat.reduceLeDiff, Nat.reduceEqDiff, Int.reduceAdd, Int.reduceLE, Int.toNat_natCast, Int.reduceToNat, Int.cast_ofNat_Int, true_and, and_true, false_and, and_false, true_implies, forall_const, eq_self, and_self, or_true, true_or, or_self, false_or, or_false, yI_sI, yR_sI, yC_sI, yN_sI, yI_sR, yR_sR, yC_sR, yN_sR, not_true_eq_false, not_false_eq_true, false_implies, implies_true, Nat.zero_add, Nat.add_zero, Nat.le_refl, Nat.reduceSub, Int.reduceSub, Int.reduceLT, Int.sub_zero, Int.sub_self, List.getElem?_toArray, List.getElem?_cons_zero, List.getElem?_cons_succ, Int.toNat_zero, Int.toNat_one, Int.lt_irrefl, yI_sB, yR_sB, yC_sB, yN_sB, MSh_sB_eq, pL_grow0_0, stp_aload_n, pL_grow0_1, pL_grow0_2, stp_getfield, qfL_48, rp_2_2, pL_grow0_5, stp_iconst, pL_grow0_6, stp_iadd, pL_grow0_7, stp_invokevirtual, qmL_69, cy_L_grow1, pL_grow0_10, stp_areturn, ic_1, nv_L_grow0, ml_L_grow0]
end
