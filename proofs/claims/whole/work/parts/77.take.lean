/-! taking the alleys of a way, and giving them back -/
def SmE (w0 w : Wd) : Prop := w.2 = w0.2 ∧ ∀ t k i, ¬ (t = 186 ∨ t = 9 ∧ i = 4) → wI w t k i = wI w0 t k i
theorem SmE_r (w : Wd) : SmE w w := ⟨rfl, fun _ _ _ _ => rfl⟩
theorem SmE_t {w0 w1 w2 : Wd} (h1 : SmE w0 w1) (h2 : SmE w1 w2) : SmE w0 w2 := ⟨h2.1.trans h1.1, fun t k i hn => (h2.2 t k i hn).trans (h1.2 t k i hn)⟩
theorem SmE_W {w0 w : Wd} (h : SmE w0 w) : SmW w0 w := ⟨h.1, fun t k i hn => h.2 t k i (by omega)⟩
theorem WyC_E {w0 w : Wd} {x m : Nat} {κ : Nat → Nat} (h : SmE w0 w) (hW : WyC w0 x κ m) : WyC w x κ m := by
  obtain ⟨h1, h2, h3⟩ := hW
  refine ⟨by rw [h.2 _ _ _ (by omega)]; exact h1, h2, fun i hi => ?_⟩
  rw [h.2 _ _ _ (by omega), h.2 _ _ _ (by omega), SmW_c (SmE_W h), SmW_g (SmE_W h)]
  exact h3 i hi
def tk1 (w : Wd) (k v : Nat) : Wd := sI (sI w 186 k (szA w k) (nI v)) 9 k 4 (nI (szA w k + 1))
theorem tk1_I (w : Wd) (k v t q i : Nat) : wI (tk1 w k v) t q i = if t = 9 ∧ q = k ∧ i = 4 then nI (szA w k + 1) else if t = 186 ∧ q = k ∧ i = szA w k then nI v else wI w t q i := by
  unfold tk1
  simp only [yI_sI]
theorem tk1_2 (w : Wd) (k v : Nat) : (tk1 w k v).2 = w.2 := by unfold tk1; rw [sI_2, sI_2]
theorem tk1_E (w : Wd) (k v : Nat) : SmE w (tk1 w k v) := ⟨tk1_2 w k v, fun t q i hn => by rw [tk1_I, if_neg (by omega), if_neg (by omega)]⟩
def gb1 (w : Wd) (k : Nat) : Wd := sI w 9 k 4 (nI (szA w k - 1))
theorem gb1_I (w : Wd) (k t q i : Nat) : wI (gb1 w k) t q i = if t = 9 ∧ q = k ∧ i = 4 then nI (szA w k - 1) else wI w t q i := by
  unfold gb1
  simp only [yI_sI]
theorem gb1_E (w : Wd) (k : Nat) : SmE w (gb1 w k) := ⟨by unfold gb1; rw [sI_2], fun t q i hn => by rw [gb1_I, if_neg (by omega)]⟩
theorem CpE_n {w : Wd} {E : List Ent} {k : Nat} (h : CpE w E) (hk : k < cn w 6) : szA w k = (E.filter (fun e => decide (e.1 = k))).length := by
  have := congrArg List.length (h k hk).2
  rw [List.length_map, List.length_map, List.length_range] at this
  exact this
theorem flt_no {E : List Ent} {k : Nat} (h : ∀ e ∈ E, ¬ e.1 = k) : E.filter (fun e => decide (e.1 = k)) = [] := by
  rw [List.filter_eq_nil_iff]
  intro e he q
  exact h e he (of_decide_eq_true q)
theorem CpE_tk {w : Wd} {E : List Ent} {k v : Nat} (h : CpE w E) (hk : k < cn w 6) (hs : szA w k < 24) (hv : v < 2 ^ 29) : CpE (tk1 w k v) (E ++ [(k, v)]) := by
  intro p hp
  rw [SmW_c (SmE_W (tk1_E w k v))] at hp
  obtain ⟨⟨a0, a1, a2, a3, a4, a5⟩, a6⟩ := h p hp
  have m0 : mnA (tk1 w k v) p = mnA w p := by unfold mnA; rw [tk1_I, if_neg (by omega), if_neg (by omega)]
  have m1 : wI (tk1 w k v) 9 p 2 = wI w 9 p 2 := by rw [tk1_I, if_neg (by omega), if_neg (by omega)]
  by_cases c : p = k
  · subst c
    have s1 : wI (tk1 w p v) 9 p 4 = nI (szA w p + 1) := by rw [tk1_I, if_pos ⟨rfl, rfl, rfl⟩]
    have s2 : szA (tk1 w p v) p = szA w p + 1 := by unfold szA; rw [s1]; exact nI_clamp (by omega)
    have t1 : wI (tk1 w p v) 186 p (szA w p) = nI v := by rw [tk1_I, if_neg (by omega), if_pos ⟨rfl, rfl, rfl⟩]
    have t2 : ∀ i, i < szA w p → wI (tk1 w p v) 186 p i = wI w 186 p i := fun i hi => by rw [tk1_I, if_neg (by omega), if_neg (by omega)]
    have t3 : tkv (tk1 w p v) p (szA w p) = v := by unfold tkv; rw [t1]; exact nI_clamp (by omega)
    have t4 : ∀ i, i < szA w p → tkv (tk1 w p v) p i = tkv w p i := fun i hi => by unfold tkv; rw [t2 i hi]
    refine ⟨⟨AlS_cg (tk1_2 w p v) a0, by rw [s1, s2], by omega, by rw [m0, m1]; exact a3, by rw [m0]; exact a4, fun i hi => ?_⟩, ?_⟩
    · rw [s2] at hi
      by_cases c : i = szA w p
      · rw [c, t1, t3]; exact ⟨rfl, hv⟩
      · rw [t2 i (by omega), t4 i (by omega)]; exact a5 i (by omega)
    · rw [s2, List.range_succ, List.map_append, List.filter_append, List.map_append, ← a6, List.map_congr_left (fun i hi => t4 i (List.mem_range.mp hi))]
      simp [t3]
  · have s1 : wI (tk1 w k v) 9 p 4 = wI w 9 p 4 := by rw [tk1_I, if_neg (by omega), if_neg (by omega)]
    have s2 : szA (tk1 w k v) p = szA w p := by unfold szA; rw [s1]
    have t2 : ∀ i, wI (tk1 w k v) 186 p i = wI w 186 p i := fun i => by rw [tk1_I, if_neg (by omega), if_neg (by omega)]
    have t4 : tkv (tk1 w k v) p = tkv w p := funext fun i => by unfold tkv; rw [t2 i]
    refine ⟨⟨AlS_cg (tk1_2 w k v) a0, by rw [s1, s2]; exact a1, by rw [s2]; exact a2, by rw [m0, m1]; exact a3, by rw [m0]; exact a4, fun i hi => ?_⟩, ?_⟩
    · rw [s2] at hi
      rw [t2 i, t4]; exact a5 i hi
    · have : List.filter (fun e : Ent => decide (e.1 = p)) [(k, v)] = [] := flt_no (fun e he => by
        rw [List.mem_singleton] at he
        rw [he]
        exact fun q => c q.symm)
      rw [s2, t4, List.filter_append, this, List.append_nil]
      exact a6
theorem CpE_gb {w : Wd} {E R : List Ent} {k v : Nat} (h : CpE w (E ++ (k, v) :: R)) (hR : ∀ e ∈ R, ¬ e.1 = k) (hk : k < cn w 6) : CpE (gb1 w k) (E ++ R) ∧ 0 < szA w k := by
  have hsz := CpE_n h hk
  have fR := flt_no hR
  have f1 : List.filter (fun e : Ent => decide (e.1 = k)) ((k, v) :: R) = [(k, v)] := by rw [List.filter_cons, fR]; simp
  have l1 : szA w k = (E.filter (fun e => decide (e.1 = k))).length + 1 := by rw [hsz, List.filter_append, f1, List.length_append]; rfl
  refine ⟨?_, by omega⟩
  intro p hp
  rw [SmW_c (SmE_W (gb1_E w k))] at hp
  obtain ⟨⟨a0, a1, a2, a3, a4, a5⟩, a6⟩ := h p hp
  have m1 : wI (gb1 w k) 9 p 2 = wI w 9 p 2 := by rw [gb1_I, if_neg (by omega)]
  have m0 : mnA (gb1 w k) p = mnA w p := by unfold mnA; rw [m1]
  have t2 : ∀ i, wI (gb1 w k) 186 p i = wI w 186 p i := fun i => by rw [gb1_I, if_neg (by omega)]
  have t4 : tkv (gb1 w k) p = tkv w p := funext fun i => by unfold tkv; rw [t2 i]
  by_cases c : p = k
  · subst c
    have s1 : wI (gb1 w p) 9 p 4 = nI (szA w p - 1) := by rw [gb1_I, if_pos ⟨rfl, rfl, rfl⟩]
    have s2 : szA (gb1 w p) p = szA w p - 1 := by unfold szA at a2 ⊢; rw [s1]; exact nI_clamp (by unfold szA; omega)
    refine ⟨⟨AlS_cg (gb1_E w p).1 a0, by rw [s1, s2], by omega, by rw [m0, m1]; exact a3, by rw [m0]; exact a4, fun i hi => ?_⟩, ?_⟩
    · rw [t2 i, t4]; exact a5 i (by omega)
    · rw [s2, t4, List.filter_append, fR, List.append_nil]
      rw [List.filter_append, f1, l1, List.range_succ, List.map_append, List.map_append] at a6
      have := (List.append_inj' a6 rfl).1
      rw [l1, Nat.add_sub_cancel]
      exact this
  · have s1 : wI (gb1 w k) 9 p 4 = wI w 9 p 4 := by rw [gb1_I, if_neg (by omega)]
    have s2 : szA (gb1 w k) p = szA w p := by unfold szA; rw [s1]
    have f2 : List.filter (fun e : Ent => decide (e.1 = p)) ((k, v) :: R) = List.filter (fun e : Ent => decide (e.1 = p)) R := by
      rw [List.filter_cons, if_neg (by simp; exact fun q => c q.symm)]
    refine ⟨⟨AlS_cg (gb1_E w k).1 a0, by rw [s1, s2]; exact a1, by rw [s2]; exact a2, by rw [m0, m1]; exact a3, by rw [m0]; exact a4, fun i hi => ?_⟩, ?_⟩
    · rw [s2] at hi
      rw [t2 i, t4]; exact a5 i hi
    · rw [s2, t4, List.filter_append]
      rw [List.filter_append, f2] at a6
      exact a6
