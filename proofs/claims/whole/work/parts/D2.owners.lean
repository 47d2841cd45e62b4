/-! owners of stretches; a drive of the reference -/
theorem nd_len : ∀ n (L : List Nat), L.Nodup → (∀ x ∈ L, x < n) → L.length ≤ n
  | 0, L, _, h => by
    cases L with
    | nil => exact Nat.le_refl _
    | cons a L => exact absurd (h a (List.mem_cons_self ..)) (by omega)
  | n + 1, L, hn, h => by
    by_cases c : n ∈ L
    · have h1 := nd_len n (L.erase n) (hn.erase n) (fun x hx => by
        have := hn.mem_erase_iff.mp hx
        have := h x this.2
        omega)
      rw [List.length_erase_of_mem c] at h1
      omega
    · have h1 := nd_len n L hn (fun x hx => by
        have h2 := h x hx
        have h3 : ¬ x = n := fun z => c (z ▸ hx)
        omega)
      omega
theorem own_cap {w : Wd} {F : List (Ent × Nat)} {k : Nat} (S : List Nat) (hF : OwF w F) (hSn : S.Nodup) (hS : ∀ x ∈ S, x < cn w 17 ∧ wI w 125 0 x = -1) (h17 : cn w 17 ≤ 24) : (F.filter (fun f => decide (f.1.1 = k))).length + S.length ≤ 24 := by
  obtain ⟨f1, f2, f3⟩ := hF
  have n1 : ((F.filter (fun f => decide (f.1.1 = k))).map (fun f => f.2)).Nodup := by
    have q : ((F.filter (fun f => decide (f.1.1 = k))).map (fun f => (f.1.1, f.2))).Nodup := List.Nodup.sublist (List.Sublist.map _ List.filter_sublist) f1
    unfold List.Nodup at q ⊢
    rw [List.pairwise_map] at q ⊢
    refine List.Pairwise.imp_of_mem (fun {a b} ha hb hab z => hab ?_) q
    have a1 : a.1.1 = k := of_decide_eq_true (List.mem_filter.mp ha).2
    have b1 : b.1.1 = k := of_decide_eq_true (List.mem_filter.mp hb).2
    rw [a1, b1, z]
  have n2 : (((F.filter (fun f => decide (f.1.1 = k))).map (fun f => f.2)) ++ S).Nodup := by
    rw [List.nodup_append]
    refine ⟨n1, hSn, fun a ha b hb hab => ?_⟩
    obtain ⟨f, hf, rfl⟩ := List.mem_map.mp ha
    obtain ⟨-, d, d1, -, d2⟩ := f3 f (List.mem_filter.mp hf).1
    have := (hS b hb).2
    rw [← hab, d1] at this
    exact nI_nm1 (by omega) this
  have := nd_len 24 _ n2 (fun x hx => by
    rcases List.mem_append.mp hx with hx | hx
    · obtain ⟨f, hf, rfl⟩ := List.mem_map.mp hx
      have := (f3 f (List.mem_filter.mp hf).1).1
      omega
    · have := (hS x hx).1
      omega)
  rw [List.length_append, List.length_map] at this
  exact this
theorem own_len : ∀ n (F : List (Ent × Nat)), (∀ f ∈ F, f.2 < n) → (∀ o, (F.filter (fun f => decide (f.2 = o))).length ≤ 13) → F.length ≤ 13 * n
  | 0, F, h, _ => by
    cases F with
    | nil => exact Nat.le_refl _
    | cons a L => exact absurd (h a (List.mem_cons_self ..)) (by omega)
  | n + 1, F, h, hf => by
    have ih := own_len n (F.filter (fun f => !decide (f.2 = n))) (fun f hm => by
      obtain ⟨q1, q2⟩ := List.mem_filter.mp hm
      have := h f q1
      have : ¬ f.2 = n := fun z => by rw [decide_eq_true z] at q2; cases q2
      omega) (fun o => Nat.le_trans (List.Sublist.length_le (List.Sublist.filter _ List.filter_sublist)) (hf o))
    have e := hf n
    have s : F.length = (F.filter (fun f => decide (f.2 = n))).length + (F.filter (fun f => !decide (f.2 = n))).length := by
      clear ih e hf h
      induction F with
      | nil => rfl
      | cons a L ih =>
        by_cases c : a.2 = n
        · simp only [List.filter_cons, c, decide_true, Bool.not_true, if_true, Bool.false_eq_true, if_false, List.length_cons]
          omega
        · simp only [List.filter_cons, c, decide_false, Bool.not_false, if_true, Bool.false_eq_true, if_false, List.length_cons]
          omega
    omega
theorem dr_go {w : Wd} {B t0 a p : Nat} {E : List Ent} (hE : RfE w E) (hW : wkOk w) (hB : enB (grf w) E B) (hBB : B + 390 < 4000000) (ht : t0 ≤ B) (hm : wI w 13 0 2 = nI t0) (hr : E.length + 13 ≤ 500) (ha : a < cn w 3) (hp : p < cn w 3) (hf : dsM w a p < 1000000) :
    goOk (wkW w a p) ∧ goT (wkW w a p) + ahI (wkW w a p) (cn (wkW w a p) 12) = nI (drE (grf w) (dsM w) E t0 a p) ∧ RfE (goU (wkW w a p) (goT (wkW w a p)) (cn (wkW w a p) 12)) (drL (grf w) (dsM w) E t0 a p) ∧ drE (grf w) (dsM w) E t0 a p ≤ B + 390 ∧ enB (grf w) (drL (grf w) (dsM w) E t0 a p) (B + 390) := by
  have j1 := SmT_rfl w
  have j2 := hE
  have s1 := SmT_wkW w a p
  have eg2 : grf (wkW w a p) = grf w := SmT_g s1
  have hD : Mtr (grf w) (cn w 3) (dsM w) := dst_ok hW.2.2.2.2.2
  have hg := hW.2.2.2.2.1
  have h14 := hW.2.1.2
  obtain ⟨m1, m2, m3⟩ := wyL_ok hg hD h14 ha hp hf
  obtain ⟨q1, q2⟩ := wy_sum hg hD h14 ha hp hf
  have hRW : RfW (wkW w a p) (wyK (grf w) (dsM w) a p) (wyL (grf w) (dsM w) a p) := by
    refine ⟨by rw [wkW_I]; simp, m1, fun i hi => ⟨?_, ?_⟩, ?_, fun k hk => ?_⟩
    · rw [wkW_I]
      simp [hi]
    · rw [eg2]
      exact wyK_lt hg hD h14 ha hp hf hi
    · rw [eg2]; exact hW.2.2.1.2
    · rw [eg2] at hk ⊢
      refine ⟨?_, (hg k hk).2.2.2.2⟩
      rw [SmT_I s1 (by omega)]
      exact (hW.2.2.2.1 k hk).2.2
  have hRE : RfE (wkW w a p) E := RfE_eq j2 (eg2) (by rw [wkW_I]; simp) (fun i _ => ⟨by rw [wkW_I]; simp, by rw [wkW_I]; simp, by rw [wkW_I]; simp⟩)
  obtain ⟨g1, g2, g3⟩ := go_W hRW hRE (B := B) (by rw [eg2]; exact hB) (by omega) ht (by rw [SmT_I s1 (by omega)]; exact hm) (by omega)
  obtain ⟨c3, c4⟩ := RfW_c hRW
  obtain ⟨c5, c6⟩ := RfE_c hRE
  obtain ⟨d, -, d2, d3, -⟩ := lf_ok (κ := wyK (grf w) (dsM w) a p) (m := wyL (grf w) (dsM w) a p) hB ht (by omega)
  have eA : aN (grf w) (wyK (grf w) (dsM w) a p) (wyL (grf w) (dsM w) a p) = dsM w a p := q1
  rw [eg2] at g2 g3
  have eE : lfN (grf w) E (wyK (grf w) (dsM w) a p) (wyL (grf w) (dsM w) a p) t0 + dsM w a p ≤ B + 390 := by omega
  refine ⟨g1, by rw [g3, eA]; rfl, ?_, eE, enB_app (enB_mono hB (by omega)) (tkE_B hg hD h14 ha hp hf eE)⟩
  · rw [g2, c4]
    have s2 := SmT_goU (wkW w a p) (nI (lfN (grf w) E (wyK (grf w) (dsM w) a p) (wyL (grf w) (dsM w) a p) t0)) (wyL (grf w) (dsM w) a p)
    refine ⟨?_, by simp [drL, tkE]; omega, fun i e he => ?_⟩
    · rw [goU_I, c6]
      simp [drL, tkE]
    · rw [SmT_g s2, eg2]
      simp only [goU_I, c6]
      simp only [drL] at he
      by_cases hi : i < E.length
      · have n1 : ¬ (E.length ≤ i ∧ i < E.length + wyL (grf w) (dsM w) a p) := by omega
        rw [List.getElem?_append_left hi] at he
        simp [n1]
        have := hRE.2.2 i e he
        rw [eg2] at this
        exact this
      · rw [List.getElem?_append_right (by omega)] at he
        simp only [tkE, List.getElem?_map, Option.map_eq_some_iff] at he
        obtain ⟨x, hx, rfl⟩ := he
        obtain ⟨x1, x2⟩ := List.getElem?_eq_some_iff.mp hx
        simp only [List.length_range] at x1
        simp only [List.getElem_range] at x2
        have n1 : E.length ≤ i ∧ i < E.length + wyL (grf w) (dsM w) a p := by omega
        simp [n1]
        obtain ⟨a1, a2⟩ := hRW.2.2.1 _ x1
        obtain ⟨b1, b2⟩ := ahI_W hRW (i - E.length) (by omega)
        obtain ⟨b3, b4⟩ := ahI_W hRW (i - E.length + 1) (by omega)
        rw [a1, b1, b3, eg2, nI_add, nI_add, x2]
        refine ⟨rfl, rfl, ?_⟩
        rw [← x2]
        simp only [aN]
        rw [Nat.add_assoc]
