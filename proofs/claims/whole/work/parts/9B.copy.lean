/-! System.arraycopy: references of a list's array, ints of the row -/
def sQ (w : Wd) (t k : Nat) (f : Nat → Option (Nat × Nat)) : Wd := (w.1, fun t' k' i' => if t' = t ∧ k' = k then f i' else w.2.1 t' k' i', w.2.2)
theorem yI_sQ (w : Wd) (t k : Nat) (f : Nat → Option (Nat × Nat)) (t' k' i' : Nat) : wI (sQ w t k f) t' k' i' = wI w t' k' i' := (rfl)
theorem yR_sQ (w : Wd) (t k : Nat) (f : Nat → Option (Nat × Nat)) (t' k' i' : Nat) : wR (sQ w t k f) t' k' i' = if t' = t ∧ k' = k then f i' else wR w t' k' i' := (rfl)
theorem yC_sQ (w : Wd) (t k : Nat) (f : Nat → Option (Nat × Nat)) (t' : Nat) : wC (sQ w t k f) t' = wC w t' := (rfl)
theorem yN_sQ (w : Wd) (t k : Nat) (f : Nat → Option (Nat × Nat)) (t' k' : Nat) : wN (sQ w t k f) t' k' = wN w t' k' := (rfl)
theorem vAt_sQ_ne {ad : Nat → Nat → Nat} {w : Wd} {t k t' k' : Nat} {f : Nat → Option (Nat × Nat)} (h : ¬ (t' = t ∧ k' = k)) : vAt ad (sQ w t k f) t' k' = vAt ad w t' k' := by
  funext i
  unfold vAt
  rw [yI_sQ, yR_sQ, if_neg h]
theorem vAt_sB_ne {ad : Nat → Nat → Nat} {w : Wd} {t k t' k' : Nat} {f : Nat → Int32} (h : ¬ (t' = t ∧ k' = k)) : vAt ad (sB w t k f) t' k' = vAt ad w t' k' := by
  funext i
  unfold vAt
  rw [yI_sB, yR_sB, if_neg h]
theorem Rel_sQ {G : Gc} {ad : Nat → Nat → Nat} {w : Wd} {H H' : Heap} {t k : Nat} {f : Nat → Option (Nat × Nat)} (hR : Rel G ad w H) (ht : t < 900) (hk : k < wC w t) (hv : ∀ i q, f i = some q → clq w q) (hc : cOk G t (ad t k) (wN w t k) (vAt ad (sQ w t k f) t k) H') (hz : H'.size = H.size) (oq : ∀ q, q ≠ ad t k → H'[q]? = H[q]?) : Rel G ad (sQ w t k f) H' := by
  obtain ⟨r1, r2, r3, r4, r5, r6⟩ := hR
  refine ⟨fun t' k' h1 h2 => ?_, r2, fun t' k' j q h1 h2 => ?_, r4, by rw [hz]; exact r5, fun q hq => ?_⟩
  · by_cases e : t' = t ∧ k' = k
    · obtain ⟨rfl, rfl⟩ := e
      exact ⟨hc, (r1 _ _ ht hk).2⟩
    · rw [vAt_sQ_ne e]
      refine ⟨cOk_kept (r1 t' k' h1 h2).1 (oq _ (fun z => e ?_)), (r1 t' k' h1 h2).2⟩
      exact r2 t' k' t k h1 ht h2 hk z
  · rw [yR_sQ] at h2
    split at h2
    · exact hv j q h2
    · exact r3 t' k' j q h1 h2
  · rw [oq q (fun z => ?_)]
    · exact r6 q hq
    · have := (r1 t k ht hk).2
      omega
theorem Rel_sB {G : Gc} {ad : Nat → Nat → Nat} {w : Wd} {H H' : Heap} {t k : Nat} {f : Nat → Int32} (hR : Rel G ad w H) (ht : t < 900) (hk : k < wC w t) (hc : cOk G t (ad t k) (wN w t k) (vAt ad (sB w t k f) t k) H') (hz : H'.size = H.size) (oq : ∀ q, q ≠ ad t k → H'[q]? = H[q]?) : Rel G ad (sB w t k f) H' := by
  obtain ⟨r1, r2, r3, r4, r5, r6⟩ := hR
  refine ⟨fun t' k' h1 h2 => ?_, r2, r3, r4, by rw [hz]; exact r5, fun q hq => ?_⟩
  · by_cases e : t' = t ∧ k' = k
    · obtain ⟨rfl, rfl⟩ := e
      exact ⟨hc, (r1 _ _ ht hk).2⟩
    · rw [vAt_sB_ne e]
      refine ⟨cOk_kept (r1 t' k' h1 h2).1 (oq _ (fun z => e ?_)), (r1 t' k' h1 h2).2⟩
      exact r2 t' k' t k h1 ht h2 hk z
  · rw [oq q (fun z => ?_)]
    · exact r6 q hq
    · have := (r1 t k ht hk).2
      omega
theorem nn32 (z : Int32) (hz : ¬ z < 0) : z.toInt = (z.toNatClampNeg : Int) := by
  have hz0 : (0 : Int) ≤ z.toInt := by
    have := Int32.not_lt.mp hz
    simpa using Int32.le_iff_toInt_le.mp this
  show z.toInt = ((z.toInt.toNat : Nat) : Int)
  omega
theorem cpd {c0 c1 : ClassId} {n0 n1 : Nat} (f g : Nat → Value) {sp dp k : Int32} (hs : sp.toNatClampNeg + k.toNatClampNeg ≤ n0) : copied (arrV c0 n0 f) (arrV c1 n1 g) sp dp k = arrV c1 n1 (va_cpy f g sp.toNatClampNeg dp.toNatClampNeg k.toNatClampNeg) := va_copied (fun z => z) c0 c1 f g hs
section S9
variable {l : Launch} {G : Gc} {M : MI} {n mc ms : Nat} {Q : Option AV → Wd → Prop} {pc : Nat} {L : List (Option AV)} {S : List AV} {w : Wd} {cu su : Nat} {tb : TB}
theorem locs_apps {locs ls2 : List Loc} (h : locsOk G locs) (hq : ∀ x ∈ ls2, gOut G x.base) : locsOk G (locs ++ ls2) := fun x hx => by
  rcases List.mem_append.mp hx with h1 | h1
  · exact h x h1
  · exact hq x h1
theorem wp_copyR {idx x y : Nat} {k : Int32} (hlink : Cond.methodLink (mOwn M) idx arraycopyName ∈ goodT) (ht : tbOk (mB M) tb = true) (hp : alk tb pc = some (.invokestatic idx, 3)) (hx : x < wC w 300) (hy : y < wC w 300) (h3 : ¬ k < 0) (hN1 : k.toNatClampNeg ≤ wN w 300 x) (hN2 : k.toNatClampNeg ≤ wN w 300 y) (hel : ∀ i, i < k.toNatClampNeg → ∀ q, wR w 300 x i = some q → q.1 < 14 ∧ q.2 < wC w q.1 ∧ Cond.castable (clsN q.1).1 "java/lang/Object" ∈ nestW) (hcat : catS S ≤ 8) (hn : 1 ≤ n) (hk : WP l G M n mc ms Q (pc + 3) L S (sQ w 300 y (fun i => if i < k.toNatClampNeg then wR w 300 x i else wR w 300 y i)) cu su) : WP l G M n mc ms Q pc L (.inl k :: .inl 0 :: .inr (.inr (some (300, y))) :: .inl 0 :: .inr (.inr (some (300, x))) :: S) w cu su := by
  intro p e s m args below meth c Z ad0 w0 hF hc ad H locs ls hR hE hL hl hS ho h1 h2
  obtain ⟨hx', hb, hr, hml, hown, hts, hKK, hlk, hnm⟩ := id hF
  obtain ⟨a1, -⟩ := arr_in (show 20 ≤ 300 by omega) (by omega) hR hx
  obtain ⟨b1, b2⟩ := arr_in (show 20 ≤ 300 by omega) (by omega) hR hy
  obtain ⟨kA, comp, k1, k2, k3, k4⟩ := (hKK.1.2 2 _ rfl).2
  intro T hT X
  have z0 : (0 : Int32).toNatClampNeg = 0 := by decide
  have hval : ∀ i, i < k.toNatClampNeg → (arrV (gA G (ak 300)) (wN w 300 x) (vAt ad w 300 x)).slots.getD ((0 : Int32).toNatClampNeg + i) .null = renR ad (wR w 300 x i) := fun i hi => by
    rw [z0, Nat.zero_add, Array.getD_eq_getD_getElem?, arrV_read _ _ (by omega)]
    show vAt ad w 300 x i = _
    unfold vAt
    rw [if_pos (by rw [rp_arr (show 20 ≤ 300 by omega)]; exact ref_arr (show 300 ≤ 300 by omega))]
  obtain ⟨vm', X', step⟩ := X.arraycopy hx' hown (hts _ hlink) (hts _ wn_nat) (hts _ wn_sta) (hts _ wn_ini) (src := ad 300 x) (dst := ad 300 y) (cs := arrV (gA G (ak 300)) (wN w 300 x) (vAt ad w 300 x)) (cd := arrV (gA G (ak 300)) (wN w 300 y) (vAt ad w 300 y)) (srcPos := 0) (destPos := 0) (n := k) (by rw [hT]; exact a1) (by rw [hT]; exact b1)
    (fun _ h => by cases h) (fun _ h => by cases h) (fun h => by cases h) (fun h => by cases h) k1 k1 k2 k2 rfl (by decide) (by decide) h3
    (by rw [nn32 k h3, arrV_size]; show ¬ (0 : Int) + _ > _; omega)
    (by rw [nn32 k h3, arrV_size]; show ¬ (0 : Int) + _ > _; omega)
    (fun vm₁ hal i hi => by
      rw [hval i hi]
      cases hy' : wR w 300 x i with
      | none => exact ⟨rfl, trivial⟩
      | some q =>
        obtain ⟨q14, qc, hca⟩ := hel i hi q hy'
        obtain ⟨cellV, g1, g2, g3⟩ := wd_recv hKK hR q14 qc
        obtain ⟨kC, hkC, -⟩ := Vm.findClass_spec g3
        obtain ⟨kE, hkE, -⟩ := Vm.findClass_spec k3
        obtain ⟨kC', hkC', -⟩ := hal.2.2 _ _ hkC
        obtain ⟨kE', hkE', -⟩ := hal.2.2 _ _ hkE
        obtain ⟨c0, t1, f1, f2, f3⟩ := Cond.castable_spec (va_Nw.use (A := args) rfl (hKK.2.1 _ hca))
        cases g3.symm.trans f1
        cases k3.symm.trans f2
        refine ⟨rfl, cellV, (show T.heap[ad q.1 q.2]? = some cellV by rw [hT]; exact g1), (fun q h => by rw [h] at g2; cases g2), ⟨kC', hkC'⟩, ?_, ?_⟩
        · exact ⟨kE', hkE'⟩
        · show vm₁.assignable _ _ = true
          rw [hal.assignable]
          exact f3)
    (g := F0 m pc ls (.int k :: .int 0 :: .ref (ad 300 y) :: .int 0 :: .ref (ad 300 x) :: S.map (renV ad))) rfl (by rw [hml]; exact hL.1) (rest := S.map (renV ad)) rfl (by rw [hb]; exact tb_dec ht hp) hn (by
      have := catS_eq ad S
      show 2 * 0 + _ + (_ + 11) ≤ 40 * n
      rw [this]
      show 2 * 0 + catS S + (nativeFrameWords "java/lang/System" "arraycopy" 5 + 11) ≤ 40 * n
      have e5 : nativeFrameWords "java/lang/System" "arraycopy" 5 ≤ 20 := by decide
      omega)
  rw [cpd _ _ (by rw [z0]; omega)] at X' step
  have hlb : ad 300 y < H.size := (Array.getElem?_eq_some_iff.mp b1).1
  have hheap : ((T.setVm vm').setCell (ad 300 y) (arrV (gA G (ak 300)) (wN w 300 y) (va_cpy (vAt ad w 300 x) (vAt ad w 300 y) (0 : Int32).toNatClampNeg (0 : Int32).toNatClampNeg k.toNatClampNeg))).heap = H.setIfInBounds (ad 300 y) (arrV (gA G (ak 300)) (wN w 300 y) (va_cpy (vAt ad w 300 x) (vAt ad w 300 y) (0 : Int32).toNatClampNeg (0 : Int32).toNatClampNeg k.toNatClampNeg)) := by rw [← hT]; rfl
  have oq : ∀ q : Nat, q ≠ ad 300 y → (H.setIfInBounds (ad 300 y) (arrV (gA G (ak 300)) (wN w 300 y) (va_cpy (vAt ad w 300 x) (vAt ad w 300 y) (0 : Int32).toNatClampNeg (0 : Int32).toNatClampNeg k.toNatClampNeg)))[q]? = H[q]? := fun q hq => by simp [Array.getElem?_setIfInBounds, Ne.symm hq]
  have hRel : Rel G ad (sQ w 300 y (fun i => if i < k.toNatClampNeg then wR w 300 x i else wR w 300 y i)) (H.setIfInBounds (ad 300 y) (arrV (gA G (ak 300)) (wN w 300 y) (va_cpy (vAt ad w 300 x) (vAt ad w 300 y) (0 : Int32).toNatClampNeg (0 : Int32).toNatClampNeg k.toNatClampNeg))) := by
    refine Rel_sQ hR (by omega) hy (fun i q h => ?_) ?_ (by simp) oq
    · split at h
      · exact hR.2.2.1 300 x i q hx h
      · exact hR.2.2.1 300 y i q hy h
    · rw [cOk, if_neg (by omega), Array.getElem?_setIfInBounds_self_of_lt hlb]
      congr 2
      funext i
      have rpt : ∀ i, rp 300 i = true := fun i => by rw [rp_arr (show 20 ≤ 300 by omega)]; exact ref_arr (show 300 ≤ 300 by omega)
      have vr : ∀ (w' : Wd) (k i : Nat), vAt ad w' 300 k i = renR ad (wR w' 300 k i) := fun w' k i => by unfold vAt; rw [if_pos (rpt i)]
      unfold va_cpy
      rw [z0, vr, vr, vr, yR_sQ]
      by_cases d : i < k.toNatClampNeg
      · simp [d]
      · simp [d]
  obtain ⟨t, a1, b1⟩ := hk p e s m args below meth c Z ad0 w0 hF hc ad _ _ ls hRel hE hL hl (clS_t (clS_t (clS_t (clS_t (clS_t hS))))) (locs_apps ho (fun x hx => by
    obtain ⟨z, -, hz⟩ := List.mem_map.mp hx
    rw [← hz]
    exact b2)) h1 h2 _ hheap X'
  exact ⟨t, step t a1, b1⟩
theorem wp_copyI {idx t : Nat} {sp dp k : Int32} (hlink : Cond.methodLink (mOwn M) idx arraycopyName ∈ goodT) (ht : tbOk (mB M) tb = true) (hp : alk tb pc = some (.invokestatic idx, 3)) (t1 : 20 ≤ t) (t2 : t < 200) (hx : 0 < wC w t) (p1 : ¬ sp < 0) (p2 : ¬ dp < 0) (p3 : ¬ k < 0) (hN1 : sp.toNatClampNeg + k.toNatClampNeg ≤ wN w t 0) (hN2 : dp.toNatClampNeg + k.toNatClampNeg ≤ wN w t 0) (hcat : catS S ≤ 8) (hn : 1 ≤ n) (hk : WP l G M n mc ms Q (pc + 3) L S (sB w t 0 (va_cpy (wI w t 0) (wI w t 0) sp.toNatClampNeg dp.toNatClampNeg k.toNatClampNeg)) cu su) : WP l G M n mc ms Q pc L (.inl k :: .inl dp :: .inr (.inr (some (t, 0))) :: .inl sp :: .inr (.inr (some (t, 0))) :: S) w cu su := by
  intro p e s m args below meth c Z ad0 w0 hF hc ad H locs ls hR hE hL hl hS ho h1 h2
  obtain ⟨hx', hb, hr, hml, hown, hts, hKK, hlk, hnm⟩ := id hF
  obtain ⟨a1, b2⟩ := arr_in t1 (by omega) hR hx
  have hak : ak t = 0 := eTy_int t2
  obtain ⟨-, k0, hk0, cm0, hkk0⟩ := (hKK.1.2 0 _ rfl).1 (wN w t 0) (vAt ad w t 0)
  rw [hak] at a1
  have rpt : ∀ i, rp t i = false := fun i => by rw [rp_arr t1, eTy, hak]; rfl
  intro T hT X
  obtain ⟨vm', X', step⟩ := X.arraycopy hx' hown (hts _ hlink) (hts _ wn_nat) (hts _ wn_sta) (hts _ wn_ini) (src := ad t 0) (dst := ad t 0) (cs := arrV (gA G 0) (wN w t 0) (vAt ad w t 0)) (cd := arrV (gA G 0) (wN w t 0) (vAt ad w t 0)) (srcPos := sp) (destPos := dp) (n := k) (by rw [hT]; exact a1) (by rw [hT]; exact a1)
    (fun _ h => by cases h) (fun _ h => by cases h) (fun h => by cases h) (fun h => by cases h) hk0 hk0 hkk0 hkk0 rfl p1 p2 p3
    (by rw [nn32 k p3, nn32 sp p1, arrV_size]; omega)
    (by rw [nn32 k p3, nn32 dp p2, arrV_size]; omega)
    (fun vm₁ hal i hi => by
      rw [Array.getD_eq_getD_getElem?, arrV_read _ _ (by omega)]
      show fits _ (vAt ad w t 0 _) = true ∧ _
      unfold vAt
      rw [if_neg (by rw [rpt]; decide)]
      exact ⟨rfl, trivial⟩)
    (g := F0 m pc ls (.int k :: .int dp :: .ref (ad t 0) :: .int sp :: .ref (ad t 0) :: S.map (renV ad))) rfl (by rw [hml]; exact hL.1) (rest := S.map (renV ad)) rfl (by rw [hb]; exact tb_dec ht hp) hn (by
      have := catS_eq ad S
      show 2 * 0 + _ + (_ + 11) ≤ 40 * n
      rw [this]
      show 2 * 0 + catS S + (nativeFrameWords "java/lang/System" "arraycopy" 5 + 11) ≤ 40 * n
      have e5 : nativeFrameWords "java/lang/System" "arraycopy" 5 ≤ 20 := by decide
      omega)
  rw [cpd _ _ hN1] at X' step
  have hlb : ad t 0 < H.size := (Array.getElem?_eq_some_iff.mp a1).1
  have hheap : ((T.setVm vm').setCell (ad t 0) (arrV (gA G 0) (wN w t 0) (va_cpy (vAt ad w t 0) (vAt ad w t 0) sp.toNatClampNeg dp.toNatClampNeg k.toNatClampNeg))).heap = H.setIfInBounds (ad t 0) (arrV (gA G 0) (wN w t 0) (va_cpy (vAt ad w t 0) (vAt ad w t 0) sp.toNatClampNeg dp.toNatClampNeg k.toNatClampNeg)) := by rw [← hT]; rfl
  have oq : ∀ q : Nat, q ≠ ad t 0 → (H.setIfInBounds (ad t 0) (arrV (gA G 0) (wN w t 0) (va_cpy (vAt ad w t 0) (vAt ad w t 0) sp.toNatClampNeg dp.toNatClampNeg k.toNatClampNeg)))[q]? = H[q]? := fun q hq => by simp [Array.getElem?_setIfInBounds, Ne.symm hq]
  have hRel : Rel G ad (sB w t 0 (va_cpy (wI w t 0) (wI w t 0) sp.toNatClampNeg dp.toNatClampNeg k.toNatClampNeg)) (H.setIfInBounds (ad t 0) (arrV (gA G 0) (wN w t 0) (va_cpy (vAt ad w t 0) (vAt ad w t 0) sp.toNatClampNeg dp.toNatClampNeg k.toNatClampNeg))) := by
    refine Rel_sB hR (by omega) hx ?_ (by simp) oq
    rw [cOk, if_neg (by omega), Array.getElem?_setIfInBounds_self_of_lt hlb, hak]
    congr 2
    funext i
    have vr : ∀ (w' : Wd) (k i : Nat), vAt ad w' t k i = .int (wI w' t k i) := fun w' k i => by unfold vAt; rw [if_neg (by rw [rpt]; decide)]
    unfold va_cpy
    rw [vr, vr, vr, yI_sB]
    by_cases d : dp.toNatClampNeg ≤ i ∧ i < dp.toNatClampNeg + k.toNatClampNeg
    · simp [d]
    · simp [d]
  obtain ⟨t', a1, b1⟩ := hk p e s m args below meth c Z ad0 w0 hF hc ad _ _ ls hRel hE hL hl (clS_t (clS_t (clS_t (clS_t (clS_t hS))))) (locs_apps ho (fun x hx => by
    obtain ⟨z, -, hz⟩ := List.mem_map.mp hx
    rw [← hz]
    exact b2)) h1 h2 _ hheap X'
  exact ⟨t', step t' a1, b1⟩
end S9
