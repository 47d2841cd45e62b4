/-! rows for the law and the constructors: the script, a larger room, rows of rows -/
theorem hasRoom_le {s : State} {pl : Platform} {R R' : Room} (h1 : R.frames ≤ R'.frames) (h2 : R.cells ≤ R'.cells) (h3 : R.slots ≤ R'.slots) (h4 : R.locals ≤ R'.locals) (h : s.hasRoom pl R' = true) : s.hasRoom pl R = true := by
  simp only [State.hasRoom, Bool.and_eq_true, decide_eq_true_eq] at h ⊢
  obtain ⟨⟨⟨⟨a1, a2, a3, a4, a5, a6⟩, a7⟩, a8⟩, a9⟩ := h
  exact ⟨⟨⟨⟨by omega, by omega, by omega, by omega, by omega, a6⟩, by omega⟩, by omega⟩, a9⟩
theorem W_room {p : Program} {l : Launch} {e : Env} {R R' : Room} {s : State} {m : MethodId} {args : Array Value} {below : List Frame} {meth : Method} {c : Code} {H : Heap} {locs : List Loc} {cells slots : Nat} {Q : State → Prop} {g : JFrame} (h1 : R.frames ≤ R'.frames) (h2 : R.cells ≤ R'.cells) (h3 : R.slots ≤ R'.slots) (h4 : R.locals ≤ R'.locals) (k : W p l e R s m args below meth c H locs cells slots Q g) : W p l e R' s m args below meth c H locs cells slots Q g := by
  intro T hT X
  exact k T hT { X with room := hasRoom_le h1 h2 h3 h4 X.room }
section
variable {l : Launch} {G : Gc} {M : MI} {n mc ms : Nat} {Q : Option AV → Wd → Prop} {pc : Nat} {L : List (Option AV)} {S : List AV} {w : Wd} {cu su : Nat} {tb : TB}
theorem wp_sld {j : Int32} (ht : tbOk (mB M) tb = true) (hp : alk tb pc = some (.iaload, 1)) (hin : vp_in j (gL G)) (hk : WP l G M n mc ms Q (pc + 1) L (.inl (gS G j.toNatClampNeg) :: S) w cu su) : WP l G M n mc ms Q pc L (.inl j :: .inr (.inr (some (901, 0))) :: S) w cu su := by
  intro p e s m args below meth c Z ad0 w0 hF hc ad H locs ls hR hE hL hl hS ho h1 h2
  obtain ⟨hx, hb, hr, hml, hown, hts, hKK, hlk, hnm⟩ := id hF
  obtain ⟨-, -, e1, e2, e3, e4, e5, e6, e7, e8, e9, e10⟩ := hKK
  obtain ⟨scr, z1, z2, z3, z4, z5⟩ := e10
  have hv : ad 901 0 = gX G 901 0 := hR.2.2.2.1 901 0 (by omega)
  have hlt : gX G 901 0 < n0 G := (Array.getElem?_eq_some_iff.mp z1).1
  have hlt2 : j.toNatClampNeg < gL G := Nat.not_le.mp fun q => hin (Or.inr q)
  refine W.iald (v := .int (gS G j.toNatClampNeg)) hx hb (a := ad 901 0) (cell := scr) (by rw [hv, hR.2.2.2.2.2 _ hlt]; exact z1) z2 z3 (by rw [z4]; exact hin) (z5 _ hlt2) rfl rfl (tb_dec ht hp) ?_
  exact hk p e s m args below meth c Z ad0 w0 hF hc ad H locs ls hR hE hL hl (clS_c trivial (clS_t (clS_t hS))) ho h1 h2
theorem wp_slen (ht : tbOk (mB M) tb = true) (hp : alk tb pc = some (.arraylength, 1)) (hk : WP l G M n mc ms Q (pc + 1) L (.inl (nI (gL G)) :: S) w cu su) : WP l G M n mc ms Q pc L (.inr (.inr (some (901, 0))) :: S) w cu su := by
  intro p e s m args below meth c Z ad0 w0 hF hc ad H locs ls hR hE hL hl hS ho h1 h2
  obtain ⟨hx, hb, hr, hml, hown, hts, hKK, hlk, hnm⟩ := id hF
  obtain ⟨-, -, e1, e2, e3, e4, e5, e6, e7, e8, e9, e10⟩ := hKK
  obtain ⟨scr, z1, z2, z3, z4, z5⟩ := e10
  have hv : ad 901 0 = gX G 901 0 := hR.2.2.2.1 901 0 (by omega)
  have hlt : gX G 901 0 < n0 G := (Array.getElem?_eq_some_iff.mp z1).1
  refine W.alen (n := nI (gL G)) hx hb (a := ad 901 0) (cell := scr) (by rw [hv, hR.2.2.2.2.2 _ hlt]; exact z1) z2 (by rw [z4]; rfl) rfl rfl (tb_dec ht hp) ?_
  exact hk p e s m args below meth c Z ad0 w0 hF hc ad H locs ls hR hE hL hl (clS_c trivial (clS_t hS)) ho h1 h2
end
/-! the rows of the minutes -/
/-- the world with them, where there were none -/
def muW (w : Wd) : Wd := (fun t k i => if t = 173 ∧ k < 14 then 0 else w.1 t k i, fun t k i => if t = 302 ∧ k = 0 then (if i < 14 then some (173, i) else none) else if t = 173 ∧ k < 14 then none else w.2.1 t k i, fun t => if t = 302 then 1 else if t = 173 then 14 else w.2.2.1 t, fun t k => if t = 302 ∧ k = 0 then 14 else if t = 173 ∧ k < 14 then 14 else w.2.2.2 t k)
theorem muW_I (w : Wd) (t k i : Nat) : wI (muW w) t k i = if t = 173 ∧ k < 14 then 0 else wI w t k i := rfl
theorem muW_R (w : Wd) (t k i : Nat) : wR (muW w) t k i = if t = 302 ∧ k = 0 then (if i < 14 then some (173, i) else none) else if t = 173 ∧ k < 14 then none else wR w t k i := rfl
theorem muW_C (w : Wd) (t : Nat) : wC (muW w) t = if t = 302 then 1 else if t = 173 then 14 else wC w t := rfl
theorem muW_N (w : Wd) (t k : Nat) : wN (muW w) t k = if t = 302 ∧ k = 0 then 14 else if t = 173 ∧ k < 14 then 14 else wN w t k := rfl
def adM (ad : Nat → Nat → Nat) (h : Nat) : Nat → Nat → Nat := fun t k => if t = 302 ∧ k = 0 then h else if t = 173 ∧ k < 14 then h + 1 + k else ad t k
theorem Rel_ma {G : Gc} {ad : Nat → Nat → Nat} {w : Wd} {H H' : Heap} (hR : Rel G ad w H) (hC2 : wC w 302 = 0) (hC3 : wC w 173 = 0)
    (hz : H'.size = H.size + 15) (ho : ∀ q, q < H.size → H'[q]? = H[q]?) (h0 : H'[H.size]? = some (arrV (gA G 4) 14 (fun i => .ref (H.size + 1 + i)))) (hj : ∀ j, j < 14 → H'[H.size + 1 + j]? = some (arrV (gA G 0) 14 (fun _ => .int 0))) : Rel G (adM ad H.size) (muW w) H' ∧ Exd ad w (adM ad H.size) (muW w) := by
  obtain ⟨r1, r2, r3, r4, r5, r6⟩ := hR
  have hlt : ∀ t' k', t' < 900 → k' < wC w t' → ad t' k' < H.size := fun t' k' h1 h2 => cOk_lt (r1 t' k' h1 h2).1
  have ne : ∀ t k, k < wC w t → ¬ (t = 302 ∧ k = 0) ∧ ¬ (t = 173 ∧ k < 14) := fun t k hk => ⟨fun z => by rw [z.1] at hk; omega, fun z => by rw [z.1] at hk; omega⟩
  have ao : ∀ t k, ¬ (t = 302 ∧ k = 0) → ¬ (t = 173 ∧ k < 14) → adM ad H.size t k = ad t k := fun t k c1 c2 => by unfold adM; rw [if_neg c1, if_neg c2]
  have a2 : adM ad H.size 302 0 = H.size := by unfold adM; rw [if_pos ⟨rfl, rfl⟩]
  have a3 : ∀ k, k < 14 → adM ad H.size 173 k = H.size + 1 + k := fun k hk => by unfold adM; rw [if_neg (by omega), if_pos ⟨rfl, hk⟩]
  have old : ∀ q : Nat × Nat, clq w q → adM ad H.size q.1 q.2 = ad q.1 q.2 := fun q hq => by
    rcases hq with h | h
    · exact ao _ _ (by omega) (by omega)
    · exact ao _ _ (ne _ _ h).1 (ne _ _ h).2
  have split' : ∀ t' k', k' < wC (muW w) t' → (t' = 302 ∧ k' = 0) ∨ (t' = 173 ∧ k' < 14) ∨ (¬ (t' = 302 ∧ k' = 0) ∧ ¬ (t' = 173 ∧ k' < 14) ∧ k' < wC w t') := fun t' k' h => by
    rw [muW_C] at h
    by_cases e : t' = 302
    · rw [if_pos e] at h; exact Or.inl ⟨e, by omega⟩
    · rw [if_neg e] at h
      by_cases e2 : t' = 173
      · rw [if_pos e2] at h; exact Or.inr (Or.inl ⟨e2, h⟩)
      · rw [if_neg e2] at h; exact Or.inr (Or.inr ⟨by omega, by omega, h⟩)
  refine ⟨⟨fun t' k' h9 hk => ?_, fun t1 k1 t2 k2 h1 h2 hk1 hk2 he => ?_, fun t' k' i q hk hq => ?_, fun t' k' h9 => ?_, by omega, fun q hq => by rw [ho q (by omega)]; exact r6 q hq⟩, ⟨fun t' k' hk => ao _ _ (ne _ _ hk).1 (ne _ _ hk).2, fun t' => ?_⟩⟩
  · rcases split' t' k' hk with ⟨rfl, rfl⟩ | ⟨rfl, hk'⟩ | ⟨c1, c2, hk'⟩
    · rw [a2]
      refine ⟨?_, r5⟩
      unfold cOk
      rw [if_neg (by omega), muW_N, if_pos ⟨rfl, rfl⟩, h0]
      have e : ak 302 = 4 := by decide
      rw [e]
      refine congrArg some ?_
      unfold arrV
      congr 1
    · rw [a3 _ hk']
      refine ⟨?_, by omega⟩
      unfold cOk
      rw [if_neg (by omega), muW_N, if_neg (by omega), if_pos ⟨rfl, hk'⟩, hj _ hk']
      have e : ak 173 = 0 := by decide
      rw [e]
      refine congrArg some ?_
      unfold arrV
      congr 1
      apply congrArg
      funext j
      unfold vAt
      have er : rp 173 j.val = false := by unfold rp; rw [if_neg (by omega)]; decide
      rw [er, if_neg (by decide), muW_I, if_pos ⟨rfl, hk'⟩]
    · obtain ⟨x1, x2⟩ := r1 t' k' h9 hk'
      have e2 : wN (muW w) t' k' = wN w t' k' := by rw [muW_N, if_neg c1, if_neg c2]
      have e3 : vAt (adM ad H.size) (muW w) t' k' = vAt ad w t' k' := by
        funext i
        unfold vAt
        rw [muW_R, if_neg c1, if_neg c2, muW_I, if_neg c2]
        split
        · cases hw : wR w t' k' i with
          | none => rfl
          | some q =>
            show Value.ref _ = Value.ref _
            rw [old q (r3 t' k' i q hk' hw)]
        · rfl
      rw [ao _ _ c1 c2, e2, e3]
      exact ⟨cOk_kept x1 (ho _ (hlt t' k' h9 hk')), x2⟩
  · rcases split' t1 k1 hk1 with ⟨rfl, rfl⟩ | ⟨rfl, hk1'⟩ | ⟨c1, c2, hk1'⟩ <;> rcases split' t2 k2 hk2 with ⟨rfl, rfl⟩ | ⟨rfl, hk2'⟩ | ⟨d1, d2, hk2'⟩
    · exact ⟨rfl, rfl⟩
    · rw [a2, a3 _ hk2'] at he; omega
    · rw [a2, ao _ _ d1 d2] at he
      have := hlt t2 k2 h2 hk2'
      omega
    · rw [a2, a3 _ hk1'] at he; omega
    · rw [a3 _ hk1', a3 _ hk2'] at he
      exact ⟨rfl, by omega⟩
    · rw [a3 _ hk1', ao _ _ d1 d2] at he
      have := hlt t2 k2 h2 hk2'
      omega
    · rw [a2, ao _ _ c1 c2] at he
      have := hlt t1 k1 h1 hk1'
      omega
    · rw [a3 _ hk2', ao _ _ c1 c2] at he
      have := hlt t1 k1 h1 hk1'
      omega
    · rw [ao _ _ c1 c2, ao _ _ d1 d2] at he
      exact r2 t1 k1 t2 k2 h1 h2 hk1' hk2' he
  · rw [muW_R] at hq
    rcases split' t' k' hk with z | z | ⟨c1, c2, hk'⟩
    · rw [if_pos z] at hq
      by_cases hi : i < 14
      · rw [if_pos hi] at hq
        cases hq
        refine Or.inr ?_
        show i < wC (muW w) 173
        rw [muW_C, if_neg (by omega), if_pos rfl]
        exact hi
      · rw [if_neg hi] at hq; cases hq
    · rw [if_neg (by omega), if_pos z] at hq; cases hq
    · rw [if_neg c1, if_neg c2] at hq
      rcases r3 t' k' i q hk' hq with y | y
      · exact Or.inl y
      · refine Or.inr ?_
        rw [muW_C]
        split
        · rename_i e5; rw [e5] at y; omega
        · split
          · rename_i e5 e6; rw [e6] at y; omega
          · exact y
  · rw [ao _ _ (by omega) (by omega)]
    exact r4 t' k' h9
  · rw [muW_C]
    split
    · rename_i e; rw [e]; omega
    · split
      · rename_i e e2; rw [e2]; omega
      · exact Nat.le_refl _
theorem outC_h (c : ClassId) (N h0 : Nat) : ∀ i, (Jvm.Free.Multi.outerC c N h0 i).monitor = {} ∧ (Jvm.Free.Multi.outerC c N h0 i).hash = none
  | 0 => ⟨rfl, rfl⟩
  | i + 1 => outC_h c N h0 i
theorem cell_arr {x : Cell} {cI : ClassId} {N : Nat} {f : Nat → Value} (h1 : x.cls = cI) (h2 : x.vm = .none) (h5 : x.monitor = {}) (h6 : x.hash = none) (h3 : x.slots.size = N) (h4 : ∀ j, j < N → x.slots[j]? = some (f j)) : x = arrV cI N f := by
  obtain ⟨xc, xs, xm, xh, xv⟩ := x
  simp only at h1 h2 h3 h4 h5 h6
  subst h1 h2 h5 h6
  unfold arrV
  congr 1
  apply Array.ext_getElem?
  intro j
  by_cases hj : j < N
  · rw [h4 j hj]
    simp [hj]
  · rw [Array.getElem?_eq_none (by omega), Array.getElem?_eq_none (by simp; omega)]
section
variable {l : Launch} {G : Gc} {M : MI} {n mc ms : Nat} {Q : Option AV → Wd → Prop} {pc : Nat} {L : List (Option AV)} {S : List AV} {w : Wd} {cu su : Nat} {tb : TB}
set_option maxHeartbeats 1000000 in
theorem wp_multi {idx : Nat} (ht : tbOk (mB M) tb = true) (hp : alk tb pc = some (.multianewarray idx 2, 4)) (hlink : Cond.classLink (mOwn M) idx "[[I" ∈ goodT) (hC2 : wC w 302 = 0) (hC3 : wC w 173 = 0) (h1c : cu + 15 ≤ mc) (h2c : su + 210 ≤ ms) (hk : WP l G M n mc ms Q (pc + 4) L (.inr (.inr (some (302, 0))) :: S) (muW w) (cu + 15) (su + 210)) : WP l G M n mc ms Q pc L (.inl 14 :: .inl 14 :: S) w cu su := by
  intro p e s m args below meth c Z ad0 w0 hF hc ad H locs ls hR hE hL hl hS ho h1 h2
  obtain ⟨hx, hb, hr, hml, hown, hts, hKK, hlk, hnm⟩ := id hF
  obtain ⟨kk, -, e1, e2, e3, e4, e5, e6, e7, e8, e9, e10⟩ := id hKK
  have hover : (Cond.arrayOver (.array .int)).before args s = true := e9.2.1
  have e14 : (14 : Int32).toNatClampNeg = 14 := by decide
  intro T hT X
  have key := X.multianewarray2F hx hown (ty := .int) (index := idx) (hts _ hlink) hover (hts _ wa_int) (g := F0 m pc ls (.int 14 :: .int 14 :: S.map (renV ad))) rfl (by rw [hb]; exact tb_dec ht hp) (n := 14) (k := 14) rfl (by decide) (by decide) (by decide) (by decide) (by decide) (by decide) (by decide) (by show cu + (1 + (14 : Int32).toNatClampNeg) ≤ mc; rw [e14]; omega) (by show su + ((14 : Int32).toNatClampNeg + (14 : Int32).toNatClampNeg * (14 : Int32).toNatClampNeg) ≤ ms; rw [e14]; omega)
  obtain ⟨vm1, cA, comp, hW, hfA, hfC, hO, hI, X1, st⟩ := key
  rw [e14] at X1 st
  have dv : defaultValue .int = .int 0 := rfl
  rw [dv] at X1 st
  have ff := Jvm.Free.Multi.fill_facts (T.setVm vm1) cA comp 14 14 (.int 0) 14
  have fo := fun a (ha : a < H.size) => Jvm.Free.Multi.fill_old (T.setVm vm1) cA comp 14 14 (.int 0) (a := a) (by show a < T.heap.size; rw [hT]; exact ha) 14
  have fi := Jvm.Free.Multi.fill_inner (T.setVm vm1) cA comp 14 14 (.int 0) 14
  have hTs : (T.setVm vm1).heap = H := hT
  rw [hTs] at ff
  simp only [hTs] at fo fi
  have y4 := (kk.2 4 _ rfl).2
  have x4 := (kk.2 0 _ rfl).2
  have g4 : gA G 4 = cA := Option.some.inj (y4.symm.trans hfA)
  have g0 : gA G 0 = comp := Option.some.inj (x4.symm.trans hfC)
  obtain ⟨hR', hE'⟩ := Rel_ma (H' := (Jvm.Free.Multi.fill (T.setVm vm1) cA comp 14 14 (.int 0) 14).heap) hR hC2 hC3 ff.1 fo (by
    rw [ff.2.1, g4]
    refine congrArg some ?_
    obtain ⟨o1, o2, o3⟩ := Jvm.Free.Multi.outerC_facts cA 14 H.size 14
    refine cell_arr o1 o2 (outC_h cA 14 H.size 14).1 (outC_h cA 14 H.size 14).2 o3 (fun j hj => ?_)
    rw [Jvm.Free.Multi.outerC_slot cA 14 H.size 14 j hj, if_pos hj]) (fun j hj => by
    rw [fi j hj, g0, ← arrV_new]
    rfl)
  have hls : LsR (adM ad H.size) (mL M) L ls := ⟨hL.1, hL.2.1, hL.2.2.1, fun i v hi => by rw [ren_eq hR hR' hE' (hl i v hi)]; exact hL.2.2.2 i v hi⟩
  have hSS : S.map (renV ad) = S.map (renV (adM ad H.size)) := List.map_congr_left fun v hv => (ren_eq hR hR' hE' (clS_t (clS_t hS) v hv)).symm
  have K := hk p e s m args below meth c Z ad0 w0 hF hc _ _ locs ls hR' (Exd_trans hE hE') hls (fun i v hi => clV_mono hE'.2 (hl i v hi)) (clS_c (Or.inr (by show 0 < wC (muW w) 302; rw [muW_C, if_pos rfl]; omega)) (fun v hv => clV_mono hE'.2 (clS_t (clS_t hS) v hv))) ho h1c h2c
  have e1' : (.ref H.size :: S.map (renV ad) : List Value) = (.inr (.inr (some (302, 0))) :: S).map (renV (adM ad H.size)) := by
    rw [hSS]
    show _ = Value.ref (adM ad H.size 302 0) :: _
    unfold adM
    rw [if_pos ⟨rfl, rfl⟩]
  rw [← e1'] at K
  obtain ⟨t, a1, b1⟩ := K _ rfl X1
  refine ⟨t, st t ?_, b1⟩
  rw [hT]
  exact a1
end
