/-! instructions on cells of the world -/
theorem cOk_kept {G : Gc} {t a n : Nat} {V : Nat → Value} {H H' : Heap} (h : cOk G t a n V H) (hq : H'[a]? = H[a]?) : cOk G t a n V H' := by
  unfold cOk at h ⊢
  split at h
  · rename_i ht
    rw [if_pos ht]
    obtain ⟨r, h1, h2⟩ := h
    exact ⟨r, h1, h2.kept hq⟩
  · rename_i ht
    rw [if_neg ht, hq]
    exact h
theorem cOk_lt {G : Gc} {t a n : Nat} {V : Nat → Value} {H : Heap} (h : cOk G t a n V H) : a < H.size := by
  unfold cOk at h
  split at h
  · obtain ⟨r, h1, cell, h2, -⟩ := h
    exact (Array.getElem?_eq_some_iff.mp h2).1
  · exact (Array.getElem?_eq_some_iff.mp h).1
theorem vAt_sI_ne {ad : Nat → Nat → Nat} {w : Wd} {t k i t' k' : Nat} {v : Int32} (h : ¬ (t' = t ∧ k' = k)) : vAt ad (sI w t k i v) t' k' = vAt ad w t' k' := by
  funext j
  simp only [vAt, wR_sI, wI_sI]
  rw [if_neg (show ¬ (t' = t ∧ k' = k ∧ j = i) from fun q => h ⟨q.1, q.2.1⟩)]
theorem vAt_sR_ne {ad : Nat → Nat → Nat} {w : Wd} {t k i t' k' : Nat} {v : Option (Nat × Nat)} (h : ¬ (t' = t ∧ k' = k)) : vAt ad (sR w t k i v) t' k' = vAt ad w t' k' := by
  funext j
  simp only [vAt, wI_sR, wR_sR]
  rw [if_neg (show ¬ (t' = t ∧ k' = k ∧ j = i) from fun q => h ⟨q.1, q.2.1⟩)]
theorem vAt_sI_at {ad : Nat → Nat → Nat} {w : Wd} {t k i : Nat} {v : Int32} (h : rp t i = false) (j : Nat) : updV (vAt ad w t k) i (.int v) j = vAt ad (sI w t k i v) t k j := by
  simp only [updV, vAt, wI_sI, wR_sI]
  by_cases e : j = i
  · subst e
    simp [h]
  · simp [e]
theorem vAt_sR_at {ad : Nat → Nat → Nat} {w : Wd} {t k i : Nat} {v : Option (Nat × Nat)} (h : rp t i = true) (j : Nat) : updV (vAt ad w t k) i (renR ad v) j = vAt ad (sR w t k i v) t k j := by
  simp only [updV, vAt, wI_sR, wR_sR]
  by_cases e : j = i
  · subst e
    simp [h]
  · simp [e]
theorem Rel_sI {G : Gc} {ad : Nat → Nat → Nat} {w : Wd} {H H' : Heap} {t k i : Nat} {v : Int32} (hR : Rel G ad w H) (ht : t < 900) (hk : k < wC w t) (hc : cOk G t (ad t k) (wN w t k) (vAt ad (sI w t k i v) t k) H') (hz : H'.size = H.size) (oq : ∀ q, q ≠ ad t k → H'[q]? = H[q]?) : Rel G ad (sI w t k i v) H' := by
  obtain ⟨r1, r2, r3, r4, r5, r6⟩ := hR
  refine ⟨fun t' k' h1 h2 => ?_, r2, r3, r4, by rw [hz]; exact r5, fun q hq => ?_⟩
  · by_cases e : t' = t ∧ k' = k
    · obtain ⟨rfl, rfl⟩ := e
      exact ⟨hc, (r1 _ _ ht hk).2⟩
    · rw [vAt_sI_ne e]
      refine ⟨cOk_kept (r1 t' k' h1 h2).1 (oq _ (fun z => e ?_)), (r1 t' k' h1 h2).2⟩
      exact r2 t' k' t k h1 ht h2 hk z
  · rw [oq q (fun z => ?_)]
    · exact r6 q hq
    · have := (r1 t k ht hk).2
      omega
theorem Rel_sR {G : Gc} {ad : Nat → Nat → Nat} {w : Wd} {H H' : Heap} {t k i : Nat} {v : Option (Nat × Nat)} (hR : Rel G ad w H) (ht : t < 900) (hk : k < wC w t) (hv : clV w (.inr (.inr v))) (hc : cOk G t (ad t k) (wN w t k) (vAt ad (sR w t k i v) t k) H') (hz : H'.size = H.size) (oq : ∀ q, q ≠ ad t k → H'[q]? = H[q]?) : Rel G ad (sR w t k i v) H' := by
  obtain ⟨r1, r2, r3, r4, r5, r6⟩ := hR
  refine ⟨fun t' k' h1 h2 => ?_, r2, fun t' k' j q h1 h2 => ?_, r4, by rw [hz]; exact r5, fun q hq => ?_⟩
  · by_cases e : t' = t ∧ k' = k
    · obtain ⟨rfl, rfl⟩ := e
      exact ⟨hc, (r1 _ _ ht hk).2⟩
    · rw [vAt_sR_ne e]
      refine ⟨cOk_kept (r1 t' k' h1 h2).1 (oq _ (fun z => e ?_)), (r1 t' k' h1 h2).2⟩
      exact r2 t' k' t k h1 ht h2 hk z
  · rw [wR_sR] at h2
    split at h2
    · subst h2
      exact hv
    · exact r3 t' k' j q h1 h2
  · rw [oq q (fun z => ?_)]
    · exact r6 q hq
    · have := (r1 t k ht hk).2
      omega
theorem Exd_sI {ad0 ad : Nat → Nat → Nat} {w0 w : Wd} {t k i : Nat} {v : Int32} (h : Exd ad0 w0 ad w) : Exd ad0 w0 ad (sI w t k i v) := h
theorem Exd_sR {ad0 ad : Nat → Nat → Nat} {w0 w : Wd} {t k i : Nat} {v : Option (Nat × Nat)} (h : Exd ad0 w0 ad w) : Exd ad0 w0 ad (sR w t k i v) := h
theorem locs_app {G : Gc} {locs : List Loc} {q : Loc} (h : locsOk G locs) (hq : gOut G q.base) : locsOk G (locs ++ [q]) := fun x hx => by
  rcases List.mem_append.mp hx with h1 | h1
  · exact h x h1
  · rw [List.mem_singleton.mp h1]; exact hq
/-- a field of the class's constants, linked -/
def fldOk (own : String) (idx ci k : Nat) : Prop := ci < 14 ∧ k < (clsN ci).2.2 ∧ ∃ ref, Cond.fieldLink own idx ref ((clsN ci).2.1 k).2.1 ((clsN ci).2.1 k).2.2.1 ∈ goodT ∧ (ref = ((clsN ci).2.1 k).1 ∨ Cond.sameField ref ((clsN ci).2.1 k).1 ((clsN ci).2.1 k).2.1 ((clsN ci).2.1 k).2.2.1 ∈ goodT)
theorem rp_lt {t i : Nat} (h : t < 14) : rp t i = rTy (cTy t i) := by simp [rp, show t < 20 by omega]
theorem eTy_int {t : Nat} (h : t < 200) : ak t = 0 := by simp [ak, h]
theorem eTy_bool {t : Nat} (h : 200 ≤ t) (h2 : t < 300) : ak t = 1 := by simp [ak, show ¬ t < 200 by omega, h2]
theorem ak_in (t : Nat) : ak t < 5 := by unfold ak; split <;> (try split) <;> (try split) <;> (try split) <;> omega
theorem KK_arr {G : Gc} {s : State} (h : KK G s) (a : Nat) (ha : a < 5) : ArrOfT s (gA G a) (eTk a) := by
  match a, ha with
  | 0, _ => exact (h.1.2 0 _ rfl).1
  | 1, _ => exact (h.1.2 1 _ rfl).1
  | 2, _ => exact (h.1.2 2 _ rfl).1
  | 3, _ => exact (h.1.2 3 _ rfl).1
  | 4, _ => exact (h.1.2 4 _ rfl).1
theorem nar_narrow {ty : FieldType} {v : Int32} (h : nar (some ty) v) : narrow ty (.int v) = .int v ∧ fits ty (.int v) = true := by
  cases ty <;> simp only [nar] at h <;> try exact h.elim
  · exact ⟨by rw [show narrow .byte (.int v) = .int v.toInt8.toInt32 from rfl, h]; rfl, by rw [h]; decide⟩
  · obtain ⟨j, hj, rfl⟩ := nI_of2 (M := 255) (n := 255) (x := v) rfl (by exact Int32.not_lt.mpr h.1) h.2
    exact pk_charN (by omega)
  · exact ⟨rfl, rfl⟩
  · rcases h with rfl | rfl <;> decide
section S2
variable {l : Launch} {G : Gc} {M : MI} {C : CE} {X : XE} {n mc ms : Nat} {Q : Option AV → Wd → Prop} {pc : Nat} {L : List (Option AV)} {S : List AV} {w : Wd} {cu su : Nat}
theorem s_ifnull {off : Int} (hd : decode (mB M) pc = .ok (.ifnull off, 3)) (hs : stW l G M C X n mc ms Q pc (.ifnull off) L S w cu su) : WP l G M n mc ms Q pc L S w cu su := by
  intro p e s m args below meth c Z ad0 w0 hF hc ad H locs ls hR hE hL hl hS ho h1 h2
  obtain ⟨hx, hb, -⟩ := id hF
  simp only [stW, stp] at hs
  split at hs
  · obtain ⟨t, ht, hk⟩ := jmp_go hs
    exact lv_ifnullN hx hb hd ht (hk p e s m args below meth c Z ad0 w0 hF hc ad H locs ls hR hE hL hl (clS_t hS) ho h1 h2)
  · exact lv_ifnull hx hb hd (hs p e s m args below meth c Z ad0 w0 hF hc ad H locs ls hR hE hL hl (clS_t hS) ho h1 h2)
  · exact hs.elim
theorem s_ifnonnull {off : Int} (hd : decode (mB M) pc = .ok (.ifnonnull off, 3)) (hs : stW l G M C X n mc ms Q pc (.ifnonnull off) L S w cu su) : WP l G M n mc ms Q pc L S w cu su := by
  intro p e s m args below meth c Z ad0 w0 hF hc ad H locs ls hR hE hL hl hS ho h1 h2
  obtain ⟨hx, hb, -⟩ := id hF
  simp only [stW, stp] at hs
  split at hs
  · exact lv_ifnonnullN hx hb hd (hs p e s m args below meth c Z ad0 w0 hF hc ad H locs ls hR hE hL hl (clS_t hS) ho h1 h2)
  · obtain ⟨t, ht, hk⟩ := jmp_go hs
    exact lv_ifnonnull hx hb hd ht (hk p e s m args below meth c Z ad0 w0 hF hc ad H locs ls hR hE hL hl (clS_t hS) ho h1 h2)
  · exact hs.elim
theorem s_table {d lo hi : Int} {offs : Array Int} {len : Nat} (hd : decode (mB M) pc = .ok (.tableswitch d lo hi offs, len)) (hs : stW l G M C X n mc ms Q pc (.tableswitch d lo hi offs) L S w cu su) : WP l G M n mc ms Q pc L S w cu su := by
  intro p e s m args below meth c Z ad0 w0 hF hc ad H locs ls hR hE hL hl hS ho h1 h2
  obtain ⟨hx, hb, -⟩ := id hF
  simp only [stW, stp] at hs
  split at hs
  · rename_i x S2
    split at hs
    · rename_i hq
      obtain ⟨t, ht, hk⟩ := jmp_go hs
      exact lv_tableOut hx hb hd hq ht (hk p e s m args below meth c Z ad0 w0 hF hc ad H locs ls hR hE hL hl (clS_t hS) ho h1 h2)
    · rename_i hq
      split at hs
      · rename_i off hoff
        obtain ⟨t, ht, hk⟩ := jmp_go hs
        exact lv_tableIn hx hb hd (fun z => hq (Or.inl z)) (fun z => hq (Or.inr z)) hoff ht (hk p e s m args below meth c Z ad0 w0 hF hc ad H locs ls hR hE hL hl (clS_t hS) ho h1 h2)
      · exact hs.elim
  · exact hs.elim
theorem s_lookup {d : Int} {ps : Array (Int × Int)} {len : Nat} (hd : decode (mB M) pc = .ok (.lookupswitch d ps, len)) (hs : stW l G M C X n mc ms Q pc (.lookupswitch d ps) L S w cu su) : WP l G M n mc ms Q pc L S w cu su := by
  intro p e s m args below meth c Z ad0 w0 hF hc ad H locs ls hR hE hL hl hS ho h1 h2
  obtain ⟨hx, hb, -⟩ := id hF
  simp only [stW, stp] at hs
  split at hs
  · obtain ⟨t, ht, hk⟩ := jmp_go hs.2
    exact lv_lookup hx hb hd hs.1 rfl ht (hk p e s m args below meth c Z ad0 w0 hF hc ad H locs ls hR hE hL hl (clS_t hS) ho h1 h2)
  · exact hs.elim
theorem s_getfield {idx : Nat} (hf : ∀ ci k, ceF C idx = some (ci, k) → fldOk (mOwn M) idx ci k) (hd : decode (mB M) pc = .ok (.getfield idx, 3)) (hs : stW l G M C X n mc ms Q pc (.getfield idx) L S w cu su) : WP l G M n mc ms Q pc L S w cu su := by
  intro p e s m args below meth c Z ad0 w0 hF hc ad H locs ls hR hE hL hl hS ho h1 h2
  obtain ⟨hx, hb, hr, hml, hown, hts, hKK, hlk, hnm⟩ := id hF
  simp only [stW, stp] at hs
  split at hs
  · rename_i ci k hce
    split at hs
    · rename_i S0 t j S2
      obtain ⟨rfl, hj, hk⟩ := hs
      obtain ⟨c14, ck, ref, hlink, hsame⟩ := hf _ _ hce
      obtain ⟨hcell, -⟩ := hR.1 t j (by omega) hj
      rw [cOk, if_pos (by omega)] at hcell
      obtain ⟨r, hcr, cell, q1, q2, q3, q4⟩ := hcell
      have hr0 : r = clsN t := Option.some.inj (hcr.symm.trans (clsAt c14))
      subst hr0
      obtain ⟨hSl, hfc, kC, hkC, hkind⟩ := hKK.1.1 t _ (clsAt c14)
      obtain ⟨cf, kf, fi, f, hi, hsl⟩ := hSl k ck
      have hi2 : s.fieldFound? ref ((clsN t).2.1 k).2.1 ((clsN t).2.1 k).2.2.1 = some (cf, kf, fi, f) := by
        rcases hsame with h | h
        · rw [h]; exact hi
        · exact u_same (hts _ h) _ hi
      refine W.getf hx hb hown (hts _ hlink) hi2 (u_facts hfc hkC (u_lays hts (clsIn c14) ck) hi).1 q1 (by rw [q3]; exact fun h => by cases h) (v := vAt ad w t j k) (by rw [hsl]; exact q4 k ck) rfl rfl hd ?_
      have hv : vAt ad w t j k = renV ad (if rp t k = true then .inr (.inr (wR w t j k)) else .inl (wI w t j k)) := by
        unfold vAt
        split <;> rfl
      rw [hv]
      refine hk p e s m args below meth c Z ad0 w0 hF hc ad H locs ls hR hE hL hl (clS_c ?_ (clS_t hS)) ho h1 h2
      split
      · cases hw : wR w t j k with
        | none => trivial
        | some q => exact hR.2.2.1 _ _ _ _ hj hw
      · trivial
    · exact hs.elim
  · exact hs.elim
theorem s_putfield {idx : Nat} (hf : ∀ ci k, ceF C idx = some (ci, k) → fldOk (mOwn M) idx ci k) (hd : decode (mB M) pc = .ok (.putfield idx, 3)) (hs : stW l G M C X n mc ms Q pc (.putfield idx) L S w cu su) : WP l G M n mc ms Q pc L S w cu su := by
  intro p e s m args below meth c Z ad0 w0 hF hc ad H locs ls hR hE hL hl hS ho h1 h2
  obtain ⟨hx, hb, hr, hml, hown, hts, hKK, hlk, hnm⟩ := id hF
  simp only [stW, stp] at hs
  split at hs
  · rename_i ci k hce
    split at hs
    · rename_i S0 x t j S2
      obtain ⟨rfl, hj, hrp, hfin, hnar, hk⟩ := hs
      obtain ⟨c14, ck, ref, hlink, hsame⟩ := hf _ _ hce
      obtain ⟨hcell, hge⟩ := hR.1 t j (by omega) hj
      rw [cOk, if_pos (by omega)] at hcell
      obtain ⟨r, hcr, cell, q1, q2, q3, q4⟩ := hcell
      have hr0 : r = clsN t := Option.some.inj (hcr.symm.trans (clsAt c14))
      subst hr0
      obtain ⟨hSl, hfc, kC, hkC, hkind⟩ := hKK.1.1 t _ (clsAt c14)
      obtain ⟨cf, kf, fi, f, hi, hsl⟩ := hSl k ck
      have hi2 : s.fieldFound? ref ((clsN t).2.1 k).2.1 ((clsN t).2.1 k).2.2.1 = some (cf, kf, fi, f) := by
        rcases hsame with h | h
        · rw [h]; exact hi
        · exact u_same (hts _ h) _ hi
      have hlay := hts _ (clsIn c14 _ (u_in_lay ck))
      unfold u_lay at hlay
      rw [if_neg (by rw [hfin]; decide)] at hlay
      have hst := (u_facts hfc hkC (u_lays hts (clsIn c14) ck) hi).1
      obtain ⟨n1, n2⟩ := nar_narrow hnar
      have h6 := u_store hfc hkC hkind hlay hi (clsTy c14 k ck) n1 n2
      have hap := va_apart (own := mOwn M) hts (clsIn c14) (cTy t) (clsTy c14) (clsNm c14) hKK.1 (clsAt c14)
      refine W.putK hx hb (f := f) ⟨hown, hts _ hlink, ⟨_, _, _, hi2⟩, hst⟩ (by rw [q2]; exact h6) q1 q3 (by rw [hsl]; exact k2_hasslot (q4 k ck)) rfl rfl hd fun H' e1 e2 e3 => ?_
      rw [hsl] at e1 ⊢
      refine hk p e s m args below meth c Z ad0 w0 hF hc ad H' _ ls (Rel_sI hR (by omega) hj ?_ e2 e3) hE hL hl (clS_t (clS_t hS)) (locs_app ho hge) h1 h2
      rw [cOk, if_pos (by omega)]
      exact ⟨_, hcr, t_OB.to (V := updV (vAt ad w t j) k (.int x)) ⟨_, e1, q2, q3, t_set q4 hap ck _⟩ (fun i _ => vAt_sI_at hrp i)⟩
    · exact hs.elim
  · exact hs.elim
theorem arr_in {t : Nat} (h : 20 ≤ t) (h2 : t < 900) {w : Wd} {ad : Nat → Nat → Nat} {H : Heap} {j : Nat} (hR : Rel G ad w H) (hj : j < wC w t) : H[ad t j]? = some (arrV (gA G (ak t)) (wN w t j) (vAt ad w t j)) ∧ n0 G ≤ ad t j := by
  obtain ⟨h3, h4⟩ := hR.1 t j h2 hj
  rw [cOk, if_neg (by omega)] at h3
  exact ⟨h3, h4⟩
theorem rp_arr {t i : Nat} (h : 20 ≤ t) : rp t i = rTy (eTy t) := by simp [rp, show ¬ t < 20 by omega]
theorem s_iaload (hd : decode (mB M) pc = .ok (.iaload, 1)) (hs : stW l G M C X n mc ms Q pc (.iaload) L S w cu su) : WP l G M n mc ms Q pc L S w cu su := by
  intro p e s m args below meth c Z ad0 w0 hF hc ad H locs ls hR hE hL hl hS ho h1 h2
  obtain ⟨hx, hb, hr, hml, hown, hts, hKK, hlk, hnm⟩ := id hF
  simp only [stW, stp] at hs
  split at hs
  · rename_i S0 i t j S2
    split at hs
    · rename_i ht
      subst ht
      obtain ⟨rfl, hin, hk⟩ := hs
      obtain ⟨scr, x1, x2, x3, x4, x5⟩ := hKK.2.2.2.2.2.2.2.2.2.2.2
      have hbl : gX G 901 0 < n0 G := (Array.getElem?_eq_some_iff.mp x1).1
      have ha : ad 901 0 = gX G 901 0 := hR.2.2.2.1 901 0 (by omega)
      have hlt : i.toNatClampNeg < gL G := Nat.not_le.mp fun q => hin (Or.inr q)
      refine W.iald (v := .int (gS G i.toNatClampNeg)) hx hb (a := ad 901 0) (cell := scr) (by rw [ha, hR.2.2.2.2.2 _ hbl]; exact x1) x2 x3 (by rw [x4]; exact hin) (x5 _ hlt) rfl rfl hd ?_
      exact hk p e s m args below meth c Z ad0 w0 hF hc ad H locs ls hR hE hL hl (clS_c trivial (clS_t (clS_t hS))) ho h1 h2
    · obtain ⟨t1, t2, hj, hin, hk⟩ := hs
      obtain ⟨a1, a2⟩ := arr_in t1 (by omega) hR hj
      have hA := KK_arr hKK (ak t) (ak_in t)
      rw [eTy_int t2] at hA a1
      have hlt : i.toNatClampNeg < wN w t j := Nat.not_le.mp fun q => hin (Or.inr q)
      refine W.iald (v := vAt ad w t j i.toNatClampNeg) hx hb a1 (hA _ _) (fun q => by cases q) (by rw [arrV_size]; exact hin) (by rw [arrV_read _ _ hlt]) rfl rfl hd ?_
      have hv : vAt ad w t j i.toNatClampNeg = .int (wI w t j i.toNatClampNeg) := by rw [vAt, rp_arr t1, eTy, eTy_int t2]; rfl
      rw [hv]
      exact hk p e s m args below meth c Z ad0 w0 hF hc ad H locs ls hR hE hL hl (clS_c trivial (clS_t (clS_t hS))) ho h1 h2
  · exact hs.elim
theorem s_baload (hd : decode (mB M) pc = .ok (.baload, 1)) (hs : stW l G M C X n mc ms Q pc (.baload) L S w cu su) : WP l G M n mc ms Q pc L S w cu su := by
  intro p e s m args below meth c Z ad0 w0 hF hc ad H locs ls hR hE hL hl hS ho h1 h2
  obtain ⟨hx, hb, hr, hml, hown, hts, hKK, hlk, hnm⟩ := id hF
  simp only [stW, stp] at hs
  split at hs
  · rename_i S0 i t j S2
    obtain ⟨t1, t2, hj, hin, hk⟩ := hs
    obtain ⟨a1, a2⟩ := arr_in (by omega) (by omega) hR hj
    have hA := KK_arr hKK (ak t) (ak_in t)
    rw [eTy_bool t1 t2] at hA a1
    have hlt : i.toNatClampNeg < wN w t j := Nat.not_le.mp fun q => hin (Or.inr q)
    refine W.zald (v := vAt ad w t j i.toNatClampNeg) hx hb a1 (hA _ _) (fun q => by cases q) (by rw [arrV_size]; exact hin) (by rw [arrV_read _ _ hlt]) rfl rfl hd ?_
    have hv : vAt ad w t j i.toNatClampNeg = .int (wI w t j i.toNatClampNeg) := by rw [vAt, rp_arr (by omega), eTy, eTy_bool t1 t2]; rfl
    rw [hv]
    exact hk p e s m args below meth c Z ad0 w0 hF hc ad H locs ls hR hE hL hl (clS_c trivial (clS_t (clS_t hS))) ho h1 h2
  · exact hs.elim
theorem ref_arr {t : Nat} (h : 300 ≤ t) : rTy (eTy t) = true := by
  unfold eTy ak
  rw [if_neg (by omega), if_neg (by omega)]
  split
  · rfl
  · split <;> rfl
theorem ref_isRef {t : Nat} (h : 300 ≤ t) : (eTy t).isReference = true := by
  unfold eTy ak
  rw [if_neg (by omega), if_neg (by omega)]
  split
  · rfl
  · split <;> rfl
theorem s_aaload (hd : decode (mB M) pc = .ok (.aaload, 1)) (hs : stW l G M C X n mc ms Q pc (.aaload) L S w cu su) : WP l G M n mc ms Q pc L S w cu su := by
  intro p e s m args below meth c Z ad0 w0 hF hc ad H locs ls hR hE hL hl hS ho h1 h2
  obtain ⟨hx, hb, hr, hml, hown, hts, hKK, hlk, hnm⟩ := id hF
  simp only [stW, stp] at hs
  split at hs
  · rename_i S0 i t j S2
    obtain ⟨t1, t2, hj, hin, hk⟩ := hs
    obtain ⟨a1, a2⟩ := arr_in (by omega) (by omega) hR hj
    have hA := KK_arr hKK (ak t) (ak_in t)
    have hlt : i.toNatClampNeg < wN w t j := Nat.not_le.mp fun q => hin (Or.inr q)
    refine W.aald (v := vAt ad w t j i.toNatClampNeg) (ty := eTy t) hx hb a1 (hA _ _) (ref_isRef t1) (fun q => by cases q) (by rw [arrV_size]; exact hin) (by rw [arrV_read _ _ hlt]) rfl rfl hd ?_
    have hv : vAt ad w t j i.toNatClampNeg = renR ad (wR w t j i.toNatClampNeg) := by rw [vAt, rp_arr (by omega), ref_arr t1]; rfl
    rw [hv]
    refine hk p e s m args below meth c Z ad0 w0 hF hc ad H locs ls hR hE hL hl (clS_c ?_ (clS_t (clS_t hS))) ho h1 h2
    cases hw : wR w t j i.toNatClampNeg with
    | none => trivial
    | some q => exact hR.2.2.1 _ _ _ _ hj hw
  · exact hs.elim
theorem s_iastore (hd : decode (mB M) pc = .ok (.iastore, 1)) (hs : stW l G M C X n mc ms Q pc (.iastore) L S w cu su) : WP l G M n mc ms Q pc L S w cu su := by
  intro p e s m args below meth c Z ad0 w0 hF hc ad H locs ls hR hE hL hl hS ho h1 h2
  obtain ⟨hx, hb, hr, hml, hown, hts, hKK, hlk, hnm⟩ := id hF
  simp only [stW, stp] at hs
  split at hs
  · rename_i S0 x i t j S2
    obtain ⟨t1, t2, hj, hin, hk⟩ := hs
    obtain ⟨a1, a2⟩ := arr_in (by omega) (by omega) hR hj
    have hA := KK_arr hKK (ak t) (ak_in t)
    rw [eTy_int t2] at hA
    have a1' := a1
    rw [eTy_int t2] at a1'
    refine W.iast hx hb a1' (hA _ _) (fun q => by cases q) (by rw [arrV_size]; exact hin) rfl rfl hd fun H1 e1 z oq => ?_
    refine hk p e s m args below meth c Z ad0 w0 hF hc ad H1 _ ls (Rel_sI hR (by omega) hj ?_ z oq) hE hL hl (clS_t (clS_t (clS_t hS))) (locs_app ho a2) h1 h2
    rw [cOk, if_neg (by omega), e1, arrV_store, eTy_int t2]
    congr 2
    funext q
    exact vAt_sI_at (by rw [rp_arr t1, eTy, eTy_int t2]; rfl) q
  · exact hs.elim
theorem s_bastore (hd : decode (mB M) pc = .ok (.bastore, 1)) (hs : stW l G M C X n mc ms Q pc (.bastore) L S w cu su) : WP l G M n mc ms Q pc L S w cu su := by
  intro p e s m args below meth c Z ad0 w0 hF hc ad H locs ls hR hE hL hl hS ho h1 h2
  obtain ⟨hx, hb, hr, hml, hown, hts, hKK, hlk, hnm⟩ := id hF
  simp only [stW, stp] at hs
  split at hs
  · rename_i S0 x i t j S2
    obtain ⟨t1, t2, hj, hin, hv, hk⟩ := hs
    obtain ⟨a1, a2⟩ := arr_in (by omega) (by omega) hR hj
    have hA := KK_arr hKK (ak t) (ak_in t)
    rw [eTy_bool t1 t2] at hA
    have a1' := a1
    rw [eTy_bool t1 t2] at a1'
    refine W.zast hx hb a1' (hA _ _) (fun q => by cases q) (by rw [arrV_size]; exact hin) rfl rfl hd fun H1 e1 z oq => ?_
    refine hk p e s m args below meth c Z ad0 w0 hF hc ad H1 _ ls (Rel_sI hR (by omega) hj ?_ z oq) hE hL hl (clS_t (clS_t (clS_t hS))) (locs_app ho a2) h1 h2
    rw [(nar_narrow (ty := .boolean) hv).1] at e1
    rw [cOk, if_neg (by omega), e1, arrV_store, eTy_bool t1 t2]
    congr 2
    funext q
    exact vAt_sI_at (by rw [rp_arr (by omega), eTy, eTy_bool t1 t2]; rfl) q
  · exact hs.elim
theorem s_alen (hd : decode (mB M) pc = .ok (.arraylength, 1)) (hs : stW l G M C X n mc ms Q pc (.arraylength) L S w cu su) : WP l G M n mc ms Q pc L S w cu su := by
  intro p e s m args below meth c Z ad0 w0 hF hc ad H locs ls hR hE hL hl hS ho h1 h2
  obtain ⟨hx, hb, hr, hml, hown, hts, hKK, hlk, hnm⟩ := id hF
  simp only [stW, stp] at hs
  split at hs
  · rename_i S0 t j S2
    split at hs
    · rename_i ht
      subst ht
      obtain ⟨rfl, hk⟩ := hs
      obtain ⟨scr, x1, x2, x3, x4, x5⟩ := hKK.2.2.2.2.2.2.2.2.2.2.2
      have hbl : gX G 901 0 < n0 G := (Array.getElem?_eq_some_iff.mp x1).1
      have ha : ad 901 0 = gX G 901 0 := hR.2.2.2.1 901 0 (by omega)
      refine W.alen (n := Int32.ofNat (gL G)) hx hb (a := ad 901 0) (cell := scr) (by rw [ha, hR.2.2.2.2.2 _ hbl]; exact x1) x2 (by rw [x4] <;> rfl) rfl rfl hd ?_
      exact hk p e s m args below meth c Z ad0 w0 hF hc ad H locs ls hR hE hL hl (clS_c trivial (clS_t hS)) ho h1 h2
    · obtain ⟨t1, t2, hj, hk⟩ := hs
      obtain ⟨a1, a2⟩ := arr_in t1 t2 hR hj
      have hA := KK_arr hKK (ak t) (ak_in t)
      refine W.alen (n := Int32.ofNat (wN w t j)) hx hb a1 (hA _ _) (by rw [arrV_size] <;> rfl) rfl rfl hd ?_
      exact hk p e s m args below meth c Z ad0 w0 hF hc ad H locs ls hR hE hL hl (clS_c trivial (clS_t hS)) ho h1 h2
  · exact hs.elim
theorem s_ldc {idx : Nat} (hk0 : ∀ v, ceK C idx = some (.inl v) → Cond.constant (mOwn M) idx v ∈ goodT) (hd : decode (mB M) pc = .ok (.ldc idx, 2)) (hs : stW l G M C X n mc ms Q pc (.ldc idx) L S w cu su) : WP l G M n mc ms Q pc L S w cu su := by
  intro p e s m args below meth c Z ad0 w0 hF hc ad H locs ls hR hE hL hl hS ho h1 h2
  obtain ⟨hx, hb, hr, hml, hown, hts, hKK, hlk, hnm⟩ := id hF
  simp only [stW, stp] at hs
  split at hs
  · rename_i x hg
    exact lv_ldc hx hb hown (hts _ (hk0 _ hg)) hd (hs p e s m args below meth c Z ad0 w0 hF hc ad H locs ls hR hE hL hl (clS_c trivial hS) ho h1 h2)
  · exact hs.elim
theorem s_ldc2 {idx : Nat} (hk0 : ∀ v, ceK C idx = some (.inr (.inl v)) → Cond.constantLong (mOwn M) idx v ∈ goodT) (hd : decode (mB M) pc = .ok (.ldc2_w idx, 3)) (hs : stW l G M C X n mc ms Q pc (.ldc2_w idx) L S w cu su) : WP l G M n mc ms Q pc L S w cu su := by
  intro p e s m args below meth c Z ad0 w0 hF hc ad H locs ls hR hE hL hl hS ho h1 h2
  obtain ⟨hx, hb, hr, hml, hown, hts, hKK, hlk, hnm⟩ := id hF
  simp only [stW, stp] at hs
  split at hs
  · rename_i x hg
    exact lv_ldc2 hx hb hown (hts _ (hk0 _ hg)) hd (hs p e s m args below meth c Z ad0 w0 hF hc ad H locs ls hR hE hL hl (clS_c trivial hS) ho h1 h2)
  · exact hs.elim
theorem wd_recv {s : State} {ad : Nat → Nat → Nat} {H : Heap} {t j : Nat} (hKK : KK G s) (hR : Rel G ad w H) (h : t < 14) (hj : j < wC w t) : ∃ cell : Cell, H[ad t j]? = some cell ∧ cell.vm.isStatics = false ∧ s.vm.findClass (clsN t).1 = some cell.cls := by
  obtain ⟨hcell, -⟩ := hR.1 t j (by omega) hj
  rw [cOk, if_pos (by omega)] at hcell
  obtain ⟨r, hcr, cell, q1, q2, q3, q4⟩ := hcell
  exact ⟨cell, q1, by rw [q3]; rfl, by rw [q2]; exact (hKK.1.1 t _ (clsAt h)).2.1⟩
theorem s_cast {idx : Nat} (hk0 : ∀ ci, ceT C idx = some ci → Cond.classLink (mOwn M) idx (clsN ci).1 ∈ goodT) (hd : decode (mB M) pc = .ok (.checkcast idx, 3)) (hs : stW l G M C X n mc ms Q pc (.checkcast idx) L S w cu su) : WP l G M n mc ms Q pc L S w cu su := by
  intro p e s m args below meth c Z ad0 w0 hF hc ad H locs ls hR hE hL hl hS ho h1 h2
  obtain ⟨hx, hb, hr, hml, hown, hts, hKK, hlk, hnm⟩ := id hF
  simp only [stW, stp] at hs
  split at hs
  · rename_i ci hg
    split at hs
    · rename_i S0 t j S2
      obtain ⟨rfl, c14, hj, hk⟩ := hs
      exact va_castS hx hb hown (hts _ (hk0 _ hg)) (hKK.1.1 t _ (clsAt c14)).2 (wd_recv hKK hR c14 hj) hd (hk p e s m args below meth c Z ad0 w0 hF hc ad H locs ls hR hE hL hl hS ho h1 h2)
    · exact hs.elim
  · exact hs.elim
theorem s_ireturn (hd : decode (mB M) pc = .ok (.ireturn, 1)) (hs : stW l G M C X n mc ms Q pc (.ireturn) L S w cu su) : WP l G M n mc ms Q pc L S w cu su := by
  intro p e s m args below meth c Z ad0 w0 hF hc ad H locs ls hR hE hL hl hS ho h1 h2
  simp only [stW, stp] at hs
  split at hs
  · exact hc _ w ad H locs pc ls cu su hs.2 hR hE (fun a ha => by cases ha; trivial) ho h1 h2 (Or.inl ⟨_, rfl, hd, hs.1⟩)
  · exact hs.elim
theorem s_lreturn (hd : decode (mB M) pc = .ok (.lreturn, 1)) (hs : stW l G M C X n mc ms Q pc (.lreturn) L S w cu su) : WP l G M n mc ms Q pc L S w cu su := by
  intro p e s m args below meth c Z ad0 w0 hF hc ad H locs ls hR hE hL hl hS ho h1 h2
  simp only [stW, stp] at hs
  split at hs
  · exact hc _ w ad H locs pc ls cu su hs.2 hR hE (fun a ha => by cases ha; trivial) ho h1 h2 (Or.inr (Or.inl ⟨_, rfl, hd, hs.1⟩))
  · exact hs.elim
theorem s_areturn (hd : decode (mB M) pc = .ok (.areturn, 1)) (hs : stW l G M C X n mc ms Q pc (.areturn) L S w cu su) : WP l G M n mc ms Q pc L S w cu su := by
  intro p e s m args below meth c Z ad0 w0 hF hc ad H locs ls hR hE hL hl hS ho h1 h2
  simp only [stW, stp] at hs
  split at hs
  · obtain ⟨hr, hq⟩ := hs
    refine hc _ w ad H locs pc ls cu su hq hR hE (fun a ha => by cases ha; exact clS_h hS) ho h1 h2 (Or.inr (Or.inr (Or.inl ⟨_, rfl, hd, ?_⟩)))
    cases hm : mR M with
    | none => rw [hm] at hr; cases hr
    | some ty => rw [hm] at hr; exact ⟨ty, rfl, hr⟩
  · exact hs.elim
theorem s_vreturn (hd : decode (mB M) pc = .ok (.return_, 1)) (hs : stW l G M C X n mc ms Q pc (.return_) L S w cu su) : WP l G M n mc ms Q pc L S w cu su := by
  intro p e s m args below meth c Z ad0 w0 hF hc ad H locs ls hR hE hL hl hS ho h1 h2
  simp only [stW, stp] at hs
  split at hs
  · exact hc _ w ad H locs pc ls cu su hs.2 hR hE (fun a ha => by cases ha) ho h1 h2 (Or.inr (Or.inr (Or.inr ⟨rfl, hd, hs.1⟩)))
  · exact hs.elim
end S2
