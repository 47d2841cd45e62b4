/-! makings: a new cell in the world -/
def adN (ad : Nat → Nat → Nat) (t k a : Nat) : Nat → Nat → Nat := fun t' k' => if t' = t ∧ k' = k then a else ad t' k'
theorem adN_at (ad : Nat → Nat → Nat) (t k a : Nat) : adN ad t k a t k = a := by simp [adN]
theorem adN_ne {ad : Nat → Nat → Nat} {t k a t' k' : Nat} (h : ¬ (t' = t ∧ k' = k)) : adN ad t k a t' k' = ad t' k' := if_neg h
theorem Rel_new {G : Gc} {ad : Nat → Nat → Nat} {w : Wd} {H H' : Heap} {t n : Nat} (hR : Rel G ad w H) (ht : t < 900) (hc : cOk G t H.size n (fun i => if rp t i = true then .null else .int 0) H') (hz : H'.size = H.size + 1) (ho : ∀ q, q < H.size → H'[q]? = H[q]?) : Rel G (adN ad t (wC w t) H.size) (nC w t n) H' ∧ Exd ad w (adN ad t (wC w t) H.size) (nC w t n) := by
  obtain ⟨r1, r2, r3, r4, r5, r6⟩ := hR
  have old : ∀ q : Nat × Nat, clq w q → adN ad t (wC w t) H.size q.1 q.2 = ad q.1 q.2 := fun q hq => adN_ne fun e => by
    rcases hq with h | h
    · omega
    · rw [e.1, e.2] at h; omega
  have hC : ∀ t', wC (nC w t n) t' = if t' = t then wC w t + 1 else wC w t' := fun t' => rfl
  have hlt : ∀ t' k', t' < 900 → k' < wC w t' → ad t' k' < H.size := fun t' k' h1 h2 => cOk_lt (r1 t' k' h1 h2).1
  have split' : ∀ t' k', k' < wC (nC w t n) t' → (t' = t ∧ k' = wC w t) ∨ (¬ (t' = t ∧ k' = wC w t) ∧ k' < wC w t') := fun t' k' h => by
    rw [hC] at h
    by_cases e : t' = t
    · subst e
      rw [if_pos rfl] at h
      by_cases e2 : k' = wC w t'
      · exact Or.inl ⟨rfl, e2⟩
      · exact Or.inr ⟨fun q => e2 q.2, by omega⟩
    · rw [if_neg e] at h
      exact Or.inr ⟨fun q => e q.1, h⟩
  refine ⟨⟨fun t' k' h9 hk => ?_, fun t1 k1 t2 k2 h1 h2 hk1 hk2 he => ?_, fun t' k' i q hk hq => ?_, fun t' k' h9 => ?_, by omega, fun q hq => by rw [ho q (by omega)]; exact r6 q hq⟩, ⟨fun t' k' hk => adN_ne fun e => by rw [e.1, e.2] at hk; omega, fun t' => by rw [hC]; split <;> (try omega); rename_i e; rw [e]; omega⟩⟩
  · rcases split' t' k' hk with ⟨e1, e2⟩ | ⟨e, hk'⟩
    · subst e1 e2
      rw [adN_at]
      refine ⟨?_, r5⟩
      have e3 : wN (nC w t' n) t' (wC w t') = n := by simp [wN_nC]
      have e4 : vAt (adN ad t' (wC w t') H.size) (nC w t' n) t' (wC w t') = fun i => if rp t' i = true then .null else .int 0 := by
        funext i
        unfold vAt
        rw [wR_nC, wI_nC]
        simp [renR]
      rw [e3, e4]
      exact hc
    · obtain ⟨c1, c2⟩ := r1 t' k' h9 hk'
      have e2 : wN (nC w t n) t' k' = wN w t' k' := by rw [wN_nC, if_neg e]
      have e3 : vAt (adN ad t (wC w t) H.size) (nC w t n) t' k' = vAt ad w t' k' := by
        funext i
        unfold vAt
        rw [wR_nC, wI_nC, if_neg e, if_neg e]
        split
        · cases hw : wR w t' k' i with
          | none => rfl
          | some q =>
            show Value.ref _ = Value.ref _
            rw [old q (r3 t' k' i q hk' hw)]
        · rfl
      rw [adN_ne e, e2, e3]
      exact ⟨cOk_kept c1 (ho _ (hlt t' k' h9 hk')), c2⟩
  · rcases split' t1 k1 hk1 with ⟨e1, e2⟩ | ⟨e, hk1'⟩ <;> rcases split' t2 k2 hk2 with ⟨f1, f2⟩ | ⟨f, hk2'⟩
    · exact ⟨e1.trans f1.symm, e2.trans f2.symm⟩
    · rw [e1, e2, adN_at, adN_ne f] at he
      have := hlt t2 k2 h2 hk2'
      omega
    · rw [f1, f2, adN_at, adN_ne e] at he
      have := hlt t1 k1 h1 hk1'
      omega
    · rw [adN_ne e, adN_ne f] at he
      exact r2 t1 k1 t2 k2 h1 h2 hk1' hk2' he
  · rcases split' t' k' hk with ⟨e1, e2⟩ | ⟨e, hk'⟩
    · rw [wR_nC, if_pos ⟨e1, e2⟩] at hq; cases hq
    · rw [wR_nC, if_neg e] at hq
      rcases r3 t' k' i q hk' hq with z | z
      · exact Or.inl z
      · refine Or.inr ?_
        rw [hC]
        split
        · rename_i e5; rw [e5] at z; omega
        · exact z
  · rw [adN_ne (fun e => by omega)]
    exact r4 t' k' h9
def okT : FieldType → Bool
  | .int => true
  | .boolean => true
  | .object _ => true
  | .array _ => true
  | _ => false
theorem cTy_ok {ci k : Nat} (h : ci < 14) (hk : k < (clsN ci).2.2) : okT (cTy ci k) = true := by
  match ci, h with
  | 0, _ => exact (show ∀ k, k < 10 → okT (cTy 0 k) = true by decide +kernel) k hk
  | 1, _ => exact (show ∀ k, k < 5 → okT (cTy 1 k) = true by decide +kernel) k hk
  | 2, _ => exact (show ∀ k, k < 3 → okT (cTy 2 k) = true by decide +kernel) k hk
  | 3, _ => exact (show ∀ k, k < 3 → okT (cTy 3 k) = true by decide +kernel) k hk
  | 4, _ => exact (show ∀ k, k < 1 → okT (cTy 4 k) = true by decide +kernel) k hk
  | 5, _ => exact (show ∀ k, k < 3 → okT (cTy 5 k) = true by decide +kernel) k hk
  | 6, _ => exact (show ∀ k, k < 15 → okT (cTy 6 k) = true by decide +kernel) k hk
  | 7, _ => exact (show ∀ k, k < 3 → okT (cTy 7 k) = true by decide +kernel) k hk
  | 8, _ => exact (show ∀ k, k < 4 → okT (cTy 8 k) = true by decide +kernel) k hk
  | 9, _ => exact (show ∀ k, k < 5 → okT (cTy 9 k) = true by decide +kernel) k hk
  | 10, _ => exact (show ∀ k, k < 11 → okT (cTy 10 k) = true by decide +kernel) k hk
  | 11, _ => exact (show ∀ k, k < 11 → okT (cTy 11 k) = true by decide +kernel) k hk
  | 12, _ => exact (show ∀ k, k < 9 → okT (cTy 12 k) = true by decide +kernel) k hk
  | 13, _ => exact (show ∀ k, k < 69 → okT (cTy 13 k) = true by decide +kernel) k hk
def finOk (M : MI) (ci k : Nat) : Prop := ((clsN ci).2.1 k).2.2.2 = false ∨ ((mY M).name = "<init>" ∧ ((clsN ci).2.1 k).1 = mOwn M)
section S5
variable {l : Launch} {G : Gc} {M : MI} {C : CE} {X : XE} {n mc ms : Nat} {Q : Option AV → Wd → Prop} {pc : Nat} {L : List (Option AV)} {S : List AV} {w : Wd} {cu su : Nat}
/-- behind a making the rest goes on in the grown world -/
theorem go_new {p : Program} {e : Env} {s : State} {m : MethodId} {args : Array Value} {below : List Frame} {meth : Method} {c : Code} {Z : State → Prop} {ad0 : Nat → Nat → Nat} {w0 : Wd} {t N pc' cu' su' : Nat} (hF : Fx G M p s m args meth c)
    (hc : ∀ r w' ad' H' locs' pc' ls' cu' su', Q r w' → Rel G ad' w' H' → Exd ad0 w0 ad' w' → (∀ a, r = some a → clV w' a) → locsOk G locs' → cu' ≤ mc → su' ≤ ms → retI M pc' r → W p l e (rml n mc ms) s m args below meth c H' locs' cu' su' Z (F0 m pc' ls' (r.toList.map (renV ad'))))
    {ad : Nat → Nat → Nat} {H H' : Heap} {locs : List Loc} {ls : Array Slot} (hR : Rel G ad w H) (hE : Exd ad0 w0 ad w) (hL : LsR ad (mL M) L ls) (hl : clL w L) (hS : clS w S) (ho : locsOk G locs) (h1 : cu' ≤ mc) (h2 : su' ≤ ms) (ht : t < 900) (hcc : cOk G t H.size N (fun i => if rp t i = true then .null else .int 0) H') (hz : H'.size = H.size + 1) (hoo : ∀ q, q < H.size → H'[q]? = H[q]?)
    (hk : WP l G M n mc ms Q pc' L (.inr (.inr (some (t, wC w t))) :: S) (nC w t N) cu' su') : W p l e (rml n mc ms) s m args below meth c H' locs cu' su' Z (F0 m pc' ls (.ref H.size :: S.map (renV ad))) := by
  obtain ⟨hR', hE'⟩ := Rel_new hR ht hcc hz hoo
  have hls : LsR (adN ad t (wC w t) H.size) (mL M) L ls := ⟨hL.1, hL.2.1, hL.2.2.1, fun i v hi => by rw [ren_eq hR hR' hE' (hl i v hi)]; exact hL.2.2.2 i v hi⟩
  have hSS : S.map (renV ad) = S.map (renV (adN ad t (wC w t) H.size)) := List.map_congr_left fun v hv => (ren_eq hR hR' hE' (hS v hv)).symm
  have e1 : (.ref H.size :: S.map (renV ad) : List Value) = (.inr (.inr (some (t, wC w t))) :: S).map (renV (adN ad t (wC w t) H.size)) := by
    rw [hSS]
    show _ = Value.ref (adN ad t (wC w t) H.size t (wC w t)) :: _
    rw [adN_at]
  rw [e1]
  refine hk p e s m args below meth c Z ad0 w0 hF hc _ H' locs ls hR' (Exd_trans hE hE') hls (fun i v hi => clV_mono hE'.2 (hl i v hi)) (clS_c ?_ (fun v hv => clV_mono hE'.2 (hS v hv))) ho h1 h2
  refine Or.inr ?_
  show wC w t < wC (nC w t N) t
  rw [wC_nC, if_pos rfl]
  omega
theorem s_new {idx ci : Nat} (hci : ceT C idx = some ci) (hk0 : ∀ ci, ceT C idx = some ci → Cond.classLink (mOwn M) idx (clsN ci).1 ∈ goodT) (hd : decode (mB M) pc = .ok (.new idx, 3)) (c14 : ci < 14) (h1c : cu + 1 ≤ mc) (h2c : su + (clsN ci).2.2 ≤ ms) (hk : WP l G M n mc ms Q (pc + 3) L (.inr (.inr (some (ci, wC w ci))) :: S) (nC w ci 0) (cu + 1) (su + (clsN ci).2.2)) : WP l G M n mc ms Q pc L S w cu su := by
  intro p e s m args below meth c Z ad0 w0 hF hc ad H locs ls hR hE hL hl hS ho h1 h2
  obtain ⟨hx, hb, hr, hml, hown, hts, hKK, hlk, hnm⟩ := id hF
  have hKn := hKK.1.1 ci _ (clsAt c14)
  refine W.newcK hx hb hown (hts _ (hk0 ci hci)) (hts _ (wi_in c14)) (hts _ (wz_in c14)) (g := F0 m pc ls (S.map (renV ad))) rfl hd h1c h2c hKn.2.1 rfl fun H1 kC hkC e1 z1 o1 => ?_
  refine go_new hF hc hR hE hL hl hS ho h1c h2c (by omega) ?_ z1 o1 hk
  rw [cOk, if_pos (by omega)]
  refine ⟨_, clsAt c14, (u_born (cTy ci) hts (clsIn c14) hKn hkC e1 (clsTy c14)).to fun k hk => ?_⟩
  rw [rp_lt c14]
  have hok := cTy_ok c14 hk
  cases hty : cTy ci k <;> rw [hty] at hok <;> first | rfl | (exact absurd hok (by decide))
theorem s_newI {t : Nat} {x : Int32} (hd : decode (mB M) pc = .ok (.newarray .int, 2)) (t1 : 20 ≤ t) (t2 : t < 200) (hx0 : ¬ x < 0) (hx1 : x.toNatClampNeg ≤ 1000) (h1c : cu + 1 ≤ mc) (h2c : su + x.toNatClampNeg ≤ ms) (hk : WP l G M n mc ms Q (pc + 2) L (.inr (.inr (some (t, wC w t))) :: S) (nC w t x.toNatClampNeg) (cu + 1) (su + x.toNatClampNeg)) : WP l G M n mc ms Q pc L (.inl x :: S) w cu su := by
  intro p e s m args below meth c Z ad0 w0 hF hc ad H locs ls hR hE hL hl hS ho h1 h2
  obtain ⟨hx, hb, hr, hml, hown, hts, hKK, hlk, hnm⟩ := id hF
  refine va_newaK (atype := .int) hx hb (hts _ wa_int) (g := F0 m pc ls (.int x :: S.map (renV ad))) rfl hd rfl hx0 rfl (by show _ * 4 ≤ _; omega) h1c h2c rfl fun H1 cA e1 z1 o1 hAr hNm => ?_
  refine go_new hF hc hR hE hL hl (clS_t hS) ho h1c h2c (by omega) ?_ z1 o1 hk
  rw [cOk, if_neg (by omega), eTy_int t2, e1]
  have : gA G 0 = cA := Option.some.inj ((hKK.1.2 0 _ rfl).2.symm.trans hNm)
  rw [this]
  congr 2
  funext i
  rw [rp_arr t1, eTy, eTy_int t2]
  rfl
theorem s_newB {t : Nat} {x : Int32} (hd : decode (mB M) pc = .ok (.newarray .boolean, 2)) (t1 : 200 ≤ t) (t2 : t < 300) (hx0 : ¬ x < 0) (hx1 : x.toNatClampNeg ≤ 1000) (h1c : cu + 1 ≤ mc) (h2c : su + x.toNatClampNeg ≤ ms) (hk : WP l G M n mc ms Q (pc + 2) L (.inr (.inr (some (t, wC w t))) :: S) (nC w t x.toNatClampNeg) (cu + 1) (su + x.toNatClampNeg)) : WP l G M n mc ms Q pc L (.inl x :: S) w cu su := by
  intro p e s m args below meth c Z ad0 w0 hF hc ad H locs ls hR hE hL hl hS ho h1 h2
  obtain ⟨hx, hb, hr, hml, hown, hts, hKK, hlk, hnm⟩ := id hF
  refine va_newaK (atype := .boolean) hx hb (hts _ wa_boolean) (g := F0 m pc ls (.int x :: S.map (renV ad))) rfl hd rfl hx0 rfl (by show _ * 1 ≤ _; omega) h1c h2c rfl fun H1 cA e1 z1 o1 hAr hNm => ?_
  refine go_new hF hc hR hE hL hl (clS_t hS) ho h1c h2c (by omega) ?_ z1 o1 hk
  rw [cOk, if_neg (by omega), eTy_bool t1 t2, e1]
  have : gA G 1 = cA := Option.some.inj ((hKK.1.2 1 _ rfl).2.symm.trans hNm)
  rw [this]
  congr 2
  funext i
  rw [rp_arr (by omega), eTy, eTy_bool t1 t2]
  rfl
/-- a field is set: an int or a reference, a final one in its constructor -/
theorem s_put {idx ci k j : Nat} {v : AV} {w' : Wd} (hf : ∀ ci k, ceF C idx = some (ci, k) → fldOk (mOwn M) idx ci k) (hce : ceF C idx = some (ci, k)) (hd : decode (mB M) pc = .ok (.putfield idx, 3)) (hj : j < wC w ci) (hfin : finOk M ci k)
    (hv : (∃ x, v = .inl x ∧ rp ci k = false ∧ nar (some (cTy ci k)) x ∧ w' = sI w ci j k x) ∨ (∃ q, v = .inr (.inr q) ∧ rp ci k = true ∧ w' = sR w ci j k q)) (hk : WP l G M n mc ms Q (pc + 3) L S w' cu su) : WP l G M n mc ms Q pc L (v :: .inr (.inr (some (ci, j))) :: S) w cu su := by
  intro p e s m args below meth c Z ad0 w0 hF hc ad H locs ls hR hE hL hl hS ho h1 h2
  obtain ⟨hx, hb, hr, hml, hown, hts, hKK, hlk, hnm⟩ := id hF
  obtain ⟨c14, ck, ref, hlink, hsame⟩ := hf _ _ hce
  obtain ⟨hcell, hge⟩ := hR.1 ci j (by omega) hj
  rw [cOk, if_pos (by omega)] at hcell
  obtain ⟨r, hcr, cell, q1, q2, q3, q4⟩ := hcell
  have hr0 : r = clsN ci := Option.some.inj (hcr.symm.trans (clsAt c14))
  subst hr0
  obtain ⟨hSl, hfc, kC, hkC, hkind⟩ := hKK.1.1 ci _ (clsAt c14)
  obtain ⟨cf, kf, fi, f, hi, hsl⟩ := hSl k ck
  have hi2 : s.fieldFound? ref ((clsN ci).2.1 k).2.1 ((clsN ci).2.1 k).2.2.1 = some (cf, kf, fi, f) := by
    rcases hsame with h | h
    · rw [h]; exact hi
    · exact u_same (hts _ h) _ hi
  have hst := (u_facts hfc hkC (u_lays hts (clsIn c14) ck) hi).1
  have hap := va_apart (own := mOwn M) hts (clsIn c14) (cTy ci) (clsTy c14) (clsNm c14) hKK.1 (clsAt c14)
  have hfit : narrow (cTy ci k) (renV ad v) = renV ad v ∧ fits (cTy ci k) (renV ad v) = true := by
    rcases hv with ⟨x, rfl, -, hnar, -⟩ | ⟨q, rfl, hrp, -⟩
    · exact nar_narrow hnar
    · rw [rp_lt c14] at hrp
      cases hty : cTy ci k <;> rw [hty] at hrp <;> simp [rTy] at hrp
      all_goals (cases q <;> exact ⟨rfl, rfl⟩)
  have hlays := u_lays hts (clsIn c14) ck
  have h6 := u_fits hfc hkC hkind hlays hi (clsTy c14 k ck) hfit.1 hfit.2
  have hcl : ∀ q, v = .inr (.inr q) → clV w v := fun q _ => clS_h hS
  have fin : ∀ (H' : Heap) (locs' : List Loc), locsOk G locs' → H'[ad ci j]? = some (cell.setSlot f.slot (renV ad v)) → H'.size = H.size → (∀ q, q ≠ ad ci j → H'[q]? = H[q]?) → W p l e (rml n mc ms) s m args below meth c H' locs' cu su Z (F0 m (pc + 3) ls (S.map (renV ad))) := by
    intro H' locs' hlo e1 e2 e3
    rw [hsl] at e1
    rcases hv with ⟨x, rfl, hrp, hnar, rfl⟩ | ⟨q, rfl, hrp, rfl⟩
    · refine hk p e s m args below meth c Z ad0 w0 hF hc ad H' _ ls (Rel_sI hR (by omega) hj ?_ e2 e3) hE hL hl (clS_t (clS_t hS)) hlo h1 h2
      rw [cOk, if_pos (by omega)]
      exact ⟨_, hcr, t_OB.to (V := updV (vAt ad w ci j) k (.int x)) ⟨_, e1, q2, q3, t_set q4 hap ck _⟩ (fun i _ => vAt_sI_at hrp i)⟩
    · refine hk p e s m args below meth c Z ad0 w0 hF hc ad H' _ ls (Rel_sR hR (by omega) hj (clS_h hS) ?_ e2 e3) hE hL hl (clS_t (clS_t hS)) hlo h1 h2
      rw [cOk, if_pos (by omega)]
      exact ⟨_, hcr, t_OB.to (V := updV (vAt ad w ci j) k (renR ad q)) ⟨_, e1, q2, q3, t_set q4 hap ck _⟩ (fun i _ => vAt_sR_at hrp i)⟩
  rcases hfin with hfin | ⟨hini, hdecl⟩
  · have hlay := hts _ (clsIn c14 _ (u_in_lay ck))
    unfold u_lay at hlay
    rw [if_neg (by rw [hfin]; decide)] at hlay
    have h7 := u_store hfc hkC hkind hlay hi (clsTy c14 k ck) hfit.1 hfit.2
    refine W.putK hx hb (f := f) ⟨hown, hts _ hlink, ⟨_, _, _, hi2⟩, hst⟩ (by rw [q2]; exact h7) q1 q3 (by rw [hsl]; exact k2_hasslot (q4 k ck)) rfl rfl hd fun H' e1 e2 e3 => ?_
    exact fin H' _ (locs_app ho hge) e1 e2 e3
  · by_cases hfin : ((clsN ci).2.1 k).2.2.2 = true
    · have hlay := hts _ (clsIn c14 _ (u_in_lay ck))
      unfold u_lay at hlay
      rw [if_pos hfin] at hlay
      have hcf : m.cls = cf := by
        obtain ⟨_, _, c', _, _, _, -, -, hf', -, -, -, hown2, -⟩ := Cond.laysFinal_spec hlay
        have e1 : c' = cf := by have := hi.symm.trans hf'; simp at this; exact this.1.symm
        rw [hdecl] at hown2
        rw [← e1]; exact Option.some.inj (hown.symm.trans hown2)
      refine W.putFinK hx hb hown (hts _ hlink) hi2 hst hcf (hnm.trans hini) (by rw [q2]; exact h6) q1 q3 (by rw [hsl]; exact k2_hasslot (q4 k ck)) rfl rfl hd fun H' e1 e2 e3 => ?_
      exact fin H' _ (locs_app ho hge) e1 e2 e3
    · have hlay := hts _ (clsIn c14 _ (u_in_lay ck))
      unfold u_lay at hlay
      rw [if_neg hfin] at hlay
      have h7 := u_store hfc hkC hkind hlay hi (clsTy c14 k ck) hfit.1 hfit.2
      refine W.putK hx hb (f := f) ⟨hown, hts _ hlink, ⟨_, _, _, hi2⟩, hst⟩ (by rw [q2]; exact h7) q1 q3 (by rw [hsl]; exact k2_hasslot (q4 k ck)) rfl rfl hd fun H' e1 e2 e3 => ?_
      exact fin H' _ (locs_app ho hge) e1 e2 e3
/-- Object's own constructor -/
theorem s_obj {idx : Nat} {q : Nat × Nat} (hlink : Cond.methodLink (mOwn M) idx Lib.objectInit ∈ goodT) (hd : decode (mB M) pc = .ok (.invokespecial idx, 3)) (hcat : catS S ≤ 8) (hn : 1 ≤ n) (hk : WP l G M n mc ms Q (pc + 3) L S w cu su) : WP l G M n mc ms Q pc L (.inr (.inr (some q)) :: S) w cu su := by
  intro p e s m args below meth c Z ad0 w0 hF hc ad H locs ls hR hE hL hl hS ho h1 h2
  obtain ⟨hx, hb, hr, hml, hown, hts, hKK, hlk, hnm⟩ := id hF
  refine W.objInit hx hb hown (hts _ hlink) (hts _ wq_inst) (hts _ wq_code) (g := F0 m pc ls (.ref (ad q.1 q.2) :: S.map (renV ad))) rfl (by show ls.size = _; rw [hL.1, hml]) rfl hd hn ?_ ?_
  · have := catS_eq ad S
    show 2 * 0 + ((S.map (renV ad)).map fun v => v.category).sum + 12 ≤ 40 * n
    omega
  · exact hk p e s m args below meth c Z ad0 w0 hF hc ad H locs ls hR hE hL hl (clS_t hS) ho h1 h2
end S5
