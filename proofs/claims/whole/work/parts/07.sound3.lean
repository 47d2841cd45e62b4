/-! calls; the step; a method's working out of its body -/
theorem ren_eq {G : Gc} {ad ad' : Nat → Nat → Nat} {w w' : Wd} {H H' : Heap} (hR : Rel G ad w H) (hR' : Rel G ad' w' H') (hE : Exd ad w ad' w') {v : AV} (h : clV w v) : renV ad' v = renV ad v := by
  rcases v with x | x | x
  · rfl
  · rfl
  · cases x with
    | none => rfl
    | some q =>
      show Value.ref (ad' q.1 q.2) = .ref (ad q.1 q.2)
      rcases h with h | h
      · rw [hR.2.2.2.1 _ _ h, hR'.2.2.2.1 _ _ h]
      · rw [hE.1 _ _ h]
theorem clV_mono {w w' : Wd} (hw : ∀ t, wC w t ≤ wC w' t) {v : AV} (h : clV w v) : clV w' v := by
  rcases v with x | x | x
  · trivial
  · trivial
  · cases x with
    | none => trivial
    | some q =>
      rcases h with h | h
      · exact Or.inl h
      · exact Or.inr (Nat.lt_of_lt_of_le h (hw _))
theorem Exd_trans {ad0 ad ad' : Nat → Nat → Nat} {w0 w w' : Wd} (h : Exd ad0 w0 ad w) (h' : Exd ad w ad' w') : Exd ad0 w0 ad' w' :=
  ⟨fun t k hk => (h'.1 t k (Nat.lt_of_lt_of_le hk (h.2 t))).trans (h.1 t k hk), fun t => Nat.le_trans (h.2 t) (h'.2 t)⟩
theorem spl_eq : ∀ (n : Nat) (acc S as S' : List AV), spl n acc S = some (as, S') → ∃ xs, S = xs ++ S' ∧ xs.length = n ∧ as = xs.reverse ++ acc
  | 0, acc, S, as, S', h => by
    simp only [spl, Option.some.injEq, Prod.mk.injEq] at h
    exact ⟨[], by simp [h.2], rfl, by simp [h.1]⟩
  | n + 1, acc, [], as, S', h => by simp [spl] at h
  | n + 1, acc, v :: S, as, S', h => by
    simp only [spl] at h
    obtain ⟨xs, h1, h2, h3⟩ := spl_eq n (v :: acc) S as S' h
    exact ⟨v :: xs, by rw [h1]; rfl, by simp [h2], by rw [h3]; simp⟩
theorem spl_S {n : Nat} {S as S' : List AV} (h : spl n [] S = some (as, S')) : S = as.reverse ++ S' ∧ as.length = n := by
  obtain ⟨xs, h1, h2, h3⟩ := spl_eq n [] S as S' h
  rw [List.append_nil] at h3
  subst h3
  exact ⟨by simp [h1], by simp [h2]⟩
theorem catS_eq (ad : Nat → Nat → Nat) (S : List AV) : ((S.map (renV ad)).map fun v => v.category).sum = catS S := by
  induction S with
  | nil => rfl
  | cons v S ih => simp only [List.map_cons, List.sum_cons, ih, cat_ren, catS]
/-- a callee's words -/
def calOk (own : String) (idx : Nat) (c : Cal) : Prop :=
  Cond.code (mY c.1) (mB c.1) (mL c.1) (mR c.1) ∈ goodT ∧ Cond.initialized (mY c.1).cls ∈ goodT ∧ ((mY c.1).cls ≠ "java/lang/invoke/MethodHandle" ∧ (mY c.1).cls ≠ "java/lang/invoke/VarHandle" ∧ (parseMethodDescriptor (mY c.1).desc).map (fun d => d.parameters.length) = some c.2.1) ∧ mL c.1 ≤ 20 ∧
  (c.2.2 < 3 → Cond.methodLink own idx (mY c.1) ∈ goodT) ∧ (3 ≤ c.2.2 → ∃ host, Cond.methodLinkNest own idx (mY c.1) host ∈ nestW) ∧
  ((c.2.2 = 0 ∨ c.2.2 = 3) → Cond.instanceMethod (mY c.1) ∈ goodT ∧ Cond.selects (mY c.1).cls (mY c.1) (mY c.1) ∈ goodT) ∧
  ((c.2.2 = 1 ∨ c.2.2 = 4) → Cond.static (mY c.1) ∈ goodT) ∧
  ((c.2.2 = 2 ∨ c.2.2 = 5) → Cond.instanceMethod (mY c.1) ∈ goodT ∧ (mY c.1).name = "<init>" ∧ mR c.1 = none)
def XOk (l : Launch) (G : Gc) (C : CE) (X : XE) : Prop := ∀ idx n' f c, X idx = some (n', f) → ceM C idx = some c → ∀ as w r w', f as w = some (r, w') → Sem l G c.1 n' 0 0 as w (fun r2 w2 => r2 = r ∧ w2 = w')
theorem good_in {M : MI} (h : Cond.code (mY M) (mB M) (mL M) (mR M) ∈ goodT) : GoodIn goodT (wsY M) := by
  intro w hw
  have hm : w ∈ goodT := by
    rcases List.mem_cons.mp hw with rfl | h1
    · exact h
    · exact h1
  exact ⟨hm, good_of_word (List.mem_filter.mp hm).2⟩
theorem blind {G : Gc} {ad : Nat → Nat → Nat} {as : List AV} {w : Wd} : FrameBlind (SemPc G ad as w) := fun a U g mk h => ⟨h.1, h.2.1, KK.same (s := U) rfl h.2.2.1, h.2.2.2⟩
section S3
variable {l : Launch} {G : Gc} {M : MI} {C : CE} {X : XE} {n mc ms : Nat} {Q : Option AV → Wd → Prop} {pc : Nat} {L : List (Option AV)} {S : List AV} {w : Wd} {cu su : Nat}
/-- a call, as it comes back -/
theorem call_back {p : Program} {e : Env} {s : State} {m : MethodId} {args : Array Value} {below : List Frame} {meth : Method} {c : Code} {Z : State → Prop} {ad0 : Nat → Nat → Nat} {w0 : Wd} (hF : Fx G M p s m args meth c)
    (hc : ∀ r w' ad' H' locs' pc' ls' cu' su', Q r w' → Rel G ad' w' H' → Exd ad0 w0 ad' w' → (∀ a, r = some a → clV w' a) → locsOk G locs' → cu' ≤ mc → su' ≤ ms → retI M pc' r → W p l e (rml n mc ms) s m args below meth c H' locs' cu' su' Z (F0 m pc' ls' (r.toList.map (renV ad'))))
    {ad : Nat → Nat → Nat} {H : Heap} {locs : List Loc} {ls : Array Slot} (hR : Rel G ad w H) (hE : Exd ad0 w0 ad w) (hL : LsR ad (mL M) L ls) (hl : clL w L) (hS : clS w S) (ho : locsOk G locs) {mc' ms' : Nat} (h1 : cu + mc' ≤ mc) (h2 : su + ms' ≤ ms) {st0 : List Value} {a : Array Value}
    (hr : va_Run p l e (rml n mc ms) s m args below meth c H locs cu su mc' ms' (F0 m pc ls st0) (S.map (renV ad)) (SemQc G ad w (fun r w' => WP l G M n mc ms Q (pc + 3) L (r.toList ++ S) w' (cu + mc') (su + ms')) a) (gOut G)) :
    W p l e (rml n mc ms) s m args below meth c H locs cu su Z (F0 m pc ls st0) := by
  intro T hT X
  obtain ⟨v, st₀, t, T', LL, g0, X', hLL, e1, e2, ⟨r, w', ad', hv, hR', hE', hcr, hk⟩, st⟩ := hr T hT X
  have hv' : v = r.map (renV ad') := by injection hv
  subst hv'
  rw [← e1] at hR'
  have hls : LsR ad' (mL M) L ls := ⟨hL.1, hL.2.1, hL.2.2.1, fun i v hi => by rw [ren_eq hR hR' hE' (hl i v hi)]; exact hL.2.2.2 i v hi⟩
  have hSS : S.map (renV ad) = S.map (renV ad') := List.map_congr_left fun v hv => (ren_eq hR hR' hE' (hS v hv)).symm
  have hcS : clS w' (r.toList ++ S) := fun v hv => by
    rcases List.mem_append.mp hv with h | h
    · exact hcr v (by simpa using h)
    · exact clV_mono hE'.2 (hS v h)
  obtain ⟨t2, a1, b1⟩ := hk p e s m args below meth c Z ad0 w0 hF hc ad' T'.heap (locs ++ LL) ls hR' (Exd_trans hE hE') hls (fun i v hi => clV_mono hE'.2 (hl i v hi)) hcS (fun q hq => by
    rcases List.mem_append.mp hq with h | h
    · exact ho q h
    · exact hLL q h) h1 h2 T' rfl X'
  refine ⟨t2, st t2 ?_, b1⟩
  have he : ((r.map (renV ad')).toList ++ S.map (renV ad)) = (r.toList ++ S).map (renV ad') := by
    rw [hSS]
    cases r <;> simp
  rw [he]
  exact a1
theorem cll_sem {c : Cal} {idx : Nat} {as : List AV} (hX : XOk l G C X) (hcal : ceM C idx = some c) (h1 : cu ≤ mc) (h2 : su ≤ ms) (h : cll l G n mc ms c (X idx) as S w cu su (WP l G M n mc ms Q) (WP l G M n mc ms Q) pc L) :
    catS S ≤ 8 ∧ ∃ n' mc' ms', n' < n ∧ cu + mc' ≤ mc ∧ su + ms' ≤ ms ∧ Sem l G c.1 n' mc' ms' as w (fun r w' => WP l G M n mc ms Q (pc + 3) L (r.toList ++ S) w' (cu + mc') (su + ms')) := by
  obtain ⟨h3, h4⟩ := h
  refine ⟨h3, ?_⟩
  split at h4
  · rename_i n' f hx
    obtain ⟨hn, h5⟩ := h4
    split at h5
    · rename_i r w' hf
      exact ⟨n', 0, 0, hn, h1, h2, (hX idx n' f c hx hcal as w r w' hf).mono fun r2 w2 hq => by rw [hq.1, hq.2]; exact h5⟩
    · exact h5.elim
  · exact h4
theorem s_invokestatic {idx : Nat} (hX : XOk l G C X) (hm : ∀ c, ceM C idx = some c → calOk (mOwn M) idx c) (hd : decode (mB M) pc = .ok (.invokestatic idx, 3)) (hs : stW l G M C X n mc ms Q pc (.invokestatic idx) L S w cu su) : WP l G M n mc ms Q pc L S w cu su := by
  intro p e s m args below meth c Z ad0 w0 hF hc ad H locs ls hR hE hL hl hS ho h1 h2
  obtain ⟨hx, hb, hr, hml, hown, hts, hKK, hlk, hnm⟩ := id hF
  simp only [stW, stp] at hs
  split at hs
  · rename_i cal hcal
    split at hs
    · rename_i as S2 hsp
      obtain ⟨hk, hcl⟩ := hs
      obtain ⟨hSe, hlen⟩ := spl_S hsp
      obtain ⟨o1, o2, o3, o4, o5, o6, o7, o8, o9⟩ := hm _ hcal
      obtain ⟨h8, n', mc', ms', hn, hc1, hc2, hsem⟩ := cll_sem (M := M) (L := L) hX hcal h1 h2 hcl
      subst hSe
      have hS2 : clS w S2 := fun v hv => hS v (List.mem_append_right _ hv)
      have hpre : PreS s H (SemPc G ad as w) (as.map (renV ad)) := ⟨blind, fun U hU hW => ⟨rfl, by rw [hU]; exact hR, hKK.warm hW, fun a ha => hS a (List.mem_append_left _ (List.mem_reverse.mpr ha))⟩⟩
      have hroom : (rml n' mc' ms').frames + 1 ≤ (rml n mc ms).frames ∧ 8 + (mL cal.1 + 11) + (rml n' mc' ms').locals ≤ (rml n mc ms).locals := by
        constructor
        · exact hn
        · show 8 + (mL cal.1 + 11) + 40 * n' ≤ 40 * n
          omega
      refine call_back hF hc hR hE hL hl hS2 ho hc1 hc2 (a := (as.map (renV ad)).toArray) ?_
      rcases hk with hk | hk
      · refine va_runS (nL := mL M) (index := idx) (own := mOwn M) (Ts := goodT) ⟨hx, hb, hml, hown, hts⟩ (hsem ad) ⟨callB_of cal.2.1 hts (good_in o1) rfl rfl rfl (hts _ o2) (hts _ (o5 (by omega))) o3 hroom, hts _ (o8 (Or.inl hk))⟩ hpre rfl (by rw [List.length_map]; exact hlen) hL.1 (by simp) ?_ hd ⟨hc1, hc2⟩
        exact lv_room (by rw [catS_eq]; exact h8)
      · obtain ⟨host, hh⟩ := o6 (by omega)
        refine va_runSN (nL := mL M) (index := idx) (own := mOwn M) (Ts := goodT) ⟨hx, hb, hml, hown, hts⟩ (hsem ad) ⟨va_cnB cal.2.1 hts (good_in o1) rfl rfl rfl (hKK.2.1 _ hh) (hts _ o2) o3 hroom, hts _ (o8 (Or.inr hk)), trivial⟩ hpre rfl (by rw [List.length_map]; exact hlen) hL.1 (by simp) ?_ hd ⟨hc1, hc2⟩
        exact lv_room (by rw [catS_eq]; exact h8)
    · exact hs.elim
  · exact hs.elim
theorem s_invokevirtual {idx : Nat} (hX : XOk l G C X) (hm : ∀ c, ceM C idx = some c → calOk (mOwn M) idx c) (hd : decode (mB M) pc = .ok (.invokevirtual idx, 3)) (hs : stW l G M C X n mc ms Q pc (.invokevirtual idx) L S w cu su) : WP l G M n mc ms Q pc L S w cu su := by
  intro p e s m args below meth c Z ad0 w0 hF hc ad H locs ls hR hE hL hl hS ho h1 h2
  obtain ⟨hx, hb, hr, hml, hown, hts, hKK, hlk, hnm⟩ := id hF
  simp only [stW, stp] at hs
  split at hs
  · rename_i cal hcal
    split at hs
    · rename_i as t j S2 hsp
      obtain ⟨hk, t14, hcls, hj, hcl⟩ := hs
      obtain ⟨hSe, hlen⟩ := spl_S hsp
      obtain ⟨o1, o2, o3, o4, o5, o6, o7, o8, o9⟩ := hm _ hcal
      obtain ⟨h8, n', mc', ms', hn, hc1, hc2, hsem⟩ := cll_sem (M := M) (L := L) hX hcal h1 h2 hcl
      subst hSe
      have hS2 : clS w S2 := fun v hv => hS v (List.mem_append_right _ (List.mem_cons_of_mem _ hv))
      have hrv := wd_recv hKK hR t14 hj
      rw [hcls] at hrv
      have hpre : PreV s H (mY cal.1).cls (ad t j) (SemPc G ad (.inr (.inr (some (t, j))) :: as) w) (as.map (renV ad)) := ⟨blind, hrv, fun U hU hW => ⟨rfl, by rw [hU]; exact hR, hKK.warm hW, fun a ha => by
        rcases List.mem_cons.mp ha with rfl | ha
        · exact Or.inr hj
        · exact hS a (List.mem_append_left _ (List.mem_reverse.mpr ha))⟩⟩
      have hroom : (rml n' mc' ms').frames + 1 ≤ (rml n mc ms).frames ∧ 8 + (mL cal.1 + 11) + (rml n' mc' ms').locals ≤ (rml n mc ms).locals := by
        constructor
        · exact hn
        · show 8 + (mL cal.1 + 11) + 40 * n' ≤ 40 * n
          omega
      refine call_back hF hc hR hE hL hl hS2 ho hc1 hc2 (a := (Value.ref (ad t j) :: as.map (renV ad)).toArray) ?_
      rcases hk with hk | hk
      · refine va_runV (nL := mL M) (index := idx) (own := mOwn M) (Ts := goodT) ⟨hx, hb, hml, hown, hts⟩ (hsem ad) ⟨callB_of cal.2.1 hts (good_in o1) rfl rfl rfl (hts _ o2) (hts _ (o5 (by omega))) o3 hroom, hts _ (o7 (Or.inl hk)).1, hts _ (o7 (Or.inl hk)).2⟩ hpre rfl (by rw [List.length_map]; exact hlen) hL.1 (by simp [renV, renR]) ?_ hd ⟨hc1, hc2⟩
        exact lv_room (by rw [catS_eq]; exact h8)
      · obtain ⟨host, hh⟩ := o6 (by omega)
        refine va_runVN (nL := mL M) (index := idx) (own := mOwn M) (Ts := goodT) ⟨hx, hb, hml, hown, hts⟩ (hsem ad) ⟨va_cnB cal.2.1 hts (good_in o1) rfl rfl rfl (hKK.2.1 _ hh) (hts _ o2) o3 hroom, hts _ (o7 (Or.inr hk)).1, hts _ (o7 (Or.inr hk)).2⟩ hpre rfl (by rw [List.length_map]; exact hlen) hL.1 (by simp [renV, renR]) ?_ hd ⟨hc1, hc2⟩
        exact lv_room (by rw [catS_eq]; exact h8)
    · exact hs.elim
  · exact hs.elim
theorem s_invokespecial {idx : Nat} (hX : XOk l G C X) (hm : ∀ c, ceM C idx = some c → calOk (mOwn M) idx c) (hd : decode (mB M) pc = .ok (.invokespecial idx, 3)) (hs : stW l G M C X n mc ms Q pc (.invokespecial idx) L S w cu su) : WP l G M n mc ms Q pc L S w cu su := by
  intro p e s m args below meth c Z ad0 w0 hF hc ad H locs ls hR hE hL hl hS ho h1 h2
  obtain ⟨hx, hb, hr, hml, hown, hts, hKK, hlk, hnm⟩ := id hF
  simp only [stW, stp] at hs
  split at hs
  · rename_i cal hcal
    split at hs
    · rename_i as t j S2 hsp
      obtain ⟨hk, t14, hcl⟩ := hs
      obtain ⟨hSe, hlen⟩ := spl_S hsp
      obtain ⟨o1, o2, o3, o4, o5, o6, o7, o8, o9⟩ := hm _ hcal
      obtain ⟨h8, n', mc', ms', hn, hc1, hc2, hsem⟩ := cll_sem (M := M) (L := L) hX hcal h1 h2 hcl
      subst hSe
      have hS2 : clS w S2 := fun v hv => hS v (List.mem_append_right _ (List.mem_cons_of_mem _ hv))
      have hpre : PreS s H (SemPc G ad (.inr (.inr (some (t, j))) :: as) w) (.ref (ad t j) :: as.map (renV ad)) := ⟨blind, fun U hU hW => ⟨rfl, by rw [hU]; exact hR, hKK.warm hW, fun a ha => by
        rcases List.mem_cons.mp ha with rfl | ha
        · exact hS _ (List.mem_append_right _ List.mem_cons_self)
        · exact hS a (List.mem_append_left _ (List.mem_reverse.mpr ha))⟩⟩
      have hroom : (rml n' mc' ms').frames + 1 ≤ (rml n mc ms).frames ∧ 8 + (mL cal.1 + 11) + (rml n' mc' ms').locals ≤ (rml n mc ms).locals := by
        constructor
        · exact hn
        · show 8 + (mL cal.1 + 11) + 40 * n' ≤ 40 * n
          omega
      obtain ⟨oi, on, or⟩ := o9 hk
      refine call_back hF hc hR hE hL hl hS2 ho hc1 hc2 (a := (Value.ref (ad t j) :: as.map (renV ad)).toArray) ?_
      rcases hk with hk | hk
      · refine va_runI (nL := mL M) (index := idx) (own := mOwn M) (Ts := goodT) ⟨hx, hb, hml, hown, hts⟩ (hsem ad) ⟨callB_of cal.2.1 hts (good_in o1) (by rw [← or]; rfl) rfl rfl (hts _ o2) (hts _ (o5 (by omega))) o3 hroom, on, hts _ oi⟩ hpre rfl (by rw [List.length_map]; exact hlen) hL.1 (by simp [renV, renR]) ?_ hd ⟨hc1, hc2⟩
        exact lv_room (by rw [catS_eq]; exact h8)
      · obtain ⟨host, hh⟩ := o6 (by omega)
        refine va_runIN (nL := mL M) (index := idx) (own := mOwn M) (Ts := goodT) ⟨hx, hb, hml, hown, hts⟩ (hsem ad) ⟨va_cnB cal.2.1 hts (good_in o1) (by rw [← or]; rfl) rfl rfl (hKK.2.1 _ hh) (hts _ o2) o3 hroom, on, hts _ oi⟩ hpre rfl (by rw [List.length_map]; exact hlen) hL.1 (by simp [renV, renR]) ?_ hd ⟨hc1, hc2⟩
        exact lv_room (by rw [catS_eq]; exact h8)
    · exact hs.elim
  · exact hs.elim
end S3
