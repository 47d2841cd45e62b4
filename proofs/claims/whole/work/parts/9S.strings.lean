/-! strings that stand outside the world -/
section S10
variable {l : Launch} {G : Gc} {M : MI} {C : CE} {n mc ms : Nat} {Q : Option AV → Wd → Prop} {pc : Nat} {L : List (Option AV)} {S : List AV} {w : Wd} {cu su : Nat} {tb : TB}
theorem out_eq {ad : Nat → Nat → Nat} {H : Heap} (hR : Rel G ad w H) : ∀ a : Nat, a < (gH G).size → ¬ gOut G a → H[a]? = (gH G)[a]? := fun a _ ha => hR.2.2.2.2.2 a (Nat.lt_of_not_le ha)
theorem wp_callS {idx i : Nat} {c : Cal} {as : List AV} (hE : envOk (mOwn M) C) (hcal : ceM C idx = some c) (ht : tbOk (mB M) tb = true) (hp : alk tb pc = some (.invokevirtual idx, 3)) (hi : i < 11) (hk0 : c.2.2 = 0) (hcls : (mY c.1).cls = "java/lang/String") (hlen : as.length = c.2.1) (hcat : catS S ≤ 8) {n' : Nat} (hn : n' < n) (hsem : Sem l G c.1 n' 0 0 (.inr (.inr (some (902, i))) :: as) w (fun r w' => WP l G M n mc ms Q (pc + 3) L (r.toList ++ S) w' (cu + 0) (su + 0))) : WP l G M n mc ms Q pc L (as.reverse ++ .inr (.inr (some (902, i))) :: S) w cu su := by
  intro p e s m args below meth c' Z ad0 w0 hF hc ad H locs ls hR hEx hL hl hS ho h1 h2
  obtain ⟨hx, hb, hr, hml, hown, hts, hKK, hlk, hnm⟩ := id hF
  obtain ⟨o1, o2, o3, o4, o5, o6, o7, o8, o9⟩ := hE.2.1 idx c hcal
  have ha : ad 902 i = gX G 902 i := hR.2.2.2.1 902 i (by omega)
  have hS2 : clS w S := fun v hv => hS v (List.mem_append_right _ (List.mem_cons_of_mem _ hv))
  have hrv : ∃ cell : Cell, H[ad 902 i]? = some cell ∧ cell.vm.isStatics = false ∧ s.vm.findClass (mY c.1).cls = some cell.cls := by
    obtain ⟨cell, z1, z2, z3, -⟩ := ((hKK.2.2.2.2.2.1.1 i hi).1).kept (out_eq hR)
    exact ⟨cell, by rw [ha]; exact z1, z2, by rw [hcls]; exact z3⟩
  have hpre : PreV s H (mY c.1).cls (ad 902 i) (SemPc G ad (.inr (.inr (some (902, i))) :: as) w) (as.map (renV ad)) := ⟨blind, hrv, fun U hU hW => ⟨rfl, by rw [hU]; exact hR, hKK.warm hW, fun a ha => by
    rcases List.mem_cons.mp ha with rfl | ha
    · exact Or.inl (show 900 ≤ 902 by omega)
    · exact hS a (List.mem_append_left _ (List.mem_reverse.mpr ha))⟩⟩
  have hroom : (rml n' 0 0).frames + 1 ≤ (rml n mc ms).frames ∧ 8 + (mL c.1 + 11) + (rml n' 0 0).locals ≤ (rml n mc ms).locals := by
    constructor
    · exact hn
    · show 8 + (mL c.1 + 11) + 40 * n' ≤ 40 * n
      omega
  refine call_back hF hc hR hEx hL hl hS2 ho (mc' := 0) (ms' := 0) (by omega) (by omega) (a := (Value.ref (ad 902 i) :: as.map (renV ad)).toArray) ?_
  refine va_runV (nL := mL M) (index := idx) (own := mOwn M) (Ts := goodT) ⟨hx, hb, hml, hown, hts⟩ (hsem ad) ⟨callB_of c.2.1 hts (good_in o1) rfl rfl rfl (hts _ o2) (hts _ (o5 (by omega))) o3 hroom, hts _ (o7 (Or.inl hk0)).1, hts _ (o7 (Or.inl hk0)).2⟩ hpre rfl (by rw [List.length_map]; exact hlen) hL.1 (by simp [renV, renR]) ?_ (tb_dec ht hp) ⟨h1, h2⟩
  exact lv_room (by rw [catS_eq]; exact hcat)
theorem wp_getV {idx i : Nat} (hlink : Cond.fieldLink (mOwn M) idx "java/lang/String" "value" "[B" ∈ goodT) (ht : tbOk (mB M) tb = true) (hp : alk tb pc = some (.getfield idx, 3)) (hi : i < 11) (hk : WP l G M n mc ms Q (pc + 3) L (.inr (.inr (some (903, i))) :: S) w cu su) : WP l G M n mc ms Q pc L (.inr (.inr (some (902, i))) :: S) w cu su := by
  intro p e s m args below meth c Z ad0 w0 hF hc ad H locs ls hR hE hL hl hS ho h1 h2
  obtain ⟨hx, hb, hr, hml, hown, hts, hKK, hlk, hnm⟩ := id hF
  have ha : ad 902 i = gX G 902 i := hR.2.2.2.1 902 i (by omega)
  have hv : ad 903 i = gX G 903 i := hR.2.2.2.1 903 i (by omega)
  obtain ⟨cf, k, fi, f, cell, z1, z2, z3, z4, z5, z6⟩ := ((hKK.2.2.2.2.2.1.1 i hi).2.2.1).kept (out_eq hR)
  refine W.getf hx hb hown (hts _ hlink) z1 z2 (a := ad 902 i) (by rw [ha]; exact z3) z4 (v := .ref (ad 903 i)) (by rw [hv]; exact z5) rfl rfl (tb_dec ht hp) ?_
  exact hk p e s m args below meth c Z ad0 w0 hF hc ad H locs ls hR hE hL hl (clS_c (Or.inl (show 900 ≤ 903 by omega)) (clS_t hS)) ho h1 h2
theorem wp_getCo {idx i : Nat} (hlink : Cond.fieldLink (mOwn M) idx "java/lang/String" "coder" "B" ∈ goodT) (ht : tbOk (mB M) tb = true) (hp : alk tb pc = some (.getfield idx, 3)) (hi : i < 11) (hk : WP l G M n mc ms Q (pc + 3) L (.inl 0 :: S) w cu su) : WP l G M n mc ms Q pc L (.inr (.inr (some (902, i))) :: S) w cu su := by
  intro p e s m args below meth c Z ad0 w0 hF hc ad H locs ls hR hE hL hl hS ho h1 h2
  obtain ⟨hx, hb, hr, hml, hown, hts, hKK, hlk, hnm⟩ := id hF
  have ha : ad 902 i = gX G 902 i := hR.2.2.2.1 902 i (by omega)
  obtain ⟨cf, k, fi, f, cell, z1, z2, z3, z4, z5, z6⟩ := ((hKK.2.2.2.2.2.1.1 i hi).2.1).kept (out_eq hR)
  refine W.getf hx hb hown (hts _ hlink) z1 z2 (a := ad 902 i) (by rw [ha]; exact z3) z4 (v := .int 0) z5 rfl rfl (tb_dec ht hp) ?_
  exact hk p e s m args below meth c Z ad0 w0 hF hc ad H locs ls hR hE hL hl (clS_c trivial (clS_t hS)) ho h1 h2
theorem wp_alenB {i : Nat} (ht : tbOk (mB M) tb = true) (hp : alk tb pc = some (.arraylength, 1)) (hi : i < 11) (hk : WP l G M n mc ms Q (pc + 1) L (.inl (nI (sLen.getD i 0)) :: S) w cu su) : WP l G M n mc ms Q pc L (.inr (.inr (some (903, i))) :: S) w cu su := by
  intro p e s m args below meth c Z ad0 w0 hF hc ad H locs ls hR hE hL hl hS ho h1 h2
  obtain ⟨hx, hb, hr, hml, hown, hts, hKK, hlk, hnm⟩ := id hF
  have hv : ad 903 i = gX G 903 i := hR.2.2.2.1 903 i (by omega)
  obtain ⟨cell, z1, z2, z3, z4, z5, z6, z7⟩ := ((hKK.2.2.2.2.2.1.1 i hi).2.2.2).kept (out_eq hR)
  refine W.alen (n := nI (sLen.getD i 0)) hx hb (a := ad 903 i) (cell := cell) (by rw [hv]; exact z1) z2 z5 rfl rfl (tb_dec ht hp) ?_
  exact hk p e s m args below meth c Z ad0 w0 hF hc ad H locs ls hR hE hL hl (clS_c trivial (clS_t hS)) ho h1 h2
theorem wp_bald {i j : Nat} (ht : tbOk (mB M) tb = true) (hp : alk tb pc = some (.baload, 1)) (hi : i < 11) (hj : j < sLen.getD i 0) (hj2 : j < 2 ^ 31) (hk : WP l G M n mc ms Q (pc + 1) L (.inl ((sByt.getD i []).getD j 0) :: S) w cu su) : WP l G M n mc ms Q pc L (.inl (nI j) :: .inr (.inr (some (903, i))) :: S) w cu su := by
  intro p e s m args below meth c Z ad0 w0 hF hc ad H locs ls hR hE hL hl hS ho h1 h2
  obtain ⟨hx, hb, hr, hml, hown, hts, hKK, hlk, hnm⟩ := id hF
  have hv : ad 903 i = gX G 903 i := hR.2.2.2.1 903 i (by omega)
  obtain ⟨cell, z1, z2, z3, z4, z5, z6, z7⟩ := ((hKK.2.2.2.2.2.1.1 i hi).2.2.2).kept (out_eq hR)
  have kj : (nI j).toNatClampNeg = j := nI_clamp hj2
  refine W.bald hx hb (a := ad 903 i) (cell := cell) (v := .int ((sByt.getD i []).getD j 0)) (by rw [hv]; exact z1) z2 z3 (fun q => by rw [kj] at q; rcases q with q | q; exact nI_pos hj2 q; omega) (by rw [kj]; exact z6 j hj) rfl rfl (tb_dec ht hp) ?_
  exact hk p e s m args below meth c Z ad0 w0 hF hc ad H locs ls hR hE hL hl (clS_c trivial (clS_t (clS_t hS))) ho h1 h2
theorem wp_i2c {x v : Int32} (ht : tbOk (mB M) tb = true) (hp : alk tb pc = some (.i2c, 1)) (hv : (x.toUInt32 % 65536).toInt32 = v) (hk : WP l G M n mc ms Q (pc + 1) L (.inl v :: S) w cu su) : WP l G M n mc ms Q pc L (.inl x :: S) w cu su := by
  intro p e s m args below meth c Z ad0 w0 hF hc ad H locs ls hR hE hL hl hS ho h1 h2
  obtain ⟨hx, hb, hr, hml, hown, hts, hKK, hlk, hnm⟩ := id hF
  refine lv_i2c hx hb (tb_dec ht hp) hv ?_
  exact hk p e s m args below meth c Z ad0 w0 hF hc ad H locs ls hR hE hL hl (clS_c trivial (clS_t hS)) ho h1 h2
end S10
