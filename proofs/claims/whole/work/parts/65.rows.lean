/-! rows beside stp: Math, reference arrays, what stands outside -/
theorem tb_dec {M : MI} {tb : TB} {pc len : Nat} {ins : Instr} (ht : tbOk (mB M) tb = true) (hp : alk tb pc = some (ins, len)) : decode (mB M) pc = .ok (ins, len) := by
  have := List.all_eq_true.mp ht _ (alk_mem hp)
  simp only [Bool.and_eq_true, decide_eq_true_eq] at this
  exact this.1
section S8
variable {l : Launch} {G : Gc} {M : MI} {n mc ms : Nat} {Q : Option AV → Wd → Prop} {pc : Nat} {L : List (Option AV)} {S : List AV} {w : Wd} {cu su : Nat} {tb : TB}
theorem wp_max {idx : Nat} {x y : Int32} (ht : tbOk (mB M) tb = true) (hp : alk tb pc = some (.invokestatic idx, 3)) (hlink : Cond.methodLink (mOwn M) idx Lib.Math.max.name ∈ goodT) (hcat : catS S ≤ 8) (hn : 1 ≤ n) (hk : WP l G M n mc ms Q (pc + 3) L (.inl (if x < y then y else x) :: S) w cu su) : WP l G M n mc ms Q pc L (.inl y :: .inl x :: S) w cu su := by
  intro p e s m args below meth c Z ad0 w0 hF hc ad H locs ls hR hE hL hl hS ho h1 h2
  obtain ⟨hx, hb, hr, hml, hown, hts, hKK, hlk, hnm⟩ := id hF
  refine va_mmax hx hb (by rw [hml, hL.1]) hown (hts _ hlink) (hts _ wm_smax) (hts _ wm_ini) (hts _ wm_cmax) hn ?_ h1 h2 (tb_dec ht hp) ?_
  · have := catS_eq ad S
    show _ + 13 ≤ 40 * n
    omega
  · exact hk p e s m args below meth c Z ad0 w0 hF hc ad H locs ls hR hE hL hl (clS_c trivial (clS_t (clS_t hS))) ho h1 h2
theorem wp_min {idx : Nat} {x y : Int32} (ht : tbOk (mB M) tb = true) (hp : alk tb pc = some (.invokestatic idx, 3)) (hlink : Cond.methodLink (mOwn M) idx Lib.Math.min.name ∈ goodT) (hcat : catS S ≤ 8) (hn : 1 ≤ n) (hk : WP l G M n mc ms Q (pc + 3) L (.inl (if y < x then y else x) :: S) w cu su) : WP l G M n mc ms Q pc L (.inl y :: .inl x :: S) w cu su := by
  intro p e s m args below meth c Z ad0 w0 hF hc ad H locs ls hR hE hL hl hS ho h1 h2
  obtain ⟨hx, hb, hr, hml, hown, hts, hKK, hlk, hnm⟩ := id hF
  refine va_mmin hx hb (by rw [hml, hL.1]) hown (hts _ hlink) (hts _ wm_smin) (hts _ wm_ini) (hts _ wm_cmin) hn ?_ h1 h2 (tb_dec ht hp) ?_
  · have := catS_eq ad S
    show _ + 13 ≤ 40 * n
    omega
  · exact hk p e s m args below meth c Z ad0 w0 hF hc ad H locs ls hR hE hL hl (clS_c trivial (clS_t (clS_t hS))) ho h1 h2
theorem wp_aast {t j t' j' : Nat} {i : Int32} (ht : tbOk (mB M) tb = true) (hp : alk tb pc = some (.aastore, 1)) (htt : (t = 300 ∧ Cond.castable (clsN t').1 "java/lang/Object" ∈ nestW) ∨ (t = 301 ∧ t' = 8)) (h14 : t' < 14) (hj : j < wC w t) (hj' : j' < wC w t') (hin : vp_in i (wN w t j)) (hk : WP l G M n mc ms Q (pc + 1) L S (sR w t j i.toNatClampNeg (some (t', j'))) cu su) : WP l G M n mc ms Q pc L (.inr (.inr (some (t', j'))) :: .inl i :: .inr (.inr (some (t, j))) :: S) w cu su := by
  intro p e s m args below meth c Z ad0 w0 hF hc ad H locs ls hR hE hL hl hS ho h1 h2
  obtain ⟨hx, hb, hr, hml, hown, hts, hKK, hlk, hnm⟩ := id hF
  obtain ⟨a1, a2⟩ := arr_in (show 20 ≤ t by omega) (show t < 900 by omega) hR hj
  obtain ⟨cv, v1, v2, v3⟩ := wd_recv hKK hR h14 hj'
  obtain ⟨kv, hkv, -⟩ := Vm.findClass_spec v3
  have hlt : i.toNatClampNeg < wN w t j := Nat.not_le.mp fun q => hin (Or.inr q)
  have h0 : ¬ i < 0 := fun q => hin (Or.inl q)
  have key : ∃ kA comp kcomp, s.vm.classes[gA G (ak t)]? = some kA ∧ kA.kind = .array comp (eTy t) ∧ (eTy t).isReference = true ∧ s.vm.classes[comp]? = some kcomp ∧ s.vm.assignable cv.cls comp = true := by
    rcases htt with ⟨rfl, hca⟩ | ⟨rfl, rfl⟩
    · obtain ⟨kA, comp, k1, k2, k3, -⟩ := (hKK.1.2 2 _ rfl).2
      obtain ⟨kE, hkE, -⟩ := Vm.findClass_spec k3
      obtain ⟨c0, t1, f1, f2, f3⟩ := Cond.castable_spec (va_Nw.use (A := args) rfl (hKK.2.1 _ hca))
      cases v3.symm.trans f1
      cases k3.symm.trans f2
      exact ⟨kA, _, kE, k1, k2, rfl, hkE, f3⟩
    · obtain ⟨kA, comp, k1, k2, k3, -⟩ := (hKK.1.2 3 _ rfl).2
      obtain ⟨kE, hkE, -⟩ := Vm.findClass_spec k3
      have : comp = cv.cls := Option.some.inj (k3.symm.trans v3)
      subst this
      exact ⟨kA, _, kE, k1, k2, rfl, hkE, va_asg _ _⟩
  obtain ⟨kA, comp, kcomp, g1, g2, g3, g4, g5⟩ := key
  refine W.aast hx hb a1 (fun q h => by cases h) (fun h => by cases h) g1 g2 g3 g4 ⟨h0, by rw [arrV_size]; exact hlt⟩ v1 (fun q h => by rw [h] at v2; cases v2) hkv g5 rfl rfl (tb_dec ht hp) fun H1 e z oq => ?_
  refine hk p _ s m args below meth c Z ad0 w0 hF hc ad H1 _ ls (Rel_sR hR (by omega) hj (clS_h hS) ?_ z oq) hE hL hl (clS_t (clS_t (clS_t hS))) (locs_app ho a2) h1 h2
  rw [cOk, if_neg (by omega), e, arrV_store]
  congr 2
  funext q
  have hrp : rp t i.toNatClampNeg = true := by rw [rp_arr (show 20 ≤ t by omega)]; exact ref_arr (show 300 ≤ t by omega)
  exact vAt_sR_at (ad := ad) (w := w) (t := t) (k := j) (v := some (t', j')) hrp q
theorem wp_anew {idx t : Nat} {x : Int32} {Cn : String} (ht : tbOk (mB M) tb = true) (hp : alk tb pc = some (.anewarray idx, 3)) (htt : (t = 300 ∧ Cn = "java/lang/Object") ∨ (t = 301 ∧ Cn = "StockYard$Way")) (hlink : Cond.classLink (mOwn M) idx Cn ∈ goodT) (hx0 : ¬ x < 0) (hx1 : x.toNatClampNeg ≤ 1000) (h1c : cu + 1 ≤ mc) (h2c : su + x.toNatClampNeg ≤ ms) (hk : WP l G M n mc ms Q (pc + 3) L (.inr (.inr (some (t, wC w t))) :: S) (nC w t x.toNatClampNeg) (cu + 1) (su + x.toNatClampNeg)) : WP l G M n mc ms Q pc L (.inl x :: S) w cu su := by
  intro p e s m args below meth c Z ad0 w0 hF hc ad H locs ls hR hE hL hl hS ho h1 h2
  obtain ⟨hx, hb, hr, hml, hown, hts, hKK, hlk, hnm⟩ := id hF
  have hao : va_AO Cn s := by
    rcases htt with ⟨-, rfl⟩ | ⟨-, rfl⟩
    · exact hKK.2.2.2.2.2.2.2.2.2.1
    · exact hKK.2.2.2.2.2.2.2.2.2.2.1.1
  refine W.anew hx hb hown (hts _ hlink) (va_AO.use hao) (g := F0 m pc ls (.int x :: S.map (renV ad))) rfl (tb_dec ht hp) rfl hx0 (by omega) h1c h2c fun cA kA comp f1 f2 f3 f4 => ?_
  refine go_new hF hc hR hE hL hl (clS_t hS) ho h1c h2c (by omega) ?_ (by simp) (fun q hq => by rw [Array.getElem?_push, if_neg (Nat.ne_of_lt hq)]) hk
  rw [cOk, if_neg (by omega), Array.getElem?_push_size, arrV_new]
  have hcl : gA G (ak t) = cA := by
    rcases htt with ⟨rfl, rfl⟩ | ⟨rfl, rfl⟩
    · obtain ⟨kA', comp', k1, k2, k3, k4⟩ := (hKK.1.2 2 _ rfl).2
      exact Option.some.inj (k4.symm.trans f1)
    · obtain ⟨kA', comp', k1, k2, k3, k4⟩ := (hKK.1.2 3 _ rfl).2
      exact Option.some.inj (k4.symm.trans f1)
  rw [hcl]
  congr 2
  funext i
  rw [rp_arr (show 20 ≤ t by omega), ref_arr (show 300 ≤ t by omega)]
  rfl
theorem wp_gets {idx : Nat} {Cn nm d : String} {v : AV} (ht : tbOk (mB M) tb = true) (hp : alk tb pc = some (.getstatic idx, 3)) (hlink : Cond.fieldLink (mOwn M) idx Cn nm d ∈ goodT) (hZ : ∀ s : State, KK G s → va_Z Cn nm d (renV (gX G) v) (gOut G) s (gH G)) (hv : (∃ x, v = .inl x) ∨ ∃ q, 900 ≤ q.1 ∧ v = .inr (.inr (some q))) (hk : WP l G M n mc ms Q (pc + 3) L (v :: S) w cu su) : WP l G M n mc ms Q pc L S w cu su := by
  intro p e s m args below meth c Z ad0 w0 hF hc ad H locs ls hR hE hL hl hS ho h1 h2
  obtain ⟨hx, hb, hr, hml, hown, hts, hKK, hlk, hnm⟩ := id hF
  obtain ⟨cf, kf, fi, f, a, cell, z1, z2, z3, z4, z5, z6, z7, z8⟩ := hZ s hKK
  have hlt : a < n0 G := Nat.lt_of_not_le z8
  have ev : renV (gX G) v = renV ad v := by
    rcases hv with ⟨x, rfl⟩ | ⟨q, hq, rfl⟩
    · rfl
    · show Value.ref _ = Value.ref _
      rw [hR.2.2.2.1 _ _ hq]
  rw [ev] at z7
  refine W.gets hx hb hown (hts _ hlink) z1 z2 z3 z4 (by rw [hR.2.2.2.2.2 a hlt]; exact z5) (fun q => by rw [q] at z6; cases z6) z7 rfl (tb_dec ht hp) ?_
  refine hk p e s m args below meth c Z ad0 w0 hF hc ad H locs ls hR hE hL hl (clS_c ?_ hS) ho h1 h2
  rcases hv with ⟨x, rfl⟩ | ⟨q, hq, rfl⟩
  · trivial
  · exact Or.inl hq
theorem wp_getsR {idx : Nat} {Cn nm d : String} {o : Option (Nat × Nat)} (ht : tbOk (mB M) tb = true) (hp : alk tb pc = some (.getstatic idx, 3)) (hlink : Cond.fieldLink (mOwn M) idx Cn nm d ∈ goodT) (hZ : ∀ s : State, KK G s → va_Z Cn nm d (renR (gX G) o) (gOut G) s (gH G)) (hv : ∀ q, o = some q → 900 ≤ q.1) (hk : WP l G M n mc ms Q (pc + 3) L (.inr (.inr o) :: S) w cu su) : WP l G M n mc ms Q pc L S w cu su := by
  intro p e s m args below meth c Z ad0 w0 hF hc ad H locs ls hR hE hL hl hS ho h1 h2
  obtain ⟨hx, hb, hr, hml, hown, hts, hKK, hlk, hnm⟩ := id hF
  obtain ⟨cf, kf, fi, f, a, cell, z1, z2, z3, z4, z5, z6, z7, z8⟩ := hZ s hKK
  have hlt : a < n0 G := Nat.lt_of_not_le z8
  have ev : renR (gX G) o = renV ad (.inr (.inr o)) := by
    cases o with
    | none => rfl
    | some q =>
      show Value.ref _ = Value.ref _
      rw [hR.2.2.2.1 _ _ (hv q rfl)]
  rw [ev] at z7
  refine W.gets hx hb hown (hts _ hlink) z1 z2 z3 z4 (by rw [hR.2.2.2.2.2 a hlt]; exact z5) (fun q => by rw [q] at z6; cases z6) z7 rfl (tb_dec ht hp) ?_
  refine hk p e s m args below meth c Z ad0 w0 hF hc ad H locs ls hR hE hL hl (clS_c ?_ hS) ho h1 h2
  cases o with
  | none => trivial
  | some q => exact Or.inl (hv q rfl)
theorem wp_alen9 (ht : tbOk (mB M) tb = true) (hp : alk tb pc = some (.arraylength, 1)) (hk : WP l G M n mc ms Q (pc + 1) L (.inl 0 :: S) w cu su) : WP l G M n mc ms Q pc L (.inr (.inr (some (900, 0))) :: S) w cu su := by
  intro p e s m args below meth c Z ad0 w0 hF hc ad H locs ls hR hE hL hl hS ho h1 h2
  obtain ⟨hx, hb, hr, hml, hown, hts, hKK, hlk, hnm⟩ := id hF
  obtain ⟨cell, z1, z2, z3, z4, z5, z6, z7⟩ := hKK.2.2.2.1
  have hlt : gX G 900 0 < n0 G := Nat.lt_of_not_le z7
  have ha : ad 900 0 = gX G 900 0 := hR.2.2.2.1 900 0 (by omega)
  refine W.alen (n := 0) hx hb (a := ad 900 0) (cell := cell) (by rw [ha, hR.2.2.2.2.2 _ hlt]; exact z1) z2 z5 rfl rfl (tb_dec ht hp) ?_
  exact hk p e s m args below meth c Z ad0 w0 hF hc ad H locs ls hR hE hL hl (clS_c trivial (clS_t hS)) ho h1 h2
theorem wp_acmpE {q : Nat × Nat} {off : Int} {tgt : Nat} (ht : tbOk (mB M) tb = true) (hp : alk tb pc = some (.if_acmp .eq off, 3)) (htg : (pc : Int) + off = (tgt : Int)) (hk : WP l G M n mc ms Q tgt L S w cu su) : WP l G M n mc ms Q pc L (.inr (.inr (some q)) :: .inr (.inr (some q)) :: S) w cu su := by
  intro p e s m args below meth c Z ad0 w0 hF hc ad H locs ls hR hE hL hl hS ho h1 h2
  obtain ⟨hx, hb, hr, hml, hown, hts, hKK, hlk, hnm⟩ := id hF
  refine lv_acmp_eq (rx := some (ad q.1 q.2)) (ry := some (ad q.1 q.2)) hx hb (tb_dec ht hp) htg (fun _ => ?_) (fun h => absurd rfl h)
  exact hk p e s m args below meth c Z ad0 w0 hF hc ad H locs ls hR hE hL hl (clS_t (clS_t hS)) ho h1 h2
theorem wp_acmpN {q : Nat × Nat} {off : Int} {tgt : Nat} (ht : tbOk (mB M) tb = true) (hp : alk tb pc = some (.if_acmp .ne off, 3)) (htg : (pc : Int) + off = (tgt : Int)) (hk : WP l G M n mc ms Q (pc + 3) L S w cu su) : WP l G M n mc ms Q pc L (.inr (.inr (some q)) :: .inr (.inr (some q)) :: S) w cu su := by
  intro p e s m args below meth c Z ad0 w0 hF hc ad H locs ls hR hE hL hl hS ho h1 h2
  obtain ⟨hx, hb, hr, hml, hown, hts, hKK, hlk, hnm⟩ := id hF
  refine lv_acmp_ne (rx := some (ad q.1 q.2)) (ry := some (ad q.1 q.2)) hx hb (tb_dec ht hp) htg (fun h => absurd rfl h) (fun _ => ?_)
  exact hk p e s m args below meth c Z ad0 w0 hF hc ad H locs ls hR hE hL hl (clS_t (clS_t hS)) ho h1 h2
theorem wp_ldcS {i idx : Nat} (hi : i < 11) (hO : mOwn M = "StockYard$Tape") (hidx : sKey.getD i 0 = idx) (ht : tbOk (mB M) tb = true) (hp : alk tb pc = some (.ldc idx, 2)) (hk : WP l G M n mc ms Q (pc + 2) L (.inr (.inr (some (902, i))) :: S) w cu su) : WP l G M n mc ms Q pc L S w cu su := by
  intro p e s m args below meth c Z ad0 w0 hF hc ad H locs ls hR hE hL hl hS ho h1 h2
  obtain ⟨hx, hb, hr, hml, hown, hts, hKK, hlk, hnm⟩ := id hF
  have hZ := hKK.2.2.2.2.2.2.1 i hi
  rw [hidx] at hZ
  have ha : ad 902 i = gX G 902 i := hR.2.2.2.1 902 i (by omega)
  refine va_ldcS hx hb (by rw [← hO]; exact hown) hZ (tb_dec ht hp) ?_
  rw [← ha]
  exact hk p e s m args below meth c Z ad0 w0 hF hc ad H locs ls hR hE hL hl (clS_c (Or.inl (show 900 ≤ 902 by omega)) hS) ho h1 h2
theorem wp_ldcM {idx : Nat} (hlink : Cond.classLink (mOwn M) idx "[Ljava/lang/Object;" ∈ goodT) (ht : tbOk (mB M) tb = true) (hp : alk tb pc = some (.ldc idx, 2)) (hk : WP l G M n mc ms Q (pc + 2) L (.inr (.inr (some (904, 0))) :: S) w cu su) : WP l G M n mc ms Q pc L S w cu su := by
  intro p e s m args below meth c Z ad0 w0 hF hc ad H locs ls hR hE hL hl hS ho h1 h2
  obtain ⟨hx, hb, hr, hml, hown, hts, hKK, hlk, hnm⟩ := id hF
  have ha : ad 904 0 = gX G 904 0 := hR.2.2.2.1 904 0 (by omega)
  refine va_ldcM hx hb hown (hts _ hlink) hKK.2.2.2.2.2.2.2.1 (tb_dec ht hp) ?_
  rw [← ha]
  exact hk p e s m args below meth c Z ad0 w0 hF hc ad H locs ls hR hE hL hl (clS_c (Or.inl (show 900 ≤ 904 by omega)) hS) ho h1 h2
theorem wp_getC {idx j : Nat} (hlink : Cond.methodLink (mOwn M) idx ⟨"java/lang/Object", "getClass", "()Ljava/lang/Class;"⟩ ∈ goodT) (ht : tbOk (mB M) tb = true) (hp : alk tb pc = some (.invokevirtual idx, 3)) (hj : j < wC w 300) (hcat : catS S ≤ 8) (hn : 1 ≤ n) (hk : WP l G M n mc ms Q (pc + 3) L (.inr (.inr (some (904, 0))) :: S) w cu su) : WP l G M n mc ms Q pc L (.inr (.inr (some (300, j))) :: S) w cu su := by
  intro p e s m args below meth c Z ad0 w0 hF hc ad H locs ls hR hE hL hl hS ho h1 h2
  obtain ⟨hx, hb, hr, hml, hown, hts, hKK, hlk, hnm⟩ := id hF
  have ha : ad 904 0 = gX G 904 0 := hR.2.2.2.1 904 0 (by omega)
  obtain ⟨a1, a2⟩ := arr_in (show 20 ≤ 300 by omega) (by omega) hR hj
  obtain ⟨kA, comp, k1, k2, k3, k4⟩ := (hKK.1.2 2 _ rfl).2
  refine va_getC (C := "[Ljava/lang/Object;") hx hb (by rw [hml, hL.1]) hown (hts _ hlink) (va_Dc.use hKK.2.2.2.2.2.2.2.2.1) (hts _ wg_sel) (hts _ wg_ins) (hts _ wg_nat) hKK.2.2.2.2.2.2.2.1 ⟨_, a1, rfl, k4⟩ hn ?_ (tb_dec ht hp) ?_
  · have := catS_eq ad S
    show _ + 14 ≤ 40 * n
    omega
  · rw [← ha]
    exact hk p e s m args below meth c Z ad0 w0 hF hc ad H locs ls hR hE hL hl (clS_c (Or.inl (show 900 ≤ 904 by omega)) (clS_t hS)) ho h1 h2
end S8
