/-! the law from its entry: what the Statement gives of the start, as the machine of 02 wants it -/
def R_law : String := "StockYardLaw"
def lw_P (b : Addr) (xs : List Int32) (args : Array Value) (s : State) : Prop := args = #[.ref b] ∧ s.IntsAt b xs ∧ xs.length ≤ 3072 ∧ (Jvm.Cond.and given_1 narrow_1).before args s = true
def lw_Q (_ : Array Value) (s : State) (o : Outcome) (t : State) : Prop := o = .returned (some (.int 1)) ∧ Framed s o t [] 600000 7302250
def lw_Z (below : List Frame) (a : Array Value) (s : State) : State → Prop := fun t => ∃ o, t.status = .running ∧ Ended t below o ∧ lw_Q a s o t
/-- the law's own end, with 1 on the stack, nothing written that was there before, in any room -/
theorem lw_ret {p : Program} {l : Launch} {e : Env} {R : Room} {s : State} {m : MethodId} {below : List Frame} {meth : Method} {c : Code} {b : Nat} (hx : p.tables.exec = Jvm.exec) (hb : c.code = code) (hr : meth.sig.returnType = ret) (hlocks : meth.locks = false) {pc : Nat} {H : Heap} {ls : Array Slot} (hdg : decode code pc = .ok (.ireturn, 1)) : W p l e R s m #[Value.ref b] below meth c H [] 600000 7302250 (lw_Z below #[Value.ref b] s) (F0 m pc ls [.int 1]) := by
  intro T hT X
  obtain ⟨fs, hret, hrun, hended, hW, hframe⟩ := X.leave (v := some (.int 1)) (hlocks := hlocks) (fun h => by rw [hr] at h; cases h)
  have hmeth' : T.vm.method? m = some meth := X.method'
  refine ⟨T.setFrames fs, ?_, .returned (some (.int 1)), hrun, hended, rfl, ⟨_, rfl⟩, hW, hframe⟩
  jvm_step X.here [X.here.top, hx, hb, hdg, hmeth', hr, ret, narrow_b1]
  (try refine ⟨rfl, ?_⟩); (try refine ⟨rfl, ?_⟩)
  first | (intro acts; rw [hret _ acts rfl rfl rfl]) | rw [hret _ _ rfl rfl rfl]
  exact Steps.refl _
/-- what holds at the law's entry; the method's own name too -/
def lw_At (p : Program) (s : State) (m : MethodId) (meth : Method) (c : Code) (b L : Nat) (xs : Nat → Int32) : Prop :=
  p.tables.exec = Jvm.exec ∧ c.code = code ∧ meth.sig.returnType = ret ∧ c.maxLocals = 4 ∧ s.vm.findClass R_law = some m.cls ∧ (∀ w ∈ lw_tbl, w.before #[Value.ref b] s = true) ∧ va_X b L xs s s.heap ∧ b < s.heap.size ∧ meth.locks = false ∧ (Jvm.Cond.and given_1 narrow_1).before #[Value.ref b] s = true ∧ meth.name = x.name
/-! classes of arrays -/
theorem arr_int {args : Array Value} {s : State} (h : (Cond.arrayClass .int).before args s = true) : ∃ cA : ClassId, ArrOfT s cA .int ∧ va_RA s cA .int := by
  obtain ⟨cA, kA, comp, h1, h2, h3⟩ := Cond.arrayClass_spec h
  exact ⟨cA, fun n z => ⟨(fun k h => by cases h), kA, h2, comp, h3⟩, h1⟩
theorem arr_bool {args : Array Value} {s : State} (h : (Cond.arrayClass .boolean).before args s = true) : ∃ cA : ClassId, ArrOfT s cA .boolean ∧ va_RA s cA .boolean := by
  obtain ⟨cA, kA, comp, h1, h2, h3⟩ := Cond.arrayClass_spec h
  exact ⟨cA, fun n z => ⟨(fun k h => by cases h), kA, h2, comp, h3⟩, h1⟩
theorem arr_obj {args : Array Value} {s : State} {C : String} (h : (Cond.arrayOver (.object C)).before args s = true) : ∃ cA : ClassId, ArrOfT s cA (.object C) ∧ va_RA s cA (.object C) := by
  obtain ⟨comp, cA, kA, h1, h2, h3, h4, h5⟩ := Cond.arrayOver_spec h
  exact ⟨cA, fun n z => ⟨(fun k h => by cases h), kA, h3, comp, h4⟩, kA, comp, h3, h4, h1, h5⟩
theorem arr_arr {args : Array Value} {s : State} (h : (Cond.arrayOver (.array .int)).before args s = true) : ∃ cA : ClassId, ArrOfT s cA (.array .int) ∧ va_RA s cA (.array .int) := by
  obtain ⟨comp, cA, kA, h1, h3, h4, h5⟩ := Cond.arrayOver_specA h
  exact ⟨cA, fun n z => ⟨(fun k h => by cases h), kA, h3, comp, h4⟩, h5⟩
/-! the classes -/
theorem good_of {s : State} {args : Array Value} (hts : ∀ w ∈ lw_tbl, w.before args s = true) : ∀ w ∈ goodT, w.before args s = true := fun w hw => hts w (List.mem_filter.mp hw).1
theorem cls_known {s : State} {args : Array Value} (hg : ∀ w ∈ goodT, w.before args s = true) : ∃ (dC : Nat → ClassId) (dI : Nat → Nat → Nat), ∀ (k : Nat) (q : vw_C), cls[k]? = some q → u_Kn s q.1 q.2.1 q.2.2 (dC k) (dI k) := by
  have h : ∀ k : Nat, ∃ z : ClassId × (Nat → Nat), k < 14 → u_Kn s (clsN k).1 (clsN k).2.1 (clsN k).2.2 z.1 z.2 := by
    intro k
    by_cases hk : k < 14
    · obtain ⟨c, i, h⟩ := u_known hg (clsIn hk) (hg _ (wi_in hk))
      exact ⟨(c, i), fun _ => h⟩
    · exact ⟨(0, fun _ => 0), fun h => absurd h hk⟩
  obtain ⟨f, hf⟩ := Classical.axiomOfChoice h
  refine ⟨fun k => (f k).1, fun k => (f k).2, fun k q hq => ?_⟩
  have hk : k < 14 := (List.getElem?_eq_some_iff.mp hq).1
  have e : clsN k = q := by
    show (cls[k]?).getD _ = q
    rw [hq]
    rfl
  have h2 := hf k hk
  rw [e] at h2
  exact h2
/-! the strings, by their places -/
def sTm (i : Nat) : Term := .string "StockYard$Tape" (sKey.getD i 0)
def gvL : List Cond := flatC (Jvm.Cond.and given_1 narrow_1)
theorem ss_len : ∀ i : Nat, i < 11 → sLen.getD i 0 < 2 ^ 31 := by decide +kernel
set_option maxRecDepth 100000 in
theorem ss_ex : ∀ i : Nat, i < 11 → Cond.exactly (sTm i) "java/lang/String" ∈ gvL := by decide +kernel
set_option maxRecDepth 100000 in
theorem ss_co : ∀ i : Nat, i < 11 → Cond.eq (.field (sTm i) "java/lang/String" "coder" "B") (.int 0) ∈ gvL := by decide +kernel
set_option maxRecDepth 100000 in
theorem ss_ar : ∀ i : Nat, i < 11 → Cond.arrayOf (.field (sTm i) "java/lang/String" "value" "[B") .byte ∈ gvL := by decide +kernel
set_option maxRecDepth 100000 in
theorem ss_le : ∀ i : Nat, i < 11 → Cond.eq (.length (.field (sTm i) "java/lang/String" "value" "[B")) (.int (Int32.ofNat (sLen.getD i 0))) ∈ gvL := by decide +kernel
set_option maxRecDepth 100000 in
theorem ss_el : ∀ i : Nat, i < 11 → ∀ j : Nat, j < sLen.getD i 0 → Cond.eq (.elem (.field (sTm i) "java/lang/String" "value" "[B") (.int (Int32.ofNat j))) (.int ((sByt.getD i []).getD j 0)) ∈ gvL := by decide +kernel
set_option maxRecDepth 100000 in
theorem ss_nl : ∀ i : Nat, i < 11 → ∀ j : Nat, j < 11 → i < j → Cond.not (Cond.eq (sTm i) (sTm j)) ∈ gvL := by decide +kernel
theorem ss_ne (i : Nat) (hi : i < 11) (j : Nat) (hj : j < 11) (h : i ≠ j) : Cond.not (Cond.eq (sTm i) (sTm j)) ∈ gvL ∨ Cond.not (Cond.eq (sTm j) (sTm i)) ∈ gvL := by
  rcases Nat.lt_or_gt_of_ne h with h1 | h1
  · exact Or.inl (ss_nl i hi j hj h1)
  · exact Or.inr (ss_nl j hj i hi h1)
set_option maxRecDepth 100000 in
theorem ss_rf : ∀ i : Nat, i < 11 → Cond.stringRef "StockYard$Tape" (sKey.getD i 0) (sTxt.getD i "") ∈ tables_1 := by decide +kernel
set_option maxRecDepth 100000 in
theorem ss_m1 : Cond.arrayOf (.static "java/util/ArrayList" "DEFAULTCAPACITY_EMPTY_ELEMENTDATA" "[Ljava/lang/Object;") (.object "java/lang/Object") ∈ gvL ∧ Cond.eq (.length (.static "java/util/ArrayList" "DEFAULTCAPACITY_EMPTY_ELEMENTDATA" "[Ljava/lang/Object;")) (.int (Int32.ofNat 0)) ∈ gvL ∧ Cond.eq (.static "java/lang/String" "COMPACT_STRINGS" "Z") (.int 1) ∈ gvL ∧ Cond.isRef (.static "jdk/internal/util/Preconditions" "SIOOBE_FORMATTER" "Ljava/util/function/BiFunction;") ∈ gvL ∧ Cond.isRef (.mirror "[Ljava/lang/Object;") ∈ gvL := by decide +kernel
set_option maxRecDepth 100000 in
theorem ss_m2 : Cond.laysStatic "java/util/ArrayList" "DEFAULTCAPACITY_EMPTY_ELEMENTDATA" "[Ljava/lang/Object;" ∈ tables_1 ∧ Cond.laysStatic "java/lang/String" "COMPACT_STRINGS" "Z" ∈ tables_1 ∧ Cond.laysStatic "jdk/internal/util/Preconditions" "SIOOBE_FORMATTER" "Ljava/util/function/BiFunction;" ∈ tables_1 ∧ Cond.initialized "java/util/ArrayList" ∈ tables_1 ∧ Cond.initialized "java/lang/String" ∈ tables_1 ∧ Cond.initialized "jdk/internal/util/Preconditions" ∈ tables_1 := by decide +kernel
set_option maxRecDepth 100000 in
theorem ss_m3 : Cond.declares ⟨"java/lang/Object", "getClass", "()Ljava/lang/Class;"⟩ ∈ tables_1 ∧ Cond.arrayOver (.object "java/lang/Object") ∈ tables_1 ∧ Cond.arrayOver (.object "StockYard$Way") ∈ tables_1 ∧ Cond.arrayOver (.array .int) ∈ tables_1 ∧ Cond.arrayClass .int ∈ tables_1 ∧ Cond.arrayClass .boolean ∈ tables_1 := by decide +kernel
theorem tb_in {w : Cond} (h : w ∈ tables_1) : w ∈ lw_tbl := List.mem_append_right _ h
/-! what stands outside -/
theorem sio_of {A : Nat → Prop} {U : State} {H : Heap} {C n d : String} (h : va_Zq C n d A U H) : ∃ tf z : Nat, va_Z C n d (if z = 0 then Value.null else Value.ref tf) A U H := by
  rcases h with h | ⟨t, h⟩
  · exact ⟨0, 0, h⟩
  · exact ⟨t, 1, h⟩
theorem gx_ex (t9 b mi tf z : Nat) (adK adV : Nat → Nat) : ∃ gx : Nat → Nat → Nat, gx 900 0 = t9 ∧ gx 901 0 = b ∧ gx 902 = adK ∧ gx 903 = adV ∧ gx 904 0 = mi ∧ gx 905 0 = tf ∧ gx 905 1 = z :=
  ⟨fun t k => if t = 900 then t9 else if t = 901 then b else if t = 902 then adK k else if t = 903 then adV k else if t = 904 then mi else if k = 0 then tf else z, rfl, rfl, rfl, rfl, rfl, rfl, rfl⟩
theorem gX_sio (G : Gc) : renR (gX G) (sioR G) = if gX G 905 1 = 0 then Value.null else Value.ref (gX G 905 0) := by
  unfold sioR
  by_cases h : gX G 905 1 = 0
  · rw [if_pos h, if_pos h]
    rfl
  · rw [if_neg h, if_neg h]
    rfl
set_option maxHeartbeats 4000000 in
/-- the machine's premises, out of the Statement's -/
theorem KK_start {s : State} {b L : Nat} {xs : Nat → Int32} (hts : ∀ w ∈ lw_tbl, w.before #[Value.ref b] s = true) (hX : va_X b L xs s s.heap) (hgv : (Jvm.Cond.and given_1 narrow_1).before #[Value.ref b] s = true) : ∃ G : Gc, gH G = s.heap ∧ gL G = L ∧ gS G = xs ∧ gX G 901 0 = b ∧ KK G s := by
  have hs : ∀ w ∈ gvL, w.before #[Value.ref b] s = true := flat_of_before _ hgv
  have hA : ∀ a : Nat, a < s.heap.size → ¬ (fun q : Nat => s.heap.size ≤ q) a := fun a h => Nat.not_le.mpr h
  have hg := good_of hts
  obtain ⟨dC, dI, hK⟩ := cls_known hg
  obtain ⟨c0, i0, r0⟩ := arr_int (hts _ (tb_in ss_m3.2.2.2.2.1))
  obtain ⟨c1, i1, r1⟩ := arr_bool (hts _ (tb_in ss_m3.2.2.2.2.2))
  obtain ⟨c2, i2, r2⟩ := arr_obj (hts _ (tb_in ss_m3.2.1))
  obtain ⟨c3, i3, r3⟩ := arr_obj (hts _ (tb_in ss_m3.2.2.1))
  obtain ⟨c4, i4, r4⟩ := arr_arr (hts _ (tb_in ss_m3.2.2.2.1))
  obtain ⟨t9, e9, T9⟩ := va_Tof (N := 0) (f := fun _ => Value.null) (A := fun q : Nat => s.heap.size ≤ q) (by decide) (hs _ ss_m1.1) (va_eqt (hs _ ss_m1.2.1)) (fun j hj => absurd hj (Nat.not_lt_zero j)) hA
  have Z9 := va_Zof (hts _ (tb_in ss_m2.1)) (hts _ (tb_in ss_m2.2.2.2.1)) e9 hA
  have Z8 := va_Zof (hts _ (tb_in ss_m2.2.1)) (hts _ (tb_in ss_m2.2.2.2.2.1)) (va_eqt (hs _ ss_m1.2.2.1)) hA
  obtain ⟨adK, adV, hS, hE⟩ := vk_Sof (N := 11) (tm := sTm) (len := sLen) (byt := sByt) (A := fun q : Nat => s.heap.size ≤ q) ss_len (fun i hi => hs _ (ss_ex i hi)) (fun i hi => hs _ (ss_co i hi)) (fun i hi => hs _ (ss_ar i hi)) (fun i hi => hs _ (ss_le i hi)) (fun i hi j hj => hs _ (ss_el i hi j hj)) (fun i j hi hj hij => (ss_ne i hi j hj hij).elim (fun h => Or.inl (hs _ h)) (fun h => Or.inr (hs _ h))) hA
  obtain ⟨mi, hMi⟩ := va_Mi.of (hs _ ss_m1.2.2.2.2)
  obtain ⟨tf, z, hF⟩ := sio_of (va_Zqof (hts _ (tb_in ss_m2.2.2.1)) (hts _ (tb_in ss_m2.2.2.2.2.2)) (hs _ ss_m1.2.2.2.1) hA)
  have hAOI : xa_AOI s := hts _ (tb_in ss_m3.2.2.2.1)
  have hO1 : va_AO "java/lang/Object" s := va_AO.of (hts _ (tb_in ss_m3.2.1))
  have hO2 : va_AO "StockYard$Way" s := va_AO.of (hts _ (tb_in ss_m3.2.2.1))
  have hDc : va_Dc s := va_Dc.of (hts _ (tb_in ss_m3.1))
  have hRf : ∀ i : Nat, i < 11 → vk_R "StockYard$Tape" (sKey.getD i 0) (sTxt.getD i "") (adK i) s := fun i hi => vk_R.of (hts _ (tb_in (ss_rf i hi))) (hE i hi)
  have hNw : ∀ w ∈ nestW, va_Nw w s := fun w hw => by
    have hw1 := hts w (List.mem_filter.mp hw).1
    rcases nestW_spec hw with ⟨a, i, y, d, rfl⟩ | ⟨a, d, rfl⟩
    · exact va_Nw.of rfl hw1
    · exact va_Nw.of rfl hw1
  obtain ⟨gx, x0, x1, x2, x3, x4, x5, x6⟩ := gx_ex t9 b mi tf z adK adV
  subst x0 x2 x3 x4 x5 x6
  refine ⟨(dC, dI, (fun k => match k with | 0 => c0 | 1 => c1 | 2 => c2 | 3 => c3 | _ => c4), s.heap, gx, L, xs), rfl, rfl, rfl, x1, ⟨hK, fun k q hq => ?_⟩, hNw, ?_⟩
  · match k, hq with
    | 0, hq => cases hq; exact ⟨i0, r0⟩
    | 1, hq => cases hq; exact ⟨i1, r1⟩
    | 2, hq => cases hq; exact ⟨i2, r2⟩
    | 3, hq => cases hq; exact ⟨i3, r3⟩
    | 4, hq => cases hq; exact ⟨i4, r4⟩
    | k + 5, hq =>
      have h5 : k + 5 < 5 := (List.getElem?_eq_some_iff.mp hq).1
      omega
  · refine ⟨Z9, T9, Z8, hS, hRf, hMi, hDc, hO1, ⟨hO2, hAOI, ?_⟩, ?_⟩
    · rw [gX_sio]
      exact hF
    · show va_X (gx 901 0) L xs s s.heap
      rw [x1]
      exact hX
set_option maxHeartbeats 4000000 in
/-- THE LAW, from its entry, for every script of at most 3072 ints -/
theorem whole_start {p : Program} {e : Env} {s : State} {m : MethodId} {below : List Frame} {meth : Method} {c : Code} (l : Launch) {b L : Nat} {xs : Nat → Int32} (hL : L ≤ 3072) (C0 : lw_At p s m meth c b L xs) : W p l e room_1 s m #[Value.ref b] below meth c s.heap [] 0 0 (lw_Z below #[Value.ref b] s) (entryFrame m ([Value.ref b] : List Value).toArray 4) := by
  obtain ⟨hx, hb, hr, hml, hown, hts, hX, hbl, hlocks, hgv, hnm⟩ := C0
  obtain ⟨G, g1, g2, g3, g4, hKK⟩ := KK_start hts hX hgv
  have hl := lv_entry ([.ref b]) (n := 4) (Nat.le_of_ble_eq_true rfl)
  rw [lg_entry_eq]
  generalize (lg_sl ([.ref b]) ++ List.replicate (4 - (lg_sl ([.ref b])).length) Slot.unset).toArray = ls at hl ⊢
  have hl : lv_has ls 4 [(0, .ref b)] := hl
  have hF : Fx G mZ p s m #[Value.ref b] meth c := ⟨hx, hb, hr, hml, hown, good_of hts, hKK, hlocks, hnm⟩
  have hn0 : n0 G = s.heap.size := by rw [n0, g1]
  have hR : Rel G (gX G) w00 s.heap := by
    refine ⟨fun t k _ hk => absurd hk (Nat.not_lt_zero k), fun t k t' k' _ _ hk => absurd hk (Nat.not_lt_zero k), fun t k i q hk => absurd hk (Nat.not_lt_zero k), fun t k _ => rfl, by rw [hn0]; exact Nat.le_refl _, fun q _ => by rw [g1]⟩
  have hLs : LsR (gX G) (mL mZ) [some (.inr (.inr (some (901, 0)))), none, none, none] ls := by
    refine ⟨hl.1, rfl, hl.2.1, fun i v hi => ?_⟩
    match i, hi with
    | 0, hi =>
      cases hi
      show ls[0]? = some (.val (.ref (gX G 901 0)))
      rw [g4]
      exact hl.2.2 _ List.mem_cons_self
    | 1, hi => cases hi
    | 2, hi => cases hi
    | 3, hi => cases hi
    | i + 4, hi => cases hi
  have hcl : clL w00 [some (.inr (.inr (some (901, 0)))), none, none, none] := by
    intro i v hi
    match i, hi with
    | 0, hi => cases hi; exact Or.inl (by decide)
    | 1, hi => cases hi
    | 2, hi => cases hi
    | 3, hi => cases hi
    | i + 4, hi => cases hi
  have hLG : gL G ≤ 3072 := by rw [g2]; exact hL
  refine W_room (R := rml 40 600000 7302250) (by show (40 : Nat) ≤ 2048; decide) (by show (600000 : Nat) ≤ 600000; decide) (by show (7302250 : Nat) ≤ 7302250; decide) (by show (1600 : Nat) ≤ 84000; decide) ?_
  refine WP_law (l := l) (G := G) (mc := 600000) (ms := 7302250) (Q := fun r _ => r = some (.inl 1)) hLG (by decide) (by decide) (fun _ => rfl) p e s m #[Value.ref b] below meth c (lw_Z below #[Value.ref b] s) (gX G) w00 hF ?_ (gX G) s.heap [] ls hR ⟨fun _ _ _ => rfl, fun _ => Nat.le_refl _⟩ hLs hcl (fun v hv => by cases hv) (fun q hq => by cases hq) (Nat.zero_le _) (Nat.zero_le _)
  intro r w' ad' H' locs' pc' ls' cu' su' hq hR' hE' hcr hlo hc1 hc2 hret
  have hlo2 : ∀ q ∈ locs', s.heap.size ≤ q.base := fun q hq => by
    have h1 : n0 G ≤ q.base := hlo q hq
    rw [hn0] at h1
    exact h1
  have hq2 : r = some (.inl 1) := hq
  subst hq2
  rcases hret with ⟨v, hv, hd, hnr⟩ | ⟨v, hv, hd, hnr⟩ | ⟨v, hv, hd, hnr⟩ | ⟨hv, hd, hnr⟩
  · exact va_forget hlo2 (W.widen hc1 hc2 (lw_ret hx hb hr hlocks hd))
  · cases hv
  · cases hv
  · cases hv
