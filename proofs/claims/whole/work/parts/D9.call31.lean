/-! calls: plan, what it leaves -/
def PlS (t i : Nat) : Prop := t = 8 ∨ (177 ≤ t ∧ t ≤ 182) ∨ (184 ≤ t ∧ t ≤ 186) ∨ (t = 9 ∧ i = 4) ∨ t = 6 ∨ (t = 13 ∧ (i = 12 ∨ i = 13 ∨ i = 40 ∨ i = 46 ∨ i = 47)) ∨ (110 ≤ t ∧ t ≤ 111) ∨ (114 ≤ t ∧ t ≤ 116) ∨ (141 ≤ t ∧ t ≤ 144)
section
variable {l : Launch} {G : Gc} {c : Nat} {w : Wd}
theorem pn_inv {c' : Nat} {W : Wd} {F : List (Ent × Nat)} (h : Inv c w) (hc : c ≤ c') (h2 : W.2 = w.2) (hI : ∀ t k i, ¬ PlS t i → wI W t k i = wI w t k i) (h1 : CpE W (F.map (fun f => f.1))) (hR : RfE W (F.map (fun f => f.1))) (F3 : enB (grf w) (F.map (fun f => f.1)) (1400 * c)) (F4 : OwF w F) (hP : IvP W) : Inv c' W := by
  have g : ∀ t k i, ¬ (t = 8 ∨ (177 ≤ t ∧ t ≤ 182) ∨ (184 ≤ t ∧ t ≤ 186) ∨ (t = 9 ∧ i = 4) ∨ t = 6 ∨ (t = 13 ∧ (i = 12 ∨ i = 13 ∨ i = 40 ∨ i = 46 ∨ i = 47)) ∨ (110 ≤ t ∧ t ≤ 111) ∨ (114 ≤ t ∧ t ≤ 116) ∨ (141 ≤ t ∧ t ≤ 144)) → wI W t k i = wI w t k i := hI
  have hMS := MSh_of (iv_M h).1 h2
  have m3 := cn_cg (w := w) (w' := W) (g 13 0 3 (by omega))
  have m17 := cn_cg (w := w) (w' := W) (g 13 0 17 (by omega))
  have m38 := cn_cg (w := w) (w' := W) (g 13 0 38 (by omega))
  have eg : grf W = grf w := grf_cg fun t k i ht => g t k i (by omega)
  refine ⟨SSh_of (iv_S h) h2, ?_, Cp0_cg' (fun t k i ht => g t k i (by omega)) (iv_0 h), IvN_cg h2 (g _ _ _ (by omega)) (g _ _ _ (by omega)) (iv_N h), IvQ_cg h2 (iv_M h).2.2.2.2.1 (fun t k i ht => g t k i (by omega)) (iv_Q h), fun i hi => LtI_cg (Exw_2 h2) hc (by omega) (by omega) (fun t k i ht => g t k i (by omega)) (iv_L h (by omega)), IvY_cg (Exw_2 h2) hMS (fun t k i ht => g t k i (by omega)) (iv_Y h), ⟨F, h1, hR, by rw [eg]; exact enB_up (Nat.mul_le_mul_left _ hc) F3, OwF_cg eg (by omega) (fun j hj => g _ _ _ (by omega)) F4⟩, hP, IvW_cg (fun t k i ht => g t k i (by omega)) (iv_W h), IvT_cg hc (g _ _ _ (by omega)) (g _ _ _ (by omega)) (iv_T h), IvK_cg (g _ _ _ (by omega)) (fun i => g _ _ _ (by omega)) (iv_K h)⟩
  obtain ⟨-, y3, y6, y17, yR, y63, y58, y123, y67, y47⟩ := iv_M h
  refine ⟨hMS, okc_cg (g _ _ _ (by omega)) y3, okc_cg (g _ _ _ (by omega)) y6, okc_cg (g _ _ _ (by omega)) y17, ⟨okc_cg (g _ _ _ (by omega)) yR.1, fun r hr => ?_⟩, okc_cg (g _ _ _ (by omega)) y63, okc_cg (g _ _ _ (by omega)) y58, fun i hi => ?_, okc_cg (g _ _ _ (by omega)) y67, ?_⟩
  · rw [cn_cg (g _ _ _ (by omega))] at hr
    unfold cnT
    rw [g _ _ _ (by omega)]
    exact yR.2 r hr
  · rw [m17] at hi
    rw [m3, g _ _ _ (by omega)]; exact y123 i hi
  · rcases hP with ⟨q, -⟩ | ⟨m, q1, q2, q3, -⟩
    · exact Or.inl q
    · have e : cn W 47 = m := by rw [cn, q3]; exact nI_clamp (by omega)
      exact Or.inr ⟨by rw [e]; exact q3, by omega⟩
/-- as pn_inv, and refused at last -/
theorem pn_inv2 {W : Wd} {F : List (Ent × Nat)} (h : Inv c w) (h2 : W.2 = w.2) (hI : ∀ t k i, ¬ PlS t i → ¬ ((t = 170 ∨ t = 101) ∧ i = 2) → wI W t k i = wI w t k i) (h170 : wI W 170 0 2 = wI w 170 0 2 + 1) (h101 : wI W 101 0 2 = wI w 101 0 2 + 1) (hk : ∀ t k i, (t = 170 ∨ t = 101) → ¬ k = 0 → wI W t k i = wI w t k i) (h1 : CpE W (F.map (fun f => f.1))) (hR : RfE W (F.map (fun f => f.1))) (F3 : enB (grf w) (F.map (fun f => f.1)) (1400 * c)) (F4 : OwF w F) (hP : IvP W) : Inv (c + 1) W := by
  have e : W = rfz (rfs (sI (sI W 170 0 2 (wI w 170 0 2)) 101 0 2 (wI w 101 0 2)) 2) 2 := by
    refine Wd_eq (fun t k i => ?_) rfl
    unfold rfz rfs
    simp only [yI_sI, Nat.reduceEqDiff, false_and, and_self, if_false, if_true]
    by_cases c1 : t = 101 ∧ k = 0 ∧ i = 2
    · rw [if_pos c1, c1.1, c1.2.1, c1.2.2]; exact h101
    · rw [if_neg c1]
      by_cases c2 : t = 170 ∧ k = 0 ∧ i = 2
      · rw [if_pos c2, c2.1, c2.2.1, c2.2.2]; exact h170
      · rw [if_neg c2]
        simp only [c1, c2, if_false]
  have iv : Inv c (sI (sI W 170 0 2 (wI w 170 0 2)) 101 0 2 (wI w 101 0 2)) := by
    have s : ∀ t k i, ¬ (t = 170 ∨ t = 101) → wI (sI (sI W 170 0 2 (wI w 170 0 2)) 101 0 2 (wI w 101 0 2)) t k i = wI W t k i := fun t k i hn => by rw [yI_sI, if_neg (by omega), yI_sI, if_neg (by omega)]
    refine pn_inv h (Nat.le_refl c) (show W.2 = w.2 from h2) (fun t k i hn => ?_) (CpE_cg (w := W) (Exw_2 rfl) (fun t k i ht => s t k i (by omega)) h1) (RfE_eq (w := W) hR rfl rfl (fun _ _ => ⟨rfl, rfl, rfl⟩)) F3 F4 (IvP_cg (w := W) (fun t k i ht => s t k i (by omega)) hP)
    rw [yI_sI, yI_sI]
    by_cases c1 : t = 101 ∧ k = 0 ∧ i = 2
    · rw [if_pos c1, c1.1, c1.2.1, c1.2.2]
    · rw [if_neg c1]
      by_cases c2 : t = 170 ∧ k = 0 ∧ i = 2
      · rw [if_pos c2, c2.1, c2.2.1, c2.2.2]
      · rw [if_neg c2]
        by_cases c3 : (t = 170 ∨ t = 101) ∧ i = 2
        · exact hk t k i c3.1 (by omega)
        · exact hI t k i hn c3
  rw [e]
  exact Inv_rf iv
/-- the reference's plan, in a world that it sees as w -/
theorem pn_ref {u : Wd} {F : List (Ent × Nat)} {x y : Int32} (h : Inv c w) (hc : c < 1000) (F2 : RfE w (F.map (fun f => f.1))) (F3 : enB (grf w) (F.map (fun f => f.1)) (1400 * c)) (F4 : OwF w F) (h2 : u.2 = w.2) (m : ∀ t k i, isC t = false → wI u t k i = wI w t k i) : Sem l G mM_plan 10 0 0 [.inr (.inr (some (13, 0))), .inl x, .inl y] u (plQ u x y (cn w 2) (F.map (fun f => f.1))) := by
  have hM := iv_M h
  obtain ⟨T1, -⟩ := iv_T h
  have T2 := T1.2
  have mt : ∀ t k i, ((107 ≤ t ∧ t ≤ 109) ∨ (t = 13 ∧ (i = 6 ∨ i = 3))) → wI u t k i = wI w t k i := fun t k i ht => m t k i (by rcases ht with ht | ⟨rfl, -⟩; (rcases (show t = 107 ∨ t = 108 ∨ t = 109 by omega) with rfl | rfl | rfl <;> rfl); rfl)
  have egu : grf u = grf w := grf_cg fun t k i ht => mt t k i (by omega)
  have hlen : (F.map (fun f => f.1)).length + 52 ≤ 500 := by
    rw [List.length_map]
    have := own_len (cn w 17) F (fun f hf => (F4.2.2 f hf).1) F4.2.1
    have := hM.2.2.2.1.2
    omega
  exact smM_plan l G (B := 1400 * c) (MOk_cg (MSh_of hM.1 h2) (fun t k i ht => m t k i (by rcases ht with ⟨rfl, -⟩ | rfl | rfl <;> rfl)) hM) (wkOk_cg (MSh_of hM.1 h2) (fun t k i ht => mt t k i (by omega)) (iv_Y h).2.1.1) (RfE_eq F2 egu (m _ _ _ rfl) (fun i _ => ⟨m _ _ _ rfl, m _ _ _ rfl, m _ _ _ rfl⟩)) (by rw [egu]; exact F3) (by rw [m _ _ _ rfl]; exact T1.1) (by omega) (by omega) hlen
end
/-- what the planner's rows say -/
theorem Rp_L {p : Nat → Bool} {n : Nat} {e : Nat → Nat} (h : ∀ j, j < n → p j = true → e (cnN p j) = j) {q : Nat} (hq : q < cnN p n) : e q < n ∧ p (e q) = true ∧ cnN p (e q) = q := by
  obtain ⟨j, h1, h2, h3⟩ := cnN_at hq
  have := h j h1 h2
  rw [h3] at this
  rw [this]
  exact ⟨h1, h2, h3⟩
section
variable {c : Nat} {w : Wd}
theorem pn_S {w2 : Wd} {x y : Int32} {eL eP : Nat → Nat} {mny : Nat} (h : Inv c w) (hx : cnN (btB x) (cn w 17) = mny) (hy : cnN (btB y) (cn w 3) = mny) (hm : mny ≤ 4) (hK : ∀ p, p < cn w 3 → btB y p = true → wI w 104 0 p = 1) (hTk : ∀ p, p < cn w 3 → btB y p = true → isTkn w (nI p) = false) (hAt : ∀ j, j < cn w 17 → btB x j = true → ¬ wI w 123 0 j = -1) (hRp : RpP w w2 x y (fun j => (wI w 123 0 j).toNatClampNeg) eL eP) : ClS (seI w2 (nI (cn w 2))) mny (cn w 2) (fun j => (wI w 123 0 j).toNatClampNeg) eL eP ∧ grf (seI w2 (nI (cn w 2))) = grf w ∧ dsM (seI w2 (nI (cn w 2))) = dsM w ∧ (∀ i, i < mny → btB x (eL i) = true ∧ btB y (eP i) = true) ∧ ∀ i, i < mny → eL i < cn w 17 := by
  obtain ⟨q1, q2, q3, q4, q5, q6, q7, q8, q9⟩ := hRp
  rw [hx] at q3 q7 q9
  rw [hy] at q4 q8 q9
  have hM := iv_M h
  have b14 := hM.2.1.2
  have b24 := hM.2.2.2.1.2
  have I : ∀ t k i, ¬ (((t = 8 ∨ t = 184 ∨ t = 185) ∧ k < 16) ∨ t = 177 ∨ t = 178 ∨ t = 6) → wI (seI w2 (nI (cn w 2))) t k i = wI w t k i := fun t k i hn => by
    rw [seI_I, if_neg (by omega), if_neg (by omega), if_neg (by omega), if_neg (by omega), q2 t k i (by omega)]
  have sm : SmW w (seI w2 (nI (cn w 2))) := ⟨q1, fun t k i ht => I t k i (by omega)⟩
  have eg := SmW_g sm
  have ed := SmW_d sm
  have c3 := SmW_c sm 3
  have LL : ∀ i, i < mny → eL i < cn w 17 ∧ btB x (eL i) = true ∧ cnN (btB x) (eL i) = i := fun i hi => Rp_L q5 (by omega)
  have PP : ∀ i, i < mny → eP i < cn w 3 ∧ btB y (eP i) = true ∧ cnN (btB y) (eP i) = i := fun i hi => Rp_L q6 (by omega)
  have pa : ∀ i, i < mny → (wI w 123 0 (eL i)).toNatClampNeg < cn w 3 ∧ wI w 123 0 (eL i) = nI (wI w 123 0 (eL i)).toNatClampNeg := fun i hi => by
    obtain ⟨l1, l2, -⟩ := LL i hi
    obtain ⟨p, hp, e⟩ := MOk_at2 hM l1 (hAt _ l1 l2)
    rw [e, nI_clamp (by omega)]
    exact ⟨hp, rfl⟩
  refine ⟨⟨Cpy_W sm (iv_y h), hm, ?_, ?_, ?_, fun i hi => ⟨?_, ?_, ?_, ?_⟩, fun i j hi hj => ⟨fun z => ?_, fun z => ?_⟩, fun i j hi hj => ?_⟩, eg, ed, fun i hi => ⟨(LL i hi).2.1, (PP i hi).2.1⟩, fun i hi => (LL i hi).1⟩
  · rw [seI_I, if_neg (by omega), if_neg (by omega), if_neg (by omega), if_neg (by omega)]; exact q3
  · rw [seI_I, if_neg (by omega), if_neg (by omega), if_neg (by omega), if_neg (by omega)]; exact q4
  · rw [seI_I, if_neg (by omega), if_neg (by omega), if_neg (by omega), if_pos ⟨rfl, rfl, rfl⟩]
  · rw [seI_I, if_neg (by omega), if_neg (by omega), if_neg (by omega), if_neg (by omega)]; exact q7 i hi
  · rw [seI_I, if_neg (by omega), if_neg (by omega), if_neg (by omega), if_neg (by omega)]; exact q8 i hi
  · rw [c3]; exact (pa i hi).1
  · rw [c3]; exact (PP i hi).1
  · have a := (LL i hi).2.2
    have b := (LL j hj).2.2
    rw [z] at a
    omega
  · have a := (PP i hi).2.2
    have b := (PP j hj).2.2
    rw [z] at a
    omega
  · have ne : ¬ (wI w 123 0 (eL i)).toNatClampNeg = eP j := fun z => by
      obtain ⟨l1, l2, -⟩ := LL i hi
      obtain ⟨p1, p2, -⟩ := PP j hj
      have k1 := hK _ p1 p2
      have t1 := hTk _ p1 p2
      unfold isTkn at t1
      rw [nI_clamp (by omega), k1, decide_eq_false (by decide)] at t1
      have t2 : anyN (tkF w (nI (eP j))) (cn w 17) = true := anyN_t l1 (by
        unfold tkF
        rw [(pa i hi).2, z, decide_eq_true rfl]
        rfl)
      rw [t2] at t1
      cases t1
    have wf : WyF (seI w2 (nI (cn w 2))) (4 * i + j) (wI w 123 0 (eL i)).toNatClampNeg (eP j) := by
      have sm2 : SmW w w2 := ⟨q1, fun t k i ht => q2 t k i (by omega)⟩
      have s8 : ∀ t k q, t = 8 ∨ t = 184 ∨ t = 185 → wI (seI w2 (nI (cn w 2))) t k q = wI w2 t k q := fun t k q ht => by rw [seI_I, if_neg (by omega), if_neg (by omega), if_neg (by omega), if_neg (by omega)]
      exact WyF_cg (w := w2) (by rw [eg, SmW_g sm2]) (by rw [ed, SmW_d sm2]) (by rw [SmW_c sm 6, SmW_c sm2 6]) (fun q => s8 _ _ _ (by omega)) (fun q => s8 _ _ _ (by omega)) (fun q => s8 _ _ _ (by omega)) (q9 i j hi hj)
    exact ⟨ne, fun hf => ⟨(wf.1 hf).1, (wf.1 hf).2.1, (wf.1 hf).2.2 ne⟩, wf.2⟩
end
