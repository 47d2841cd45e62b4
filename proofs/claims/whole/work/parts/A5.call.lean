/-! a call, first of the class and then of the reference -/
/-- the couplings of Cp0, looking only where they look -/
theorem Cp0_cg' {w w' : Wd} (hI : ∀ t k i, (t = 13 ∧ (i = 2 ∨ i = 3 ∨ i = 58 ∨ i = 63)) ∨ (t = 0 ∧ i = 9) ∨ (t = 1 ∧ i = 4) ∨ (t = 3 ∧ i = 1) ∨ (t = 5 ∧ i = 2) ∨ (t = 101 ∨ t = 104 ∨ t = 105 ∨ t = 159 ∨ t = 164 ∨ t = 165) ∨ (170 ≤ t ∧ t ≤ 172) ∨ (174 ≤ t ∧ t ≤ 176) → wI w' t k i = wI w t k i) (h : Cp0 w) : Cp0 w' := by
  obtain ⟨c1, c2, c3, c4, c5, c6, c7, c8⟩ := h
  have g := fun t k i ht => hI t k i (Or.inr (Or.inr (Or.inr (Or.inr (Or.inr (Or.inl ht))))))
  have g2 := fun t k i ht => hI t k i (Or.inr (Or.inr (Or.inr (Or.inr (Or.inr (Or.inr (Or.inl ht)))))))
  have g3 := fun t k i ht => hI t k i (Or.inr (Or.inr (Or.inr (Or.inr (Or.inr (Or.inr (Or.inr ht)))))))
  have m2 := hI 13 0 2 (by decide)
  have m3 := hI 13 0 3 (by decide)
  have m58 := hI 13 0 58 (by decide)
  have m63 := hI 13 0 63 (by decide)
  refine ⟨?_, ?_, ?_, ?_, fun b hb => ?_, fun p hp => ?_, fun i hi => ?_, fun i hi => ?_⟩
  · rw [hI 0 0 9 (by decide), m2]; exact c1
  · rw [hI 1 0 4 (by decide), m3]; exact c2
  · rw [hI 3 0 1 (by decide), m58]; exact c3
  · rw [hI 5 0 2 (by decide), m63]; exact c4
  · rw [g 101 _ _ (by decide), g2 170 _ _ (by decide)]; exact c5 b hb
  · rw [cn_cg m3] at hp; rw [g 104 _ _ (by decide), g 105 _ _ (by decide), g2 171 _ _ (by decide), g2 172 _ _ (by decide)]; exact c6 p hp
  · rw [cn_cg m58] at hi; rw [g 159 _ _ (by decide), g3 174 _ _ (by decide)]; exact c7 i hi
  · rw [cn_cg m63] at hi; rw [g 164 _ _ (by decide), g 165 _ _ (by decide), g3 175 _ _ (by decide), g3 176 _ _ (by decide)]; exact c8 i hi
/-- what a method's answer is -/
def tyM (M : MI) (v : AV) : Prop := match mR M with
  | some .long => ∃ y, v = .inr (.inl y)
  | _ => ∃ x, v = .inl x
theorem tyI {M : MI} {z : Int32} (h : tyM M (.inl z) = ∃ x : Int32, (.inl z : AV) = .inl x) : tyM M (.inl z) := by rw [h]; exact ⟨z, rfl⟩
theorem tyL {M : MI} {z : Int64} (h : tyM M (.inr (.inl z)) = ∃ x : Int64, (.inr (.inl z) : AV) = .inr (.inl x)) : tyM M (.inr (.inl z)) := by rw [h]; exact ⟨z, rfl⟩
def Pst (l : Launch) (G : Gc) (c : Nat) (mM : MI) (as : List AV) (r : Option AV) (w1 : Wd) : Prop := ∃ v, r = some v ∧ tyM mM v ∧ ∃ m, m ≤ 12 ∧ Sem l G mM m 0 0 (.inr (.inr (some (13, 0))) :: as) w1 (fun r2 w2 => r2 = some v ∧ Inv (c + 1) w2)
def Cok (l : Launch) (G : Gc) (c : Nat) (w : Wd) (mS mM : MI) (as : List AV) : Prop := ∃ n, n ≤ 18 ∧ Sem l G mS n 8 100 (.inr (.inr (some (0, 0))) :: as) w (Pst l G c mM as)
theorem Pst_fs {l : Launch} {G : Gc} {c lv : Nat} {mM : MI} {as : List AV} {fs : FS} {w1 w2 : Wd} {v : AV} (ok : FsOk l G mM lv fs) (hlv : lv ≤ 12) (e : fs (.inr (.inr (some (13, 0))) :: as) w1 = some (some v, w2)) (h : Inv (c + 1) w2) (hv : tyM mM v := by first | exact tyI rfl | exact tyL rfl) : Pst l G c mM as (some v) w1 :=
  ⟨v, rfl, hv, lv, hlv, (ok _ _ _ _ e).mono fun r2 w2' ⟨h1, h2⟩ => ⟨h1, by rw [h2]; exact h⟩⟩
theorem rfs_M {w : Wd} {b : Nat} (h : MOk w) : MOk (rfs w b) := MOk_cg h.1 (fun t k i ht => by unfold rfs; rw [yI_sI, if_neg (by omega)]) h
/-- refused, for the same reason -/
theorem Pst_rf {l : Launch} {G : Gc} {c lv b : Nat} {mM : MI} {as : List AV} {fs : FS} {w : Wd} {d v : Wd → Int32} {W : Wd → Wd} {x : Int32} (ok : FsOk l G mM lv fs) (hlv : lv ≤ 12) (hfs : ∀ w, fs (.inr (.inr (some (13, 0))) :: as) w = fsP (MOk w) (some (.inl (rfV (d w) (v w))), rfO w (d w) (W w))) (h : Inv c w) (hb : 0 < b ∧ b < 9) (hx : x = -nI b) (hd : d (rfs w b) = -nI b) (hv : ∀ z : Int32, tyM mM (.inl z) := by exact fun z => tyI rfl) : Pst l G c mM as (some (.inl x)) (rfs w b) := by
  have hz : ¬ -nI b = 0 := fun z => by
    have e : - -nI b = nI b := by simp
    rw [z] at e
    have := (nI_eq (a := 0) (b := b) (by omega) (by omega)).mp (by rw [← e]; rfl)
    omega
  have e : - -nI b = nI b := by simp
  refine Pst_fs ok hlv (w2 := rfz (rfs w b) b) ?_ (Inv_rf h) (hv x)
  rw [hfs, fsP_t (rfs_M (iv_M h)), hd, hx]
  unfold rfV rfO
  rw [if_neg hz, if_neg hz, e, nI_clamp (by omega)]
theorem Pst_ok {l : Launch} {G : Gc} {c lv : Nat} {mM : MI} {as : List AV} {fs : FS} {w1 : Wd} {d v : Wd → Int32} {W : Wd → Wd} {x : Int32} (ok : FsOk l G mM lv fs) (hlv : lv ≤ 12) (hfs : ∀ w, fs (.inr (.inr (some (13, 0))) :: as) w = fsP (MOk w) (some (.inl (rfV (d w) (v w))), rfO w (d w) (W w))) (hM : MOk w1) (hd : d w1 = 0) (hx : x = v w1) (h : Inv (c + 1) (W w1)) (hv : ∀ z : Int32, tyM mM (.inl z) := by exact fun z => tyI rfl) : Pst l G c mM as (some (.inl x)) w1 := by
  refine Pst_fs ok hlv (w2 := W w1) ?_ h (hv x)
  rw [hfs, fsP_t hM, hd, hx]
  unfold rfV rfO
  rw [if_pos rfl, if_pos rfl]
def LtK (j t k i : Nat) : Prop := ((t = 10 ∨ t = 11 ∨ t = 187 ∨ t = 188) ∧ k = j) ∨ (((118 ≤ t ∧ t ≤ 122) ∨ (126 ≤ t ∧ t ≤ 134) ∨ t = 227 ∨ t = 230 ∨ t = 239) ∧ i = j) ∨ ((t = 235 ∨ t = 136 ∨ t = 137) ∧ 5 * j ≤ i ∧ i < 5 * j + 5)
/-- one lot changes where it stands -/
theorem Inv_lot {c j : Nat} {w w' : Wd} (h2 : w'.2 = w.2) (hL : LtI (c + 1) w' j) (h38 : okc w' 38 (c + 1)) (h38' : cn w 38 ≤ cn w' 38) (hI : ∀ t k i, ¬ LtK j t k i → ¬ (t = 13 ∧ i = 38) → wI w' t k i = wI w t k i) (h : Inv c w) : Inv (c + 1) w' := by
  have hM := MSh_of (iv_M h).1 h2
  have g : ∀ t k i, ¬ (t = 10 ∨ t = 11 ∨ t = 187 ∨ t = 188 ∨ (118 ≤ t ∧ t ≤ 122) ∨ (126 ≤ t ∧ t ≤ 134) ∨ t = 227 ∨ t = 230 ∨ t = 239 ∨ t = 235 ∨ t = 136 ∨ t = 137) → ¬ (t = 13 ∧ i = 38) → wI w' t k i = wI w t k i := fun t k i hn => hI t k i (fun q => hn (by unfold LtK at q; omega))
  have e3 := cn_cg (w := w) (w' := w') (g 13 0 3 (by omega) (by omega))
  have e17 := cn_cg (w := w) (w' := w') (g 13 0 17 (by omega) (by omega))
  refine ⟨SSh_of (iv_S h) h2, MOk_cg hM (fun t k i ht => g t k i (by omega) (by omega)) (iv_M h), Cp0_cg' (fun t k i ht => g t k i (by omega) (by omega)) (iv_0 h), IvN_cg h2 (g _ _ _ (by omega) (by omega)) (g _ _ _ (by omega) (by omega)) (iv_N h), IvQ_cg h2 (iv_M h).2.2.2.2.1 (fun t k i ht => g t k i (by omega) (by omega)) (iv_Q h), fun j' hj => ?_, IvY_cg (Exw_2 h2) hM (fun t k i ht => g t k i (by omega) (by omega)) (iv_Y h), IvE_cg (Exw_2 h2) (Nat.le_succ c) (fun t k i ht => g t k i (by omega) (by omega)) (iv_E h), IvP_cg (fun t k i ht => g t k i (by omega) (by omega)) (iv_P h), IvW_cg (fun t k i ht => g t k i (by omega) (by omega)) (iv_W h), ⟨okc_up (okc_cg (g _ _ _ (by omega) (by omega)) (iv_T h).1) (by omega), h38⟩, IvK_cg (g _ _ _ (by omega) (by omega)) (fun i => g _ _ _ (by omega) (by omega)) (iv_K h)⟩
  by_cases q : j' = j
  · rw [q]; exact hL
  · exact LtI_cg (Exw_2 h2) (Nat.le_succ c) (by omega) h38' (fun t k i ht => hI t k i (fun z => by unfold LtK at z; omega) (by omega)) (iv_L h (by omega))
