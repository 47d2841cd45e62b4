/-! the loops over all cells -/
section
variable {l : Launch} {G : Gc} {n mc ms cu su : Nat} {Q : Option AV → Wd → Prop} {w : Wd}
theorem lpY_row {g : Gf} {a b t i : Nat} {D : Nat → Nat → Nat} (hl : 2 < n) (hS : SSh w) (h3 : okc w 3 14) (hc : Cp0 w) (ha : a < cn w 3) (hb : b < cn w 3) (hi : i < cn w 3) (ht : t ≤ 30) (hMt : Mtr g (cn w 3) D) (hD : ∀ p q, p < cn w 3 → q < cn w 3 → wI w 173 p q = nI (D p q)) (hk : ∀ l6 l7, WP l G mY_addAlley n mc ms Q 33 [some (.inr (.inr (some (1, 0)))), some (.inl (nI a)), some (.inl (nI b)), some (.inl (nI t)), some (.inl (nI i)), some (.inl (nI (cn w 3))), l6, l7] [] (mxU w (nwE D a b t) (cn w 3) i (cn w 3)) cu su) : ∀ c j l6 l7, j + c = cn w 3 → WP l G mY_addAlley n mc ms Q 33 [some (.inr (.inr (some (1, 0)))), some (.inl (nI a)), some (.inl (nI b)), some (.inl (nI t)), some (.inl (nI i)), some (.inl (nI j)), l6, l7] [] (mxU w (nwE D a b t) (cn w 3) i j) cu su
  | 0, j, l6, l7, hj => by
    have e : j = cn w 3 := hj
    rw [e]
    exact hk l6 l7
  | c + 1, j, l6, l7, hj => by
    have mid := nwE_mid (t := t) (i := i) (j := j) (M := fun p q => if p < i ∨ p = i ∧ q < j then nwE D a b t p q else D p q) hMt ha hb hi (by omega) (fun p q _ _ => by
      have := (nwE_le D a b t p q).1
      by_cases z : p < i ∨ p = i ∧ q < j
      · simp only [if_pos z]; omega
      · simp only [if_neg z]; omega)
    refine stY_cell (M := fun p q => if p < i ∨ p = i ∧ q < j then nwE D a b t p q else D p q) hl (SSh_of hS (mxU_2 _ _ _ _ _)) (mxU_3 h3) (mxU_C0 hc) (by rw [mxU_c]; exact ha) (by rw [mxU_c]; exact hb) (by rw [mxU_c]; exact hi) (by rw [mxU_c]; omega) ht (fun p q hp hq => ?_) (fun l6' l7' => ?_)
    · rw [mxU_c] at hp hq
      have b1 := hMt.2.1 p q hp hq
      have b2 := (nwE_le D a b t p q).1
      rw [mxU_I]
      by_cases z : p < i ∨ p = i ∧ q < j
      · rw [if_pos ⟨rfl, hq, z⟩]; simp only [if_pos z]; exact ⟨trivial, by omega⟩
      · rw [if_neg (fun y => z y.2.2)]; simp only [if_neg z]; exact ⟨hD p q hp hq, by omega⟩
    · rw [mid, mxU_s (by omega)]
      exact lpY_row hl hS h3 hc ha hb hi ht hMt hD hk c (j + 1) l6' l7' (by omega)
end
