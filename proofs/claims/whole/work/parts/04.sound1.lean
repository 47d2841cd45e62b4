/-! instructions that touch no heap: each is what the machine does -/
theorem clS_c {w : Wd} {v : AV} {S : List AV} (h : clV w v) (hS : clS w S) : clS w (v :: S) := fun u hu => by
  rcases List.mem_cons.mp hu with rfl | h1
  · exact h
  · exact hS u h1
theorem clS_t {w : Wd} {v : AV} {S : List AV} (h : clS w (v :: S)) : clS w S := fun u hu => h u (List.mem_cons_of_mem _ hu)
theorem clS_h {w : Wd} {v : AV} {S : List AV} (h : clS w (v :: S)) : clV w v := h v List.mem_cons_self
theorem clL_set {w : Wd} {L : List (Option AV)} {i : Nat} {v : AV} (h : clL w L) (hv : clV w v) : clL w (st1 L i v) := fun j x hx => by
  rw [st1, lg_lset] at hx
  split at hx
  · cases hx; exact hv
  · exact h j x (lg_kil hx).1
theorem clL_set2 {w : Wd} {L : List (Option AV)} {i : Nat} {v : AV} (h : clL w L) (hv : clV w v) : clL w (st2 L i v) := fun j x hx => by
  rw [st2, lg_lset] at hx
  split at hx
  · cases hx
  · rw [lg_lset] at hx
    split at hx
    · cases hx; exact hv
    · exact h j x (lg_kil hx).1
theorem jmp_go {pc : Nat} {off : Int} {K : KT} {L : List (Option AV)} {S : List AV} {w : Wd} {cu su : Nat} (h : jmp pc off K L S w cu su) : ∃ t : Nat, (pc : Int) + off = (t : Int) ∧ K t L S w cu su := ⟨_, (Int.toNat_of_nonneg h.1).symm, h.2⟩
abbrev stW (l : Launch) (G : Gc) (M : MI) (C : CE) (X : XE) (n mc ms : Nat) (Q : Option AV → Wd → Prop) (pc : Nat) (ins : Instr) (L : List (Option AV)) (S : List AV) (w : Wd) (cu su : Nat) : Prop :=
  stp l G M C X n mc ms Q (WP l G M n mc ms Q) (WP l G M n mc ms Q) pc ins L S w cu su
section S1
variable {l : Launch} {G : Gc} {M : MI} {C : CE} {X : XE} {n mc ms : Nat} {Q : Option AV → Wd → Prop} {pc : Nat} {L : List (Option AV)} {S : List AV} {w : Wd} {cu su : Nat}
theorem s_iconst {k : Int} (hd : decode (mB M) pc = .ok (.iconst k, 1)) (hs : stW l G M C X n mc ms Q pc (.iconst k) L S w cu su) : WP l G M n mc ms Q pc L S w cu su := by
  intro p e s m args below meth c Z ad0 w0 hF hc ad H locs ls hR hE hL hl hS ho h1 h2
  obtain ⟨hx, hb, -⟩ := id hF
  simp only [stW, stp] at hs
  exact lv_iconst hx hb hd rfl (hs p e s m args below meth c Z ad0 w0 hF hc ad H locs ls hR hE hL hl (clS_c trivial hS) ho h1 h2)
theorem s_bipush {k : Int} (hd : decode (mB M) pc = .ok (.bipush k, 2)) (hs : stW l G M C X n mc ms Q pc (.bipush k) L S w cu su) : WP l G M n mc ms Q pc L S w cu su := by
  intro p e s m args below meth c Z ad0 w0 hF hc ad H locs ls hR hE hL hl hS ho h1 h2
  obtain ⟨hx, hb, -⟩ := id hF
  simp only [stW, stp] at hs
  exact lv_bipush hx hb hd rfl (hs p e s m args below meth c Z ad0 w0 hF hc ad H locs ls hR hE hL hl (clS_c trivial hS) ho h1 h2)
theorem s_sipush {k : Int} (hd : decode (mB M) pc = .ok (.sipush k, 3)) (hs : stW l G M C X n mc ms Q pc (.sipush k) L S w cu su) : WP l G M n mc ms Q pc L S w cu su := by
  intro p e s m args below meth c Z ad0 w0 hF hc ad H locs ls hR hE hL hl hS ho h1 h2
  obtain ⟨hx, hb, -⟩ := id hF
  simp only [stW, stp] at hs
  exact lv_sipush hx hb hd rfl (hs p e s m args below meth c Z ad0 w0 hF hc ad H locs ls hR hE hL hl (clS_c trivial hS) ho h1 h2)
theorem s_lconst {k : Fin 2} (hd : decode (mB M) pc = .ok (.lconst k, 1)) (hs : stW l G M C X n mc ms Q pc (.lconst k) L S w cu su) : WP l G M n mc ms Q pc L S w cu su := by
  intro p e s m args below meth c Z ad0 w0 hF hc ad H locs ls hR hE hL hl hS ho h1 h2
  obtain ⟨hx, hb, -⟩ := id hF
  simp only [stW, stp] at hs
  exact lv_lconst hx hb hd rfl (hs p e s m args below meth c Z ad0 w0 hF hc ad H locs ls hR hE hL hl (clS_c trivial hS) ho h1 h2)
theorem s_null (hd : decode (mB M) pc = .ok (.aconst_null, 1)) (hs : stW l G M C X n mc ms Q pc (.aconst_null) L S w cu su) : WP l G M n mc ms Q pc L S w cu su := by
  intro p e s m args below meth c Z ad0 w0 hF hc ad H locs ls hR hE hL hl hS ho h1 h2
  obtain ⟨hx, hb, -⟩ := id hF
  simp only [stW, stp] at hs
  exact lv_null hx hb hd (hs p e s m args below meth c Z ad0 w0 hF hc ad H locs ls hR hE hL hl (clS_c trivial hS) ho h1 h2)
theorem s_iload {i : Nat} (hd : decode (mB M) pc = .ok (.iload i, 2)) (hs : stW l G M C X n mc ms Q pc (.iload i) L S w cu su) : WP l G M n mc ms Q pc L S w cu su := by
  intro p e s m args below meth c Z ad0 w0 hF hc ad H locs ls hR hE hL hl hS ho h1 h2
  obtain ⟨hx, hb, -⟩ := id hF
  simp only [stW, stp] at hs
  split at hs
  · rename_i x hg
    exact lv_iload hx hb hd (hL.2.2.2 _ _ hg) (hs p e s m args below meth c Z ad0 w0 hF hc ad H locs ls hR hE hL hl (clS_c trivial hS) ho h1 h2)
  · exact hs.elim
theorem s_iload_n {i : Fin 4} (hd : decode (mB M) pc = .ok (.iload_n i, 1)) (hs : stW l G M C X n mc ms Q pc (.iload_n i) L S w cu su) : WP l G M n mc ms Q pc L S w cu su := by
  intro p e s m args below meth c Z ad0 w0 hF hc ad H locs ls hR hE hL hl hS ho h1 h2
  obtain ⟨hx, hb, -⟩ := id hF
  simp only [stW, stp] at hs
  split at hs
  · rename_i x hg
    exact lv_iload_n hx hb hd rfl (hL.2.2.2 _ _ hg) (hs p e s m args below meth c Z ad0 w0 hF hc ad H locs ls hR hE hL hl (clS_c trivial hS) ho h1 h2)
  · exact hs.elim
theorem s_lload {i : Nat} (hd : decode (mB M) pc = .ok (.lload i, 2)) (hs : stW l G M C X n mc ms Q pc (.lload i) L S w cu su) : WP l G M n mc ms Q pc L S w cu su := by
  intro p e s m args below meth c Z ad0 w0 hF hc ad H locs ls hR hE hL hl hS ho h1 h2
  obtain ⟨hx, hb, -⟩ := id hF
  simp only [stW, stp] at hs
  split at hs
  · rename_i x hg
    exact lv_lload hx hb hd (hL.2.2.2 _ _ hg) (hs p e s m args below meth c Z ad0 w0 hF hc ad H locs ls hR hE hL hl (clS_c trivial hS) ho h1 h2)
  · exact hs.elim
theorem s_lload_n {i : Fin 4} (hd : decode (mB M) pc = .ok (.lload_n i, 1)) (hs : stW l G M C X n mc ms Q pc (.lload_n i) L S w cu su) : WP l G M n mc ms Q pc L S w cu su := by
  intro p e s m args below meth c Z ad0 w0 hF hc ad H locs ls hR hE hL hl hS ho h1 h2
  obtain ⟨hx, hb, -⟩ := id hF
  simp only [stW, stp] at hs
  split at hs
  · rename_i x hg
    exact lv_lload_n hx hb hd rfl (hL.2.2.2 _ _ hg) (hs p e s m args below meth c Z ad0 w0 hF hc ad H locs ls hR hE hL hl (clS_c trivial hS) ho h1 h2)
  · exact hs.elim
theorem s_aload {i : Nat} (hd : decode (mB M) pc = .ok (.aload i, 2)) (hs : stW l G M C X n mc ms Q pc (.aload i) L S w cu su) : WP l G M n mc ms Q pc L S w cu su := by
  intro p e s m args below meth c Z ad0 w0 hF hc ad H locs ls hR hE hL hl hS ho h1 h2
  obtain ⟨hx, hb, -⟩ := id hF
  simp only [stW, stp] at hs
  split at hs
  · rename_i x hg
    have hv := hl _ _ hg
    have hq := hL.2.2.2 _ _ hg
    cases x with
    | none => exact lv_aloadN hx hb hd hq (hs p e s m args below meth c Z ad0 w0 hF hc ad H locs ls hR hE hL hl (clS_c trivial hS) ho h1 h2)
    | some q => exact lv_aload hx hb hd hq (hs p e s m args below meth c Z ad0 w0 hF hc ad H locs ls hR hE hL hl (clS_c hv hS) ho h1 h2)
  · exact hs.elim
theorem s_istore {i : Nat} (hd : decode (mB M) pc = .ok (.istore i, 2)) (hs : stW l G M C X n mc ms Q pc (.istore i) L S w cu su) : WP l G M n mc ms Q pc L S w cu su := by
  intro p e s m args below meth c Z ad0 w0 hF hc ad H locs ls hR hE hL hl hS ho h1 h2
  obtain ⟨hx, hb, -⟩ := id hF
  simp only [stW, stp] at hs
  split at hs
  · rename_i x S2
    exact lv_istore hx hb hd hL.has (by rw [← hL.2.1]; exact hs.1) rfl (fun ls2 h3 => (hs.2 p e s m args below meth c Z ad0 w0 hF hc ad H locs ls2 hR hE (lsr_st1 hL h3) (clL_set hl trivial) (clS_t hS) ho h1 h2))
  · exact hs.elim
theorem s_lstore {i : Nat} (hd : decode (mB M) pc = .ok (.lstore i, 2)) (hs : stW l G M C X n mc ms Q pc (.lstore i) L S w cu su) : WP l G M n mc ms Q pc L S w cu su := by
  intro p e s m args below meth c Z ad0 w0 hF hc ad H locs ls hR hE hL hl hS ho h1 h2
  obtain ⟨hx, hb, -⟩ := id hF
  simp only [stW, stp] at hs
  split at hs
  · rename_i x S2
    exact lv_lstore hx hb hd hL.has (by rw [← hL.2.1]; exact hs.1) rfl (fun ls2 h3 => (hs.2 p e s m args below meth c Z ad0 w0 hF hc ad H locs ls2 hR hE (lsr_st2 hL h3) (clL_set2 hl trivial) (clS_t hS) ho h1 h2))
  · exact hs.elim
theorem s_astore {i : Nat} (hd : decode (mB M) pc = .ok (.astore i, 2)) (hs : stW l G M C X n mc ms Q pc (.astore i) L S w cu su) : WP l G M n mc ms Q pc L S w cu su := by
  intro p e s m args below meth c Z ad0 w0 hF hc ad H locs ls hR hE hL hl hS ho h1 h2
  obtain ⟨hx, hb, -⟩ := id hF
  simp only [stW, stp] at hs
  split at hs
  · rename_i x S2
    cases x with
    | none => exact lv_astoreN hx hb hd hL.has (by rw [← hL.2.1]; exact hs.1) rfl (fun ls2 h3 => (hs.2 p e s m args below meth c Z ad0 w0 hF hc ad H locs ls2 hR hE (lsr_st1 hL h3) (clL_set hl (clS_h hS)) (clS_t hS) ho h1 h2))
    | some q => exact lv_astore hx hb hd hL.has (by rw [← hL.2.1]; exact hs.1) rfl (fun ls2 h3 => (hs.2 p e s m args below meth c Z ad0 w0 hF hc ad H locs ls2 hR hE (lsr_st1 hL h3) (clL_set hl (clS_h hS)) (clS_t hS) ho h1 h2))
  · exact hs.elim
theorem s_aload_n {i : Fin 4} (hd : decode (mB M) pc = .ok (.aload_n i, 1)) (hs : stW l G M C X n mc ms Q pc (.aload_n i) L S w cu su) : WP l G M n mc ms Q pc L S w cu su := by
  intro p e s m args below meth c Z ad0 w0 hF hc ad H locs ls hR hE hL hl hS ho h1 h2
  obtain ⟨hx, hb, -⟩ := id hF
  simp only [stW, stp] at hs
  split at hs
  · rename_i x hg
    have hv := hl _ _ hg
    have hq := hL.2.2.2 _ _ hg
    cases x with
    | none => exact lv_aload_nN hx hb hd rfl hq (hs p e s m args below meth c Z ad0 w0 hF hc ad H locs ls hR hE hL hl (clS_c trivial hS) ho h1 h2)
    | some q => exact lv_aload_n hx hb hd rfl hq (hs p e s m args below meth c Z ad0 w0 hF hc ad H locs ls hR hE hL hl (clS_c hv hS) ho h1 h2)
  · exact hs.elim
theorem s_istore_n {i : Fin 4} (hd : decode (mB M) pc = .ok (.istore_n i, 1)) (hs : stW l G M C X n mc ms Q pc (.istore_n i) L S w cu su) : WP l G M n mc ms Q pc L S w cu su := by
  intro p e s m args below meth c Z ad0 w0 hF hc ad H locs ls hR hE hL hl hS ho h1 h2
  obtain ⟨hx, hb, -⟩ := id hF
  simp only [stW, stp] at hs
  split at hs
  · rename_i x S2
    exact lv_istore_n hx hb hd rfl hL.has (by rw [← hL.2.1]; exact hs.1) rfl (fun ls2 h3 => (hs.2 p e s m args below meth c Z ad0 w0 hF hc ad H locs ls2 hR hE (lsr_st1 hL h3) (clL_set hl trivial) (clS_t hS) ho h1 h2))
  · exact hs.elim
theorem s_lstore_n {i : Fin 4} (hd : decode (mB M) pc = .ok (.lstore_n i, 1)) (hs : stW l G M C X n mc ms Q pc (.lstore_n i) L S w cu su) : WP l G M n mc ms Q pc L S w cu su := by
  intro p e s m args below meth c Z ad0 w0 hF hc ad H locs ls hR hE hL hl hS ho h1 h2
  obtain ⟨hx, hb, -⟩ := id hF
  simp only [stW, stp] at hs
  split at hs
  · rename_i x S2
    exact lv_lstore_n hx hb hd rfl hL.has (by rw [← hL.2.1]; exact hs.1) rfl (fun ls2 h3 => (hs.2 p e s m args below meth c Z ad0 w0 hF hc ad H locs ls2 hR hE (lsr_st2 hL h3) (clL_set2 hl trivial) (clS_t hS) ho h1 h2))
  · exact hs.elim
theorem s_astore_n {i : Fin 4} (hd : decode (mB M) pc = .ok (.astore_n i, 1)) (hs : stW l G M C X n mc ms Q pc (.astore_n i) L S w cu su) : WP l G M n mc ms Q pc L S w cu su := by
  intro p e s m args below meth c Z ad0 w0 hF hc ad H locs ls hR hE hL hl hS ho h1 h2
  obtain ⟨hx, hb, -⟩ := id hF
  simp only [stW, stp] at hs
  split at hs
  · rename_i x S2
    cases x with
    | none => exact lv_astore_nN hx hb hd rfl hL.has (by rw [← hL.2.1]; exact hs.1) rfl (fun ls2 h3 => (hs.2 p e s m args below meth c Z ad0 w0 hF hc ad H locs ls2 hR hE (lsr_st1 hL h3) (clL_set hl (clS_h hS)) (clS_t hS) ho h1 h2))
    | some q => exact lv_astore_n hx hb hd rfl hL.has (by rw [← hL.2.1]; exact hs.1) rfl (fun ls2 h3 => (hs.2 p e s m args below meth c Z ad0 w0 hF hc ad H locs ls2 hR hE (lsr_st1 hL h3) (clL_set hl (clS_h hS)) (clS_t hS) ho h1 h2))
  · exact hs.elim
theorem s_iinc {i : Nat} {k : Int} (hd : decode (mB M) pc = .ok (.iinc i k, 3)) (hs : stW l G M C X n mc ms Q pc (.iinc i k) L S w cu su) : WP l G M n mc ms Q pc L S w cu su := by
  intro p e s m args below meth c Z ad0 w0 hF hc ad H locs ls hR hE hL hl hS ho h1 h2
  obtain ⟨hx, hb, -⟩ := id hF
  simp only [stW, stp] at hs
  split at hs
  · rename_i x hg
    obtain ⟨kk, hkk⟩ := List.getElem?_of_mem (lpr_mem (ad := ad).mpr ⟨_, hg, rfl⟩)
    exact lv_iinc hx hb hd hL.has hkk rfl (by rw [← hL.2.1]; exact hs.1) rfl (fun ls2 h3 => (hs.2 p e s m args below meth c Z ad0 w0 hF hc ad H locs ls2 hR hE (lsr_st1 hL h3) (clL_set hl trivial) hS ho h1 h2))
  · exact hs.elim
theorem s_iadd (hd : decode (mB M) pc = .ok (.iadd, 1)) (hs : stW l G M C X n mc ms Q pc (.iadd) L S w cu su) : WP l G M n mc ms Q pc L S w cu su := by
  intro p e s m args below meth c Z ad0 w0 hF hc ad H locs ls hR hE hL hl hS ho h1 h2
  obtain ⟨hx, hb, -⟩ := id hF
  simp only [stW, stp] at hs
  split at hs
  · exact lv_iadd hx hb hd (hs p e s m args below meth c Z ad0 w0 hF hc ad H locs ls hR hE hL hl (clS_c trivial (clS_t (clS_t hS))) ho h1 h2)
  · exact hs.elim
theorem s_isub (hd : decode (mB M) pc = .ok (.isub, 1)) (hs : stW l G M C X n mc ms Q pc (.isub) L S w cu su) : WP l G M n mc ms Q pc L S w cu su := by
  intro p e s m args below meth c Z ad0 w0 hF hc ad H locs ls hR hE hL hl hS ho h1 h2
  obtain ⟨hx, hb, -⟩ := id hF
  simp only [stW, stp] at hs
  split at hs
  · exact lv_isub hx hb hd (hs p e s m args below meth c Z ad0 w0 hF hc ad H locs ls hR hE hL hl (clS_c trivial (clS_t (clS_t hS))) ho h1 h2)
  · exact hs.elim
theorem s_imul (hd : decode (mB M) pc = .ok (.imul, 1)) (hs : stW l G M C X n mc ms Q pc (.imul) L S w cu su) : WP l G M n mc ms Q pc L S w cu su := by
  intro p e s m args below meth c Z ad0 w0 hF hc ad H locs ls hR hE hL hl hS ho h1 h2
  obtain ⟨hx, hb, -⟩ := id hF
  simp only [stW, stp] at hs
  split at hs
  · exact lv_imul hx hb hd (hs p e s m args below meth c Z ad0 w0 hF hc ad H locs ls hR hE hL hl (clS_c trivial (clS_t (clS_t hS))) ho h1 h2)
  · exact hs.elim
theorem s_iand (hd : decode (mB M) pc = .ok (.iand, 1)) (hs : stW l G M C X n mc ms Q pc (.iand) L S w cu su) : WP l G M n mc ms Q pc L S w cu su := by
  intro p e s m args below meth c Z ad0 w0 hF hc ad H locs ls hR hE hL hl hS ho h1 h2
  obtain ⟨hx, hb, -⟩ := id hF
  simp only [stW, stp] at hs
  split at hs
  · exact lv_iand hx hb hd (hs p e s m args below meth c Z ad0 w0 hF hc ad H locs ls hR hE hL hl (clS_c trivial (clS_t (clS_t hS))) ho h1 h2)
  · exact hs.elim
theorem s_ior (hd : decode (mB M) pc = .ok (.ior, 1)) (hs : stW l G M C X n mc ms Q pc (.ior) L S w cu su) : WP l G M n mc ms Q pc L S w cu su := by
  intro p e s m args below meth c Z ad0 w0 hF hc ad H locs ls hR hE hL hl hS ho h1 h2
  obtain ⟨hx, hb, -⟩ := id hF
  simp only [stW, stp] at hs
  split at hs
  · exact lv_ior hx hb hd (hs p e s m args below meth c Z ad0 w0 hF hc ad H locs ls hR hE hL hl (clS_c trivial (clS_t (clS_t hS))) ho h1 h2)
  · exact hs.elim
theorem s_ixor (hd : decode (mB M) pc = .ok (.ixor, 1)) (hs : stW l G M C X n mc ms Q pc (.ixor) L S w cu su) : WP l G M n mc ms Q pc L S w cu su := by
  intro p e s m args below meth c Z ad0 w0 hF hc ad H locs ls hR hE hL hl hS ho h1 h2
  obtain ⟨hx, hb, -⟩ := id hF
  simp only [stW, stp] at hs
  split at hs
  · exact lv_ixor hx hb hd (hs p e s m args below meth c Z ad0 w0 hF hc ad H locs ls hR hE hL hl (clS_c trivial (clS_t (clS_t hS))) ho h1 h2)
  · exact hs.elim
theorem s_ishl (hd : decode (mB M) pc = .ok (.ishl, 1)) (hs : stW l G M C X n mc ms Q pc (.ishl) L S w cu su) : WP l G M n mc ms Q pc L S w cu su := by
  intro p e s m args below meth c Z ad0 w0 hF hc ad H locs ls hR hE hL hl hS ho h1 h2
  obtain ⟨hx, hb, -⟩ := id hF
  simp only [stW, stp] at hs
  split at hs
  · exact lv_ishl hx hb hd (hs p e s m args below meth c Z ad0 w0 hF hc ad H locs ls hR hE hL hl (clS_c trivial (clS_t (clS_t hS))) ho h1 h2)
  · exact hs.elim
theorem s_ishr (hd : decode (mB M) pc = .ok (.ishr, 1)) (hs : stW l G M C X n mc ms Q pc (.ishr) L S w cu su) : WP l G M n mc ms Q pc L S w cu su := by
  intro p e s m args below meth c Z ad0 w0 hF hc ad H locs ls hR hE hL hl hS ho h1 h2
  obtain ⟨hx, hb, -⟩ := id hF
  simp only [stW, stp] at hs
  split at hs
  · exact lv_ishr hx hb hd (hs p e s m args below meth c Z ad0 w0 hF hc ad H locs ls hR hE hL hl (clS_c trivial (clS_t (clS_t hS))) ho h1 h2)
  · exact hs.elim
theorem s_ladd (hd : decode (mB M) pc = .ok (.ladd, 1)) (hs : stW l G M C X n mc ms Q pc (.ladd) L S w cu su) : WP l G M n mc ms Q pc L S w cu su := by
  intro p e s m args below meth c Z ad0 w0 hF hc ad H locs ls hR hE hL hl hS ho h1 h2
  obtain ⟨hx, hb, -⟩ := id hF
  simp only [stW, stp] at hs
  split at hs
  · exact lv_ladd hx hb hd (hs p e s m args below meth c Z ad0 w0 hF hc ad H locs ls hR hE hL hl (clS_c trivial (clS_t (clS_t hS))) ho h1 h2)
  · exact hs.elim
theorem s_lmul (hd : decode (mB M) pc = .ok (.lmul, 1)) (hs : stW l G M C X n mc ms Q pc (.lmul) L S w cu su) : WP l G M n mc ms Q pc L S w cu su := by
  intro p e s m args below meth c Z ad0 w0 hF hc ad H locs ls hR hE hL hl hS ho h1 h2
  obtain ⟨hx, hb, -⟩ := id hF
  simp only [stW, stp] at hs
  split at hs
  · exact lv_lmul hx hb hd (hs p e s m args below meth c Z ad0 w0 hF hc ad H locs ls hR hE hL hl (clS_c trivial (clS_t (clS_t hS))) ho h1 h2)
  · exact hs.elim
theorem s_land (hd : decode (mB M) pc = .ok (.land, 1)) (hs : stW l G M C X n mc ms Q pc (.land) L S w cu su) : WP l G M n mc ms Q pc L S w cu su := by
  intro p e s m args below meth c Z ad0 w0 hF hc ad H locs ls hR hE hL hl hS ho h1 h2
  obtain ⟨hx, hb, -⟩ := id hF
  simp only [stW, stp] at hs
  split at hs
  · exact lv_land hx hb hd (hs p e s m args below meth c Z ad0 w0 hF hc ad H locs ls hR hE hL hl (clS_c trivial (clS_t (clS_t hS))) ho h1 h2)
  · exact hs.elim
theorem s_lcmp (hd : decode (mB M) pc = .ok (.lcmp, 1)) (hs : stW l G M C X n mc ms Q pc (.lcmp) L S w cu su) : WP l G M n mc ms Q pc L S w cu su := by
  intro p e s m args below meth c Z ad0 w0 hF hc ad H locs ls hR hE hL hl hS ho h1 h2
  obtain ⟨hx, hb, -⟩ := id hF
  simp only [stW, stp] at hs
  split at hs
  · exact W.lcmp hx hb hd (hs p e s m args below meth c Z ad0 w0 hF hc ad H locs ls hR hE hL hl (clS_c trivial (clS_t (clS_t hS))) ho h1 h2)
  · exact hs.elim
theorem s_iushr (hd : decode (mB M) pc = .ok (.iushr, 1)) (hs : stW l G M C X n mc ms Q pc (.iushr) L S w cu su) : WP l G M n mc ms Q pc L S w cu su := by
  intro p e s m args below meth c Z ad0 w0 hF hc ad H locs ls hR hE hL hl hS ho h1 h2
  obtain ⟨hx, hb, -⟩ := id hF
  simp only [stW, stp] at hs
  split at hs
  · exact lv_iushr hx hb hd rfl (hs p e s m args below meth c Z ad0 w0 hF hc ad H locs ls hR hE hL hl (clS_c trivial (clS_t (clS_t hS))) ho h1 h2)
  · exact hs.elim
theorem s_lshr (hd : decode (mB M) pc = .ok (.lshr, 1)) (hs : stW l G M C X n mc ms Q pc (.lshr) L S w cu su) : WP l G M n mc ms Q pc L S w cu su := by
  intro p e s m args below meth c Z ad0 w0 hF hc ad H locs ls hR hE hL hl hS ho h1 h2
  obtain ⟨hx, hb, -⟩ := id hF
  simp only [stW, stp] at hs
  split at hs
  · exact lv_lshr hx hb hd rfl (hs p e s m args below meth c Z ad0 w0 hF hc ad H locs ls hR hE hL hl (clS_c trivial (clS_t (clS_t hS))) ho h1 h2)
  · exact hs.elim
theorem s_idiv (hd : decode (mB M) pc = .ok (.idiv, 1)) (hs : stW l G M C X n mc ms Q pc (.idiv) L S w cu su) : WP l G M n mc ms Q pc L S w cu su := by
  intro p e s m args below meth c Z ad0 w0 hF hc ad H locs ls hR hE hL hl hS ho h1 h2
  obtain ⟨hx, hb, -⟩ := id hF
  simp only [stW, stp] at hs
  split at hs
  · exact lv_idiv hx hb hd hs.1 (hs.2 p e s m args below meth c Z ad0 w0 hF hc ad H locs ls hR hE hL hl (clS_c trivial (clS_t (clS_t hS))) ho h1 h2)
  · exact hs.elim
theorem s_irem (hd : decode (mB M) pc = .ok (.irem, 1)) (hs : stW l G M C X n mc ms Q pc (.irem) L S w cu su) : WP l G M n mc ms Q pc L S w cu su := by
  intro p e s m args below meth c Z ad0 w0 hF hc ad H locs ls hR hE hL hl hS ho h1 h2
  obtain ⟨hx, hb, -⟩ := id hF
  simp only [stW, stp] at hs
  split at hs
  · exact lv_irem hx hb hd hs.1 (hs.2 p e s m args below meth c Z ad0 w0 hF hc ad H locs ls hR hE hL hl (clS_c trivial (clS_t (clS_t hS))) ho h1 h2)
  · exact hs.elim
theorem s_ldiv (hd : decode (mB M) pc = .ok (.ldiv, 1)) (hs : stW l G M C X n mc ms Q pc (.ldiv) L S w cu su) : WP l G M n mc ms Q pc L S w cu su := by
  intro p e s m args below meth c Z ad0 w0 hF hc ad H locs ls hR hE hL hl hS ho h1 h2
  obtain ⟨hx, hb, -⟩ := id hF
  simp only [stW, stp] at hs
  split at hs
  · exact lv_ldiv hx hb hd hs.1 (hs.2 p e s m args below meth c Z ad0 w0 hF hc ad H locs ls hR hE hL hl (clS_c trivial (clS_t (clS_t hS))) ho h1 h2)
  · exact hs.elim
theorem s_ineg (hd : decode (mB M) pc = .ok (.ineg, 1)) (hs : stW l G M C X n mc ms Q pc (.ineg) L S w cu su) : WP l G M n mc ms Q pc L S w cu su := by
  intro p e s m args below meth c Z ad0 w0 hF hc ad H locs ls hR hE hL hl hS ho h1 h2
  obtain ⟨hx, hb, -⟩ := id hF
  simp only [stW, stp] at hs
  split at hs
  · exact lv_ineg hx hb hd (hs p e s m args below meth c Z ad0 w0 hF hc ad H locs ls hR hE hL hl (clS_c trivial (clS_t hS)) ho h1 h2)
  · exact hs.elim
theorem s_i2l (hd : decode (mB M) pc = .ok (.i2l, 1)) (hs : stW l G M C X n mc ms Q pc (.i2l) L S w cu su) : WP l G M n mc ms Q pc L S w cu su := by
  intro p e s m args below meth c Z ad0 w0 hF hc ad H locs ls hR hE hL hl hS ho h1 h2
  obtain ⟨hx, hb, -⟩ := id hF
  simp only [stW, stp] at hs
  split at hs
  · exact lv_i2l hx hb hd rfl (hs p e s m args below meth c Z ad0 w0 hF hc ad H locs ls hR hE hL hl (clS_c trivial (clS_t hS)) ho h1 h2)
  · exact hs.elim
theorem s_l2i (hd : decode (mB M) pc = .ok (.l2i, 1)) (hs : stW l G M C X n mc ms Q pc (.l2i) L S w cu su) : WP l G M n mc ms Q pc L S w cu su := by
  intro p e s m args below meth c Z ad0 w0 hF hc ad H locs ls hR hE hL hl hS ho h1 h2
  obtain ⟨hx, hb, -⟩ := id hF
  simp only [stW, stp] at hs
  split at hs
  · exact lv_l2i hx hb hd rfl (hs p e s m args below meth c Z ad0 w0 hF hc ad H locs ls hR hE hL hl (clS_c trivial (clS_t hS)) ho h1 h2)
  · exact hs.elim
theorem s_dup (hd : decode (mB M) pc = .ok (.dup, 1)) (hs : stW l G M C X n mc ms Q pc (.dup) L S w cu su) : WP l G M n mc ms Q pc L S w cu su := by
  intro p e s m args below meth c Z ad0 w0 hF hc ad H locs ls hR hE hL hl hS ho h1 h2
  obtain ⟨hx, hb, -⟩ := id hF
  simp only [stW, stp] at hs
  split at hs
  · exact lv_dup hx hb hd (by rw [cat_ren, hs.1]; rfl) (hs.2 p e s m args below meth c Z ad0 w0 hF hc ad H locs ls hR hE hL hl (clS_c (clS_h hS) hS) ho h1 h2)
  · exact hs.elim
theorem s_pop (hd : decode (mB M) pc = .ok (.pop, 1)) (hs : stW l G M C X n mc ms Q pc (.pop) L S w cu su) : WP l G M n mc ms Q pc L S w cu su := by
  intro p e s m args below meth c Z ad0 w0 hF hc ad H locs ls hR hE hL hl hS ho h1 h2
  obtain ⟨hx, hb, -⟩ := id hF
  simp only [stW, stp] at hs
  split at hs
  · exact lv_pop hx hb hd (by rw [cat_ren, hs.1]; rfl) (hs.2 p e s m args below meth c Z ad0 w0 hF hc ad H locs ls hR hE hL hl (clS_t hS) ho h1 h2)
  · exact hs.elim
theorem s_dup_x1 (hd : decode (mB M) pc = .ok (.dup_x1, 1)) (hs : stW l G M C X n mc ms Q pc (.dup_x1) L S w cu su) : WP l G M n mc ms Q pc L S w cu su := by
  intro p e s m args below meth c Z ad0 w0 hF hc ad H locs ls hR hE hL hl hS ho h1 h2
  obtain ⟨hx, hb, -⟩ := id hF
  simp only [stW, stp] at hs
  split at hs
  · exact lv_dup_x1 hx hb hd (by rw [cat_ren, hs.1]; rfl) (by rw [cat_ren, hs.2.1]; rfl) (hs.2.2 p e s m args below meth c Z ad0 w0 hF hc ad H locs ls hR hE hL hl (clS_c (clS_h hS) (clS_c (clS_h (clS_t hS)) (clS_c (clS_h hS) (clS_t (clS_t hS))))) ho h1 h2)
  · exact hs.elim
theorem s_dup2 (hd : decode (mB M) pc = .ok (.dup2, 1)) (hs : stW l G M C X n mc ms Q pc (.dup2) L S w cu su) : WP l G M n mc ms Q pc L S w cu su := by
  intro p e s m args below meth c Z ad0 w0 hF hc ad H locs ls hR hE hL hl hS ho h1 h2
  obtain ⟨hx, hb, -⟩ := id hF
  simp only [stW, stp] at hs
  split at hs
  · exact lv_dup2_11 hx hb hd (by rw [cat_ren, hs.1]; rfl) (by rw [cat_ren, hs.2.1]; rfl) (hs.2.2 p e s m args below meth c Z ad0 w0 hF hc ad H locs ls hR hE hL hl (clS_c (clS_h hS) (clS_c (clS_h (clS_t hS)) hS)) ho h1 h2)
  · exact hs.elim
theorem s_if_eq {off : Int} (hd : decode (mB M) pc = .ok (.ifCond .eq off, 3)) (hs : stW l G M C X n mc ms Q pc (.ifCond .eq off) L S w cu su) : WP l G M n mc ms Q pc L S w cu su := by
  intro p e s m args below meth c Z ad0 w0 hF hc ad H locs ls hR hE hL hl hS ho h1 h2
  obtain ⟨hx, hb, -⟩ := id hF
  simp only [stW, stp] at hs
  split at hs
  · rename_i x S2
    exact lv_if_eq hx hb hd (Int.toNat_of_nonneg hs.1).symm (fun z => ((hs.2.1 z) p e s m args below meth c Z ad0 w0 hF hc ad H locs ls hR hE hL hl (clS_t hS) ho h1 h2)) (fun z => ((hs.2.2 z) p e s m args below meth c Z ad0 w0 hF hc ad H locs ls hR hE hL hl (clS_t hS) ho h1 h2))
  · exact hs.elim
theorem s_icmp_eq {off : Int} (hd : decode (mB M) pc = .ok (.if_icmp .eq off, 3)) (hs : stW l G M C X n mc ms Q pc (.if_icmp .eq off) L S w cu su) : WP l G M n mc ms Q pc L S w cu su := by
  intro p e s m args below meth c Z ad0 w0 hF hc ad H locs ls hR hE hL hl hS ho h1 h2
  obtain ⟨hx, hb, -⟩ := id hF
  simp only [stW, stp] at hs
  split at hs
  · rename_i y x S2
    exact lv_icmp_eq hx hb hd (Int.toNat_of_nonneg hs.1).symm (fun z => ((hs.2.1 z) p e s m args below meth c Z ad0 w0 hF hc ad H locs ls hR hE hL hl (clS_t (clS_t hS)) ho h1 h2)) (fun z => ((hs.2.2 z) p e s m args below meth c Z ad0 w0 hF hc ad H locs ls hR hE hL hl (clS_t (clS_t hS)) ho h1 h2))
  · exact hs.elim
theorem s_if_ne {off : Int} (hd : decode (mB M) pc = .ok (.ifCond .ne off, 3)) (hs : stW l G M C X n mc ms Q pc (.ifCond .ne off) L S w cu su) : WP l G M n mc ms Q pc L S w cu su := by
  intro p e s m args below meth c Z ad0 w0 hF hc ad H locs ls hR hE hL hl hS ho h1 h2
  obtain ⟨hx, hb, -⟩ := id hF
  simp only [stW, stp] at hs
  split at hs
  · rename_i x S2
    exact lv_if_ne hx hb hd (Int.toNat_of_nonneg hs.1).symm (fun z => ((hs.2.1 z) p e s m args below meth c Z ad0 w0 hF hc ad H locs ls hR hE hL hl (clS_t hS) ho h1 h2)) (fun z => ((hs.2.2 z) p e s m args below meth c Z ad0 w0 hF hc ad H locs ls hR hE hL hl (clS_t hS) ho h1 h2))
  · exact hs.elim
theorem s_icmp_ne {off : Int} (hd : decode (mB M) pc = .ok (.if_icmp .ne off, 3)) (hs : stW l G M C X n mc ms Q pc (.if_icmp .ne off) L S w cu su) : WP l G M n mc ms Q pc L S w cu su := by
  intro p e s m args below meth c Z ad0 w0 hF hc ad H locs ls hR hE hL hl hS ho h1 h2
  obtain ⟨hx, hb, -⟩ := id hF
  simp only [stW, stp] at hs
  split at hs
  · rename_i y x S2
    exact lv_icmp_ne hx hb hd (Int.toNat_of_nonneg hs.1).symm (fun z => ((hs.2.1 z) p e s m args below meth c Z ad0 w0 hF hc ad H locs ls hR hE hL hl (clS_t (clS_t hS)) ho h1 h2)) (fun z => ((hs.2.2 z) p e s m args below meth c Z ad0 w0 hF hc ad H locs ls hR hE hL hl (clS_t (clS_t hS)) ho h1 h2))
  · exact hs.elim
theorem s_if_lt {off : Int} (hd : decode (mB M) pc = .ok (.ifCond .lt off, 3)) (hs : stW l G M C X n mc ms Q pc (.ifCond .lt off) L S w cu su) : WP l G M n mc ms Q pc L S w cu su := by
  intro p e s m args below meth c Z ad0 w0 hF hc ad H locs ls hR hE hL hl hS ho h1 h2
  obtain ⟨hx, hb, -⟩ := id hF
  simp only [stW, stp] at hs
  split at hs
  · rename_i x S2
    exact lv_if_lt hx hb hd (Int.toNat_of_nonneg hs.1).symm (fun z => ((hs.2.1 z) p e s m args below meth c Z ad0 w0 hF hc ad H locs ls hR hE hL hl (clS_t hS) ho h1 h2)) (fun z => ((hs.2.2 z) p e s m args below meth c Z ad0 w0 hF hc ad H locs ls hR hE hL hl (clS_t hS) ho h1 h2))
  · exact hs.elim
theorem s_icmp_lt {off : Int} (hd : decode (mB M) pc = .ok (.if_icmp .lt off, 3)) (hs : stW l G M C X n mc ms Q pc (.if_icmp .lt off) L S w cu su) : WP l G M n mc ms Q pc L S w cu su := by
  intro p e s m args below meth c Z ad0 w0 hF hc ad H locs ls hR hE hL hl hS ho h1 h2
  obtain ⟨hx, hb, -⟩ := id hF
  simp only [stW, stp] at hs
  split at hs
  · rename_i y x S2
    exact lv_icmp_lt hx hb hd (Int.toNat_of_nonneg hs.1).symm (fun z => ((hs.2.1 z) p e s m args below meth c Z ad0 w0 hF hc ad H locs ls hR hE hL hl (clS_t (clS_t hS)) ho h1 h2)) (fun z => ((hs.2.2 z) p e s m args below meth c Z ad0 w0 hF hc ad H locs ls hR hE hL hl (clS_t (clS_t hS)) ho h1 h2))
  · exact hs.elim
theorem s_if_ge {off : Int} (hd : decode (mB M) pc = .ok (.ifCond .ge off, 3)) (hs : stW l G M C X n mc ms Q pc (.ifCond .ge off) L S w cu su) : WP l G M n mc ms Q pc L S w cu su := by
  intro p e s m args below meth c Z ad0 w0 hF hc ad H locs ls hR hE hL hl hS ho h1 h2
  obtain ⟨hx, hb, -⟩ := id hF
  simp only [stW, stp] at hs
  split at hs
  · rename_i x S2
    exact lv_if_ge hx hb hd (Int.toNat_of_nonneg hs.1).symm (fun z => ((hs.2.1 z) p e s m args below meth c Z ad0 w0 hF hc ad H locs ls hR hE hL hl (clS_t hS) ho h1 h2)) (fun z => ((hs.2.2 z) p e s m args below meth c Z ad0 w0 hF hc ad H locs ls hR hE hL hl (clS_t hS) ho h1 h2))
  · exact hs.elim
theorem s_icmp_ge {off : Int} (hd : decode (mB M) pc = .ok (.if_icmp .ge off, 3)) (hs : stW l G M C X n mc ms Q pc (.if_icmp .ge off) L S w cu su) : WP l G M n mc ms Q pc L S w cu su := by
  intro p e s m args below meth c Z ad0 w0 hF hc ad H locs ls hR hE hL hl hS ho h1 h2
  obtain ⟨hx, hb, -⟩ := id hF
  simp only [stW, stp] at hs
  split at hs
  · rename_i y x S2
    exact lv_icmp_ge hx hb hd (Int.toNat_of_nonneg hs.1).symm (fun z => ((hs.2.1 z) p e s m args below meth c Z ad0 w0 hF hc ad H locs ls hR hE hL hl (clS_t (clS_t hS)) ho h1 h2)) (fun z => ((hs.2.2 z) p e s m args below meth c Z ad0 w0 hF hc ad H locs ls hR hE hL hl (clS_t (clS_t hS)) ho h1 h2))
  · exact hs.elim
theorem s_if_gt {off : Int} (hd : decode (mB M) pc = .ok (.ifCond .gt off, 3)) (hs : stW l G M C X n mc ms Q pc (.ifCond .gt off) L S w cu su) : WP l G M n mc ms Q pc L S w cu su := by
  intro p e s m args below meth c Z ad0 w0 hF hc ad H locs ls hR hE hL hl hS ho h1 h2
  obtain ⟨hx, hb, -⟩ := id hF
  simp only [stW, stp] at hs
  split at hs
  · rename_i x S2
    exact lv_if_gt hx hb hd (Int.toNat_of_nonneg hs.1).symm (fun z => ((hs.2.1 z) p e s m args below meth c Z ad0 w0 hF hc ad H locs ls hR hE hL hl (clS_t hS) ho h1 h2)) (fun z => ((hs.2.2 z) p e s m args below meth c Z ad0 w0 hF hc ad H locs ls hR hE hL hl (clS_t hS) ho h1 h2))
  · exact hs.elim
theorem s_icmp_gt {off : Int} (hd : decode (mB M) pc = .ok (.if_icmp .gt off, 3)) (hs : stW l G M C X n mc ms Q pc (.if_icmp .gt off) L S w cu su) : WP l G M n mc ms Q pc L S w cu su := by
  intro p e s m args below meth c Z ad0 w0 hF hc ad H locs ls hR hE hL hl hS ho h1 h2
  obtain ⟨hx, hb, -⟩ := id hF
  simp only [stW, stp] at hs
  split at hs
  · rename_i y x S2
    exact lv_icmp_gt hx hb hd (Int.toNat_of_nonneg hs.1).symm (fun z => ((hs.2.1 z) p e s m args below meth c Z ad0 w0 hF hc ad H locs ls hR hE hL hl (clS_t (clS_t hS)) ho h1 h2)) (fun z => ((hs.2.2 z) p e s m args below meth c Z ad0 w0 hF hc ad H locs ls hR hE hL hl (clS_t (clS_t hS)) ho h1 h2))
  · exact hs.elim
theorem s_if_le {off : Int} (hd : decode (mB M) pc = .ok (.ifCond .le off, 3)) (hs : stW l G M C X n mc ms Q pc (.ifCond .le off) L S w cu su) : WP l G M n mc ms Q pc L S w cu su := by
  intro p e s m args below meth c Z ad0 w0 hF hc ad H locs ls hR hE hL hl hS ho h1 h2
  obtain ⟨hx, hb, -⟩ := id hF
  simp only [stW, stp] at hs
  split at hs
  · rename_i x S2
    exact lv_if_le hx hb hd (Int.toNat_of_nonneg hs.1).symm (fun z => ((hs.2.1 z) p e s m args below meth c Z ad0 w0 hF hc ad H locs ls hR hE hL hl (clS_t hS) ho h1 h2)) (fun z => ((hs.2.2 z) p e s m args below meth c Z ad0 w0 hF hc ad H locs ls hR hE hL hl (clS_t hS) ho h1 h2))
  · exact hs.elim
theorem s_icmp_le {off : Int} (hd : decode (mB M) pc = .ok (.if_icmp .le off, 3)) (hs : stW l G M C X n mc ms Q pc (.if_icmp .le off) L S w cu su) : WP l G M n mc ms Q pc L S w cu su := by
  intro p e s m args below meth c Z ad0 w0 hF hc ad H locs ls hR hE hL hl hS ho h1 h2
  obtain ⟨hx, hb, -⟩ := id hF
  simp only [stW, stp] at hs
  split at hs
  · rename_i y x S2
    exact lv_icmp_le hx hb hd (Int.toNat_of_nonneg hs.1).symm (fun z => ((hs.2.1 z) p e s m args below meth c Z ad0 w0 hF hc ad H locs ls hR hE hL hl (clS_t (clS_t hS)) ho h1 h2)) (fun z => ((hs.2.2 z) p e s m args below meth c Z ad0 w0 hF hc ad H locs ls hR hE hL hl (clS_t (clS_t hS)) ho h1 h2))
  · exact hs.elim
theorem s_goto {off : Int} (hd : decode (mB M) pc = .ok (.goto off, 3)) (hs : stW l G M C X n mc ms Q pc (.goto off) L S w cu su) : WP l G M n mc ms Q pc L S w cu su := by
  intro p e s m args below meth c Z ad0 w0 hF hc ad H locs ls hR hE hL hl hS ho h1 h2
  obtain ⟨hx, hb, -⟩ := id hF
  simp only [stW, stp] at hs
  obtain ⟨t, ht, hk⟩ := jmp_go hs
  exact lv_goto hx hb hd ht (hk p e s m args below meth c Z ad0 w0 hF hc ad H locs ls hR hE hL hl hS ho h1 h2)
end S1
