/-! the machine with makings: stq, wqn -/
def stq (l : Launch) (G : Gc) (M : MI) (C : CE) (X : XE) (OI : Option Nat) (TG : Nat → Nat) (n mc ms : Nat) (Q : Option AV → Wd → Prop) (K Kc : KT) (pc : Nat) (ins : Instr) (L : List (Option AV)) (S : List AV) (w : Wd) (cu su : Nat) : Prop :=
  match ins with
  | .new idx => match ceT C idx with
    | some ci => ci < 14 ∧ cu + 1 ≤ mc ∧ su + (clsN ci).2.2 ≤ ms ∧ K (pc + 3) L (.inr (.inr (some (ci, wC w ci))) :: S) (nC w ci 0) (cu + 1) (su + (clsN ci).2.2)
    | none => False
  | .newarray .int => match S with
    | .inl x :: S' => 20 ≤ TG pc ∧ TG pc < 200 ∧ ¬ x < 0 ∧ x.toNatClampNeg ≤ 1000 ∧ cu + 1 ≤ mc ∧ su + x.toNatClampNeg ≤ ms ∧ K (pc + 2) L (.inr (.inr (some (TG pc, wC w (TG pc)))) :: S') (nC w (TG pc) x.toNatClampNeg) (cu + 1) (su + x.toNatClampNeg)
    | _ => False
  | .newarray .boolean => match S with
    | .inl x :: S' => 200 ≤ TG pc ∧ TG pc < 300 ∧ ¬ x < 0 ∧ x.toNatClampNeg ≤ 1000 ∧ cu + 1 ≤ mc ∧ su + x.toNatClampNeg ≤ ms ∧ K (pc + 2) L (.inr (.inr (some (TG pc, wC w (TG pc)))) :: S') (nC w (TG pc) x.toNatClampNeg) (cu + 1) (su + x.toNatClampNeg)
    | _ => False
  | .putfield idx => match ceF C idx with
    | some (ci, k) => (match S with
      | .inl x :: .inr (.inr (some (t, j))) :: S' => t = ci ∧ j < wC w ci ∧ rp ci k = false ∧ finOk M ci k ∧ nar (some (cTy ci k)) x ∧ K (pc + 3) L S' (sI w ci j k x) cu su
      | .inr (.inr q) :: .inr (.inr (some (t, j))) :: S' => t = ci ∧ j < wC w ci ∧ rp ci k = true ∧ finOk M ci k ∧ K (pc + 3) L S' (sR w ci j k q) cu su
      | _ => False)
    | none => False
  | .invokespecial idx => if OI = some idx then (match S with
      | .inr (.inr (some _)) :: S' => catS S' ≤ 8 ∧ 1 ≤ n ∧ K (pc + 3) L S' w cu su
      | _ => False) else stp l G M C X n mc ms Q K Kc pc (.invokespecial idx) L S w cu su
  | i => stp l G M C X n mc ms Q K Kc pc i L S w cu su
section S6
variable {l : Launch} {G : Gc} {M : MI} {C : CE} {X : XE} {OI : Option Nat} {TG : Nat → Nat} {n mc ms : Nat} {Q : Option AV → Wd → Prop} {pc : Nat} {L : List (Option AV)} {S : List AV} {w : Wd} {cu su : Nat}
theorem wq_step {ins : Instr} {len : Nat} (hE : envOk (mOwn M) C) (hX : XOk l G C X) (hO : ∀ i, OI = some i → Cond.methodLink (mOwn M) i Lib.objectInit ∈ goodT) (hd : decode (mB M) pc = .ok (ins, len)) (hl : lenOk ins len = true) (hs : stq l G M C X OI TG n mc ms Q (WP l G M n mc ms Q) (WP l G M n mc ms Q) pc ins L S w cu su) : WP l G M n mc ms Q pc L S w cu su := by
  unfold stq at hs
  split at hs
  · rename_i idx
    have e : len = 3 := (eq_of_beq hl).symm
    subst e
    split at hs
    · rename_i ci hci
      obtain ⟨h1, h2, h3, h4⟩ := hs
      exact s_new hci (fun ci h => hE.2.2.2.2 idx ci h) hd h1 h2 h3 h4
    · exact hs.elim
  · have e : len = 2 := (eq_of_beq hl).symm
    subst e
    split at hs
    · obtain ⟨h1, h2, h3, h4, h5, h6, h7⟩ := hs
      exact s_newI hd h1 h2 h3 h4 h5 h6 h7
    · exact hs.elim
  · have e : len = 2 := (eq_of_beq hl).symm
    subst e
    split at hs
    · obtain ⟨h1, h2, h3, h4, h5, h6, h7⟩ := hs
      exact s_newB hd h1 h2 h3 h4 h5 h6 h7
    · exact hs.elim
  · rename_i idx
    have e : len = 3 := (eq_of_beq hl).symm
    subst e
    split at hs
    · rename_i ci k hce
      split at hs
      · obtain ⟨rfl, h2, h3, h4, h5, h6⟩ := hs
        exact s_put (fun ci k h => hE.1 idx ci k h) hce hd h2 h4 (Or.inl ⟨_, rfl, h3, h5, rfl⟩) h6
      · obtain ⟨rfl, h2, h3, h4, h5⟩ := hs
        exact s_put (fun ci k h => hE.1 idx ci k h) hce hd h2 h4 (Or.inr ⟨_, rfl, h3, rfl⟩) h5
      · exact hs.elim
    · exact hs.elim
  · rename_i idx
    split at hs
    · rename_i hoi
      have e : len = 3 := (eq_of_beq hl).symm
      subst e
      split at hs
      · obtain ⟨h1, h2, h3⟩ := hs
        exact s_obj (hO idx hoi) hd h1 h2 h3
      · exact hs.elim
    · exact wp_step hE hX hd hl hs
  · exact wp_step hE hX hd hl hs
theorem stq_mono {K K' Kc : KT} {ins : Instr} (hm : ∀ pc L S w cu su, K pc L S w cu su → K' pc L S w cu su) (h : stq l G M C X OI TG n mc ms Q K Kc pc ins L S w cu su) : stq l G M C X OI TG n mc ms Q K' Kc pc ins L S w cu su := by
  unfold stq at h ⊢
  split at h
  · split at h
    · rename_i ci hci
      obtain ⟨h1, h2, h3, h4⟩ := h
      try simp only [hci]
      exact ⟨h1, h2, h3, hm _ _ _ _ _ _ h4⟩
    · exact h.elim
  · split at h
    · obtain ⟨h1, h2, h3, h4, h5, h6, h7⟩ := h
      exact ⟨h1, h2, h3, h4, h5, h6, hm _ _ _ _ _ _ h7⟩
    · exact h.elim
  · split at h
    · obtain ⟨h1, h2, h3, h4, h5, h6, h7⟩ := h
      exact ⟨h1, h2, h3, h4, h5, h6, hm _ _ _ _ _ _ h7⟩
    · exact h.elim
  · split at h
    · rename_i ci k hce
      try simp only [hce]
      split at h
      · obtain ⟨h1, h2, h3, h4, h5, h6⟩ := h
        exact ⟨h1, h2, h3, h4, h5, hm _ _ _ _ _ _ h6⟩
      · obtain ⟨h1, h2, h3, h4, h5⟩ := h
        exact ⟨h1, h2, h3, h4, hm _ _ _ _ _ _ h5⟩
      · exact h.elim
    · exact h.elim
  · split at h
    · rename_i hoi
      rw [if_pos hoi]
      split at h
      · obtain ⟨h1, h2, h3⟩ := h
        exact ⟨h1, h2, hm _ _ _ _ _ _ h3⟩
      · exact h.elim
    · rename_i hoi
      rw [if_neg hoi]
      exact stp_mono hm h
  · exact stp_mono hm h
end S6
def wqn (l : Launch) (G : Gc) (M : MI) (C : CE) (X : XE) (OI : Option Nat) (TG : Nat → Nat) (tb : TB) (st : List Nat) (n mc ms : Nat) (Q : Option AV → Wd → Prop) : Nat → KT
  | 0, pc, L, S, w, cu, su => WP l G M n mc ms Q pc L S w cu su
  | f + 1, pc, L, S, w, cu, su => if st.contains pc = true then WP l G M n mc ms Q pc L S w cu su else match alk tb pc with
    | some (ins, _) => stq l G M C X OI TG n mc ms Q (wqn l G M C X OI TG tb st n mc ms Q f) (WP l G M n mc ms Q) pc ins L S w cu su
    | none => False
def wq1 (l : Launch) (G : Gc) (M : MI) (C : CE) (X : XE) (OI : Option Nat) (TG : Nat → Nat) (tb : TB) (st : List Nat) (n mc ms : Nat) (Q : Option AV → Wd → Prop) (f pc : Nat) (L : List (Option AV)) (S : List AV) (w : Wd) (cu su : Nat) : Prop := match alk tb pc with
  | some (ins, _) => stq l G M C X OI TG n mc ms Q (wqn l G M C X OI TG tb st n mc ms Q f) (WP l G M n mc ms Q) pc ins L S w cu su
  | none => False
theorem wqn_go {l : Launch} {G : Gc} {M : MI} {C : CE} {X : XE} {OI : Option Nat} {TG : Nat → Nat} {tb : TB} {st : List Nat} {n mc ms : Nat} {Q : Option AV → Wd → Prop} (hE : envOk (mOwn M) C) (hX : XOk l G C X) (hO : ∀ i, OI = some i → Cond.methodLink (mOwn M) i Lib.objectInit ∈ goodT) (ht : tbOk (mB M) tb = true) : ∀ (f pc : Nat) (L : List (Option AV)) (S : List AV) (w : Wd) (cu su : Nat), wqn l G M C X OI TG tb st n mc ms Q f pc L S w cu su → WP l G M n mc ms Q pc L S w cu su
  | 0, _, _, _, _, _, _, h => h
  | f + 1, pc, L, S, w, cu, su, h => by
    simp only [wqn] at h
    split at h
    · exact h
    · split at h
      · rename_i ins len hq
        have h1 := List.all_eq_true.mp ht _ (alk_mem hq)
        simp only [Bool.and_eq_true, decide_eq_true_eq] at h1
        exact wq_step (l := l) (X := X) hE hX hO h1.1 h1.2 (stq_mono (fun pc' L' S' w' cu' su' hk => wqn_go hE hX hO ht f pc' L' S' w' cu' su' hk) h)
      · exact h.elim
theorem wq_ok {l : Launch} {G : Gc} {M : MI} {C : CE} {X : XE} {OI : Option Nat} {TG : Nat → Nat} {tb : TB} {st : List Nat} {n mc ms : Nat} {Q : Option AV → Wd → Prop} (hE : envOk (mOwn M) C) (hX : XOk l G C X) (hO : ∀ i, OI = some i → Cond.methodLink (mOwn M) i Lib.objectInit ∈ goodT) (ht : tbOk (mB M) tb = true) (f pc : Nat) (L : List (Option AV)) (S : List AV) (w : Wd) (cu su : Nat) (h : wq1 l G M C X OI TG tb st n mc ms Q f pc L S w cu su) : WP l G M n mc ms Q pc L S w cu su := by
  unfold wq1 at h
  split at h
  · rename_i ins len hq
    have h1 := List.all_eq_true.mp ht _ (alk_mem hq)
    simp only [Bool.and_eq_true, decide_eq_true_eq] at h1
    exact wq_step (l := l) (X := X) hE hX hO h1.1 h1.2 (stq_mono (fun pc' L' S' w' cu' su' hk => wqn_go hE hX hO ht f pc' L' S' w' cu' su' hk) h)
  · exact h.elim
theorem oi_some {own : String} {k : Nat} (h : Cond.methodLink own k Lib.objectInit ∈ goodT) : ∀ i, some k = some i → Cond.methodLink own i Lib.objectInit ∈ goodT := fun i e => by cases e; exact h
theorem oi_none {own : String} : ∀ i, (none : Option Nat) = some i → Cond.methodLink own i Lib.objectInit ∈ goodT := fun i e => by cases e
theorem finOk_0 {M : MI} {ci k : Nat} (h : ((clsN ci).2.1 k).2.2.2 = false) : finOk M ci k = True := eq_true (Or.inl h)
theorem finOk_1 {M : MI} {ci k : Nat} (h : (mY M).name = "<init>") (h2 : ((clsN ci).2.1 k).1 = mOwn M) : finOk M ci k = True := eq_true (Or.inr ⟨h, h2⟩)
section S7
variable {l : Launch} {G : Gc} {M : MI} {C : CE} {X : XE} {OI : Option Nat} {TG : Nat → Nat} {tb : TB} {st : List Nat} {n mc ms f : Nat} {Q : Option AV → Wd → Prop} {K Kc : KT} {pc : Nat} {L : List (Option AV)} {S : List AV} {w : Wd} {cu su : Nat}
theorem wqn_0 : wqn l G M C X OI TG tb st n mc ms Q 0 pc L S w cu su = WP l G M n mc ms Q pc L S w cu su := (rfl)
theorem wqn_s : wqn l G M C X OI TG tb st n mc ms Q (f + 1) pc L S w cu su = if st.contains pc = true then WP l G M n mc ms Q pc L S w cu su else match alk tb pc with
    | some (ins, _) => stq l G M C X OI TG n mc ms Q (wqn l G M C X OI TG tb st n mc ms Q f) (WP l G M n mc ms Q) pc ins L S w cu su
    | none => False := (rfl)
theorem wq1_s : wq1 l G M C X OI TG tb st n mc ms Q f pc L S w cu su = match alk tb pc with
    | some (ins, _) => stq l G M C X OI TG n mc ms Q (wqn l G M C X OI TG tb st n mc ms Q f) (WP l G M n mc ms Q) pc ins L S w cu su
    | none => False := (rfl)
theorem sq_new {idx : Nat} : stq l G M C X OI TG n mc ms Q K Kc pc (.new idx) L S w cu su = (match ceT C idx with
    | some ci => ci < 14 ∧ cu + 1 ≤ mc ∧ su + (clsN ci).2.2 ≤ ms ∧ K (pc + 3) L (.inr (.inr (some (ci, wC w ci))) :: S) (nC w ci 0) (cu + 1) (su + (clsN ci).2.2)
    | none => False) := (rfl)
theorem sq_newI {x : Int32} : stq l G M C X OI TG n mc ms Q K Kc pc (.newarray .int) L (.inl x :: S) w cu su = (20 ≤ TG pc ∧ TG pc < 200 ∧ ¬ x < 0 ∧ x.toNatClampNeg ≤ 1000 ∧ cu + 1 ≤ mc ∧ su + x.toNatClampNeg ≤ ms ∧ K (pc + 2) L (.inr (.inr (some (TG pc, wC w (TG pc)))) :: S) (nC w (TG pc) x.toNatClampNeg) (cu + 1) (su + x.toNatClampNeg)) := (rfl)
theorem sq_newB {x : Int32} : stq l G M C X OI TG n mc ms Q K Kc pc (.newarray .boolean) L (.inl x :: S) w cu su = (200 ≤ TG pc ∧ TG pc < 300 ∧ ¬ x < 0 ∧ x.toNatClampNeg ≤ 1000 ∧ cu + 1 ≤ mc ∧ su + x.toNatClampNeg ≤ ms ∧ K (pc + 2) L (.inr (.inr (some (TG pc, wC w (TG pc)))) :: S) (nC w (TG pc) x.toNatClampNeg) (cu + 1) (su + x.toNatClampNeg)) := (rfl)
theorem sq_putI {idx t j : Nat} {x : Int32} : stq l G M C X OI TG n mc ms Q K Kc pc (.putfield idx) L (.inl x :: .inr (.inr (some (t, j))) :: S) w cu su = (match ceF C idx with
    | some (ci, k) => t = ci ∧ j < wC w ci ∧ rp ci k = false ∧ finOk M ci k ∧ nar (some (cTy ci k)) x ∧ K (pc + 3) L S (sI w ci j k x) cu su
    | none => False) := (rfl)
theorem sq_putR {idx t j : Nat} {q : Option (Nat × Nat)} : stq l G M C X OI TG n mc ms Q K Kc pc (.putfield idx) L (.inr (.inr q) :: .inr (.inr (some (t, j))) :: S) w cu su = (match ceF C idx with
    | some (ci, k) => t = ci ∧ j < wC w ci ∧ rp ci k = true ∧ finOk M ci k ∧ K (pc + 3) L S (sR w ci j k q) cu su
    | none => False) := (rfl)
theorem sq_special {idx : Nat} {q : Nat × Nat} : stq l G M C X OI TG n mc ms Q K Kc pc (.invokespecial idx) L (.inr (.inr (some q)) :: S) w cu su = (if OI = some idx then (catS S ≤ 8 ∧ 1 ≤ n ∧ K (pc + 3) L S w cu su) else stp l G M C X n mc ms Q K Kc pc (.invokespecial idx) L (.inr (.inr (some q)) :: S) w cu su) := (rfl)
theorem sq_special2 {idx : Nat} (h : ¬ OI = some idx) : stq l G M C X OI TG n mc ms Q K Kc pc (.invokespecial idx) L S w cu su = stp l G M C X n mc ms Q K Kc pc (.invokespecial idx) L S w cu su := if_neg h
theorem sq_iconst {k : Int} : stq l G M C X OI TG n mc ms Q K Kc pc (.iconst k) L S w cu su = stp l G M C X n mc ms Q K Kc pc (.iconst k) L S w cu su := (rfl)
theorem sq_bipush {k : Int} : stq l G M C X OI TG n mc ms Q K Kc pc (.bipush k) L S w cu su = stp l G M C X n mc ms Q K Kc pc (.bipush k) L S w cu su := (rfl)
theorem sq_sipush {k : Int} : stq l G M C X OI TG n mc ms Q K Kc pc (.sipush k) L S w cu su = stp l G M C X n mc ms Q K Kc pc (.sipush k) L S w cu su := (rfl)
theorem sq_aconst_null  : stq l G M C X OI TG n mc ms Q K Kc pc .aconst_null L S w cu su = stp l G M C X n mc ms Q K Kc pc .aconst_null L S w cu su := (rfl)
theorem sq_iload {i : Nat} : stq l G M C X OI TG n mc ms Q K Kc pc (.iload i) L S w cu su = stp l G M C X n mc ms Q K Kc pc (.iload i) L S w cu su := (rfl)
theorem sq_iload_n {i : Fin 4} : stq l G M C X OI TG n mc ms Q K Kc pc (.iload_n i) L S w cu su = stp l G M C X n mc ms Q K Kc pc (.iload_n i) L S w cu su := (rfl)
theorem sq_aload {i : Nat} : stq l G M C X OI TG n mc ms Q K Kc pc (.aload i) L S w cu su = stp l G M C X n mc ms Q K Kc pc (.aload i) L S w cu su := (rfl)
theorem sq_aload_n {i : Fin 4} : stq l G M C X OI TG n mc ms Q K Kc pc (.aload_n i) L S w cu su = stp l G M C X n mc ms Q K Kc pc (.aload_n i) L S w cu su := (rfl)
theorem sq_istore {i : Nat} : stq l G M C X OI TG n mc ms Q K Kc pc (.istore i) L S w cu su = stp l G M C X n mc ms Q K Kc pc (.istore i) L S w cu su := (rfl)
theorem sq_istore_n {i : Fin 4} : stq l G M C X OI TG n mc ms Q K Kc pc (.istore_n i) L S w cu su = stp l G M C X n mc ms Q K Kc pc (.istore_n i) L S w cu su := (rfl)
theorem sq_astore {i : Nat} : stq l G M C X OI TG n mc ms Q K Kc pc (.astore i) L S w cu su = stp l G M C X n mc ms Q K Kc pc (.astore i) L S w cu su := (rfl)
theorem sq_astore_n {i : Fin 4} : stq l G M C X OI TG n mc ms Q K Kc pc (.astore_n i) L S w cu su = stp l G M C X n mc ms Q K Kc pc (.astore_n i) L S w cu su := (rfl)
theorem sq_iinc {i : Nat} {k : Int} : stq l G M C X OI TG n mc ms Q K Kc pc (.iinc i k) L S w cu su = stp l G M C X n mc ms Q K Kc pc (.iinc i k) L S w cu su := (rfl)
theorem sq_iadd  : stq l G M C X OI TG n mc ms Q K Kc pc .iadd L S w cu su = stp l G M C X n mc ms Q K Kc pc .iadd L S w cu su := (rfl)
theorem sq_isub  : stq l G M C X OI TG n mc ms Q K Kc pc .isub L S w cu su = stp l G M C X n mc ms Q K Kc pc .isub L S w cu su := (rfl)
theorem sq_imul  : stq l G M C X OI TG n mc ms Q K Kc pc .imul L S w cu su = stp l G M C X n mc ms Q K Kc pc .imul L S w cu su := (rfl)
theorem sq_idiv  : stq l G M C X OI TG n mc ms Q K Kc pc .idiv L S w cu su = stp l G M C X n mc ms Q K Kc pc .idiv L S w cu su := (rfl)
theorem sq_irem  : stq l G M C X OI TG n mc ms Q K Kc pc .irem L S w cu su = stp l G M C X n mc ms Q K Kc pc .irem L S w cu su := (rfl)
theorem sq_ishr  : stq l G M C X OI TG n mc ms Q K Kc pc .ishr L S w cu su = stp l G M C X n mc ms Q K Kc pc .ishr L S w cu su := (rfl)
theorem sq_iand  : stq l G M C X OI TG n mc ms Q K Kc pc .iand L S w cu su = stp l G M C X n mc ms Q K Kc pc .iand L S w cu su := (rfl)
theorem sq_dup  : stq l G M C X OI TG n mc ms Q K Kc pc .dup L S w cu su = stp l G M C X n mc ms Q K Kc pc .dup L S w cu su := (rfl)
theorem sq_pop  : stq l G M C X OI TG n mc ms Q K Kc pc .pop L S w cu su = stp l G M C X n mc ms Q K Kc pc .pop L S w cu su := (rfl)
theorem sq_dup_x1  : stq l G M C X OI TG n mc ms Q K Kc pc .dup_x1 L S w cu su = stp l G M C X n mc ms Q K Kc pc .dup_x1 L S w cu su := (rfl)
theorem sq_goto {o : Int} : stq l G M C X OI TG n mc ms Q K Kc pc (.goto o) L S w cu su = stp l G M C X n mc ms Q K Kc pc (.goto o) L S w cu su := (rfl)
theorem sq_ifCond {cc : _} {o : Int} : stq l G M C X OI TG n mc ms Q K Kc pc (.ifCond cc o) L S w cu su = stp l G M C X n mc ms Q K Kc pc (.ifCond cc o) L S w cu su := (rfl)
theorem sq_if_icmp {cc : _} {o : Int} : stq l G M C X OI TG n mc ms Q K Kc pc (.if_icmp cc o) L S w cu su = stp l G M C X n mc ms Q K Kc pc (.if_icmp cc o) L S w cu su := (rfl)
theorem sq_ifnull {o : Int} : stq l G M C X OI TG n mc ms Q K Kc pc (.ifnull o) L S w cu su = stp l G M C X n mc ms Q K Kc pc (.ifnull o) L S w cu su := (rfl)
theorem sq_ifnonnull {o : Int} : stq l G M C X OI TG n mc ms Q K Kc pc (.ifnonnull o) L S w cu su = stp l G M C X n mc ms Q K Kc pc (.ifnonnull o) L S w cu su := (rfl)
theorem sq_getfield {i : Nat} : stq l G M C X OI TG n mc ms Q K Kc pc (.getfield i) L S w cu su = stp l G M C X n mc ms Q K Kc pc (.getfield i) L S w cu su := (rfl)
theorem sq_iaload  : stq l G M C X OI TG n mc ms Q K Kc pc .iaload L S w cu su = stp l G M C X n mc ms Q K Kc pc .iaload L S w cu su := (rfl)
theorem sq_aaload  : stq l G M C X OI TG n mc ms Q K Kc pc .aaload L S w cu su = stp l G M C X n mc ms Q K Kc pc .aaload L S w cu su := (rfl)
theorem sq_iastore  : stq l G M C X OI TG n mc ms Q K Kc pc .iastore L S w cu su = stp l G M C X n mc ms Q K Kc pc .iastore L S w cu su := (rfl)
theorem sq_arraylength  : stq l G M C X OI TG n mc ms Q K Kc pc .arraylength L S w cu su = stp l G M C X n mc ms Q K Kc pc .arraylength L S w cu su := (rfl)
theorem sq_checkcast {i : Nat} : stq l G M C X OI TG n mc ms Q K Kc pc (.checkcast i) L S w cu su = stp l G M C X n mc ms Q K Kc pc (.checkcast i) L S w cu su := (rfl)
theorem sq_invokevirtual {i : Nat} : stq l G M C X OI TG n mc ms Q K Kc pc (.invokevirtual i) L S w cu su = stp l G M C X n mc ms Q K Kc pc (.invokevirtual i) L S w cu su := (rfl)
theorem sq_invokestatic {i : Nat} : stq l G M C X OI TG n mc ms Q K Kc pc (.invokestatic i) L S w cu su = stp l G M C X n mc ms Q K Kc pc (.invokestatic i) L S w cu su := (rfl)
theorem sq_ireturn  : stq l G M C X OI TG n mc ms Q K Kc pc .ireturn L S w cu su = stp l G M C X n mc ms Q K Kc pc .ireturn L S w cu su := (rfl)
theorem sq_areturn  : stq l G M C X OI TG n mc ms Q K Kc pc .areturn L S w cu su = stp l G M C X n mc ms Q K Kc pc .areturn L S w cu su := (rfl)
theorem sq_return_  : stq l G M C X OI TG n mc ms Q K Kc pc .return_ L S w cu su = stp l G M C X n mc ms Q K Kc pc .return_ L S w cu su := (rfl)
theorem sq_ldc {i : Nat} : stq l G M C X OI TG n mc ms Q K Kc pc (.ldc i) L S w cu su = stp l G M C X n mc ms Q K Kc pc (.ldc i) L S w cu su := (rfl)
theorem sq_lcmp  : stq l G M C X OI TG n mc ms Q K Kc pc .lcmp L S w cu su = stp l G M C X n mc ms Q K Kc pc .lcmp L S w cu su := (rfl)
theorem sq_tableswitch {d lo hi : Int} {os : Array Int} : stq l G M C X OI TG n mc ms Q K Kc pc (.tableswitch d lo hi os) L S w cu su = stp l G M C X n mc ms Q K Kc pc (.tableswitch d lo hi os) L S w cu su := (rfl)
end S7
