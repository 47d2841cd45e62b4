/-! a step, many steps; a method's working out of its body -/
def envOk (own : String) (C : CE) : Prop :=
  (∀ idx ci k, ceF C idx = some (ci, k) → fldOk own idx ci k) ∧ (∀ idx c, ceM C idx = some c → calOk own idx c) ∧ (∀ idx v, ceK C idx = some (.inl v) → Cond.constant own idx v ∈ goodT) ∧ (∀ idx v, ceK C idx = some (.inr (.inl v)) → Cond.constantLong own idx v ∈ goodT) ∧ ∀ idx ci, ceT C idx = some ci → Cond.classLink own idx (clsN ci).1 ∈ goodT
/-- an instruction's length, where it is fixed -/
def ilen : Instr → Nat
  | .newarray _ | .bipush _ | .iload _ | .lload _ | .aload _ | .istore _ | .lstore _ | .astore _ | .ldc _ => 2
  | .new _ | .anewarray _ | .getstatic _ | .putstatic _ | .if_acmp _ _ | .ldc_w _ | .sipush _ | .iinc _ _ | .ifCond _ _ | .if_icmp _ _ | .ifnull _ | .ifnonnull _ | .goto _ | .getfield _ | .putfield _ | .ldc2_w _ | .checkcast _ | .invokevirtual _ | .invokestatic _ | .invokespecial _ => 3
  | .multianewarray _ _ => 4
  | _ => 1
def lenOk : Instr → Nat → Bool
  | .tableswitch .., _ => true
  | .lookupswitch .., _ => true
  | i, n => ilen i == n
abbrev TB : Type := List (Nat × (Instr × Nat))
def tbOk (b : ByteArray) (tb : TB) : Bool := tb.all (fun q => decide (decode b q.1 = .ok q.2) && lenOk q.2.1 q.2.2)
section S4
variable {l : Launch} {G : Gc} {M : MI} {C : CE} {X : XE} {n mc ms : Nat} {Q : Option AV → Wd → Prop} {pc : Nat} {L : List (Option AV)} {S : List AV} {w : Wd} {cu su : Nat}
set_option maxHeartbeats 4000000 in
theorem wp_step {ins : Instr} {len : Nat} (hE : envOk (mOwn M) C) (hX : XOk l G C X) (hd : decode (mB M) pc = .ok (ins, len)) (hl : lenOk ins len = true) (hs : stW l G M C X n mc ms Q pc ins L S w cu su) : WP l G M n mc ms Q pc L S w cu su := by
  have e0 : ∀ {k : Nat}, (k == len) = true → len = k := fun h => (eq_of_beq h).symm
  cases ins with
  | iconst k => cases e0 hl; exact s_iconst hd hs
  | bipush k => cases e0 hl; exact s_bipush hd hs
  | sipush k => cases e0 hl; exact s_sipush hd hs
  | lconst k => cases e0 hl; exact s_lconst hd hs
  | aconst_null => cases e0 hl; exact s_null hd hs
  | iload i => cases e0 hl; exact s_iload hd hs
  | iload_n i => cases e0 hl; exact s_iload_n hd hs
  | lload i => cases e0 hl; exact s_lload hd hs
  | lload_n i => cases e0 hl; exact s_lload_n hd hs
  | aload i => cases e0 hl; exact s_aload hd hs
  | aload_n i => cases e0 hl; exact s_aload_n hd hs
  | istore i => cases e0 hl; exact s_istore hd hs
  | istore_n i => cases e0 hl; exact s_istore_n hd hs
  | lstore i => cases e0 hl; exact s_lstore hd hs
  | lstore_n i => cases e0 hl; exact s_lstore_n hd hs
  | astore i => cases e0 hl; exact s_astore hd hs
  | astore_n i => cases e0 hl; exact s_astore_n hd hs
  | iinc i k => cases e0 hl; exact s_iinc hd hs
  | iadd => cases e0 hl; exact s_iadd hd hs
  | isub => cases e0 hl; exact s_isub hd hs
  | imul => cases e0 hl; exact s_imul hd hs
  | iand => cases e0 hl; exact s_iand hd hs
  | ior => cases e0 hl; exact s_ior hd hs
  | ixor => cases e0 hl; exact s_ixor hd hs
  | ishl => cases e0 hl; exact s_ishl hd hs
  | ishr => cases e0 hl; exact s_ishr hd hs
  | iushr => cases e0 hl; exact s_iushr hd hs
  | idiv => cases e0 hl; exact s_idiv hd hs
  | irem => cases e0 hl; exact s_irem hd hs
  | ineg => cases e0 hl; exact s_ineg hd hs
  | ladd => cases e0 hl; exact s_ladd hd hs
  | lmul => cases e0 hl; exact s_lmul hd hs
  | land => cases e0 hl; exact s_land hd hs
  | ldiv => cases e0 hl; exact s_ldiv hd hs
  | lshr => cases e0 hl; exact s_lshr hd hs
  | i2l => cases e0 hl; exact s_i2l hd hs
  | l2i => cases e0 hl; exact s_l2i hd hs
  | lcmp => cases e0 hl; exact s_lcmp hd hs
  | dup => cases e0 hl; exact s_dup hd hs
  | pop => cases e0 hl; exact s_pop hd hs
  | dup_x1 => cases e0 hl; exact s_dup_x1 hd hs
  | dup2 => cases e0 hl; exact s_dup2 hd hs
  | ifCond cd off => cases e0 hl; cases cd <;> first | exact s_if_eq hd hs | exact s_if_ne hd hs | exact s_if_lt hd hs | exact s_if_ge hd hs | exact s_if_gt hd hs | exact s_if_le hd hs
  | if_icmp cd off => cases e0 hl; cases cd <;> first | exact s_icmp_eq hd hs | exact s_icmp_ne hd hs | exact s_icmp_lt hd hs | exact s_icmp_ge hd hs | exact s_icmp_gt hd hs | exact s_icmp_le hd hs
  | ifnull off => cases e0 hl; exact s_ifnull hd hs
  | ifnonnull off => cases e0 hl; exact s_ifnonnull hd hs
  | goto off => cases e0 hl; exact s_goto hd hs
  | tableswitch d lo hi offs => exact s_table hd hs
  | lookupswitch d ps => exact s_lookup hd hs
  | getfield idx => cases e0 hl; exact s_getfield (hE.1 idx) hd hs
  | putfield idx => cases e0 hl; exact s_putfield (hE.1 idx) hd hs
  | iaload => cases e0 hl; exact s_iaload hd hs
  | baload => cases e0 hl; exact s_baload hd hs
  | aaload => cases e0 hl; exact s_aaload hd hs
  | iastore => cases e0 hl; exact s_iastore hd hs
  | bastore => cases e0 hl; exact s_bastore hd hs
  | arraylength => cases e0 hl; exact s_alen hd hs
  | ldc idx => cases e0 hl; exact s_ldc (hE.2.2.1 idx) hd hs
  | ldc2_w idx => cases e0 hl; exact s_ldc2 (hE.2.2.2.1 idx) hd hs
  | checkcast idx => cases e0 hl; exact s_cast (hE.2.2.2.2 idx) hd hs
  | invokevirtual idx => cases e0 hl; exact s_invokevirtual hX (hE.2.1 idx) hd hs
  | invokestatic idx => cases e0 hl; exact s_invokestatic hX (hE.2.1 idx) hd hs
  | invokespecial idx => cases e0 hl; exact s_invokespecial hX (hE.2.1 idx) hd hs
  | ireturn => cases e0 hl; exact s_ireturn hd hs
  | lreturn => cases e0 hl; exact s_lreturn hd hs
  | areturn => cases e0 hl; exact s_areturn hd hs
  | return_ => cases e0 hl; exact s_vreturn hd hs
  | _ => exact hs.elim
end S4
/-- many steps: up to the places of 'st', and to calls -/
def wpn (l : Launch) (G : Gc) (M : MI) (C : CE) (X : XE) (tb : TB) (st : List Nat) (n mc ms : Nat) (Q : Option AV → Wd → Prop) : Nat → KT
  | 0, pc, L, S, w, cu, su => WP l G M n mc ms Q pc L S w cu su
  | f + 1, pc, L, S, w, cu, su => if st.contains pc = true then WP l G M n mc ms Q pc L S w cu su else match alk tb pc with
    | some (ins, _) => stp l G M C X n mc ms Q (wpn l G M C X tb st n mc ms Q f) (WP l G M n mc ms Q) pc ins L S w cu su
    | none => False
/-- the same, wherever it begins -/
def wp1 (l : Launch) (G : Gc) (M : MI) (C : CE) (X : XE) (tb : TB) (st : List Nat) (n mc ms : Nat) (Q : Option AV → Wd → Prop) (f pc : Nat) (L : List (Option AV)) (S : List AV) (w : Wd) (cu su : Nat) : Prop := match alk tb pc with
  | some (ins, _) => stp l G M C X n mc ms Q (wpn l G M C X tb st n mc ms Q f) (WP l G M n mc ms Q) pc ins L S w cu su
  | none => False
theorem jmp_mono {pc : Nat} {off : Int} {K K' : KT} {L : List (Option AV)} {S : List AV} {w : Wd} {cu su : Nat} (h : jmp pc off K L S w cu su) (hm : ∀ pc L S w cu su, K pc L S w cu su → K' pc L S w cu su) : jmp pc off K' L S w cu su := ⟨h.1, hm _ _ _ _ _ _ h.2⟩
theorem cll_mono {l : Launch} {G : Gc} {n mc ms : Nat} {c : Cal} {x : Option (Nat × FS)} {as S : List AV} {w : Wd} {cu su : Nat} {K K' Kc : KT} {pc : Nat} {L : List (Option AV)} (h : cll l G n mc ms c x as S w cu su K Kc pc L) (hm : ∀ pc L S w cu su, K pc L S w cu su → K' pc L S w cu su) : cll l G n mc ms c x as S w cu su K' Kc pc L := by
  obtain ⟨h1, h2⟩ := h
  refine ⟨h1, ?_⟩
  split at h2
  · refine ⟨h2.1, ?_⟩
    have h3 := h2.2
    split at h3
    · exact hm _ _ _ _ _ _ h3
    · exact h3.elim
  · exact h2
set_option maxHeartbeats 4000000 in
theorem stp_mono {l : Launch} {G : Gc} {M : MI} {C : CE} {X : XE} {n mc ms : Nat} {Q : Option AV → Wd → Prop} {K K' Kc : KT} {pc : Nat} {ins : Instr} {L : List (Option AV)} {S : List AV} {w : Wd} {cu su : Nat} (hm : ∀ pc L S w cu su, K pc L S w cu su → K' pc L S w cu su) (h : stp l G M C X n mc ms Q K Kc pc ins L S w cu su) : stp l G M C X n mc ms Q K' Kc pc ins L S w cu su := by
  cases ins <;> simp only [stp] at h ⊢
  case ifCond cd off => cases cd <;> simp only [stp] at h ⊢ <;> split at h <;> first | exact h.elim | exact ⟨h.1, fun z => hm _ _ _ _ _ _ (h.2.1 z), fun z => hm _ _ _ _ _ _ (h.2.2 z)⟩
  case if_icmp cd off => cases cd <;> simp only [stp] at h ⊢ <;> split at h <;> first | exact h.elim | exact ⟨h.1, fun z => hm _ _ _ _ _ _ (h.2.1 z), fun z => hm _ _ _ _ _ _ (h.2.2 z)⟩
  case tableswitch d lo hi offs =>
    split at h
    · split at h
      · rename_i hq
        try rw [if_pos hq]
        exact jmp_mono h hm
      · rename_i hq
        try rw [if_neg hq]
        split at h
        · rename_i hq2
          try rw [hq2]
          exact jmp_mono h hm
        · exact h.elim
    · exact h.elim
  case lookupswitch d ps =>
    split at h
    · exact ⟨h.1, jmp_mono h.2 hm⟩
    · exact h.elim
  case goto off => exact jmp_mono h hm
  case ifnull off =>
    split at h
    · exact jmp_mono h hm
    · exact hm _ _ _ _ _ _ h
    · exact h.elim
  case ifnonnull off =>
    split at h
    · exact hm _ _ _ _ _ _ h
    · exact jmp_mono h hm
    · exact h.elim
  case getfield idx =>
    split at h
    · rename_i hq
      try rw [hq]
      split at h
      · exact ⟨h.1, h.2.1, hm _ _ _ _ _ _ h.2.2⟩
      · exact h.elim
    · exact h.elim
  case putfield idx =>
    split at h
    · rename_i hq
      try rw [hq]
      split at h
      · exact ⟨h.1, h.2.1, h.2.2.1, h.2.2.2.1, h.2.2.2.2.1, hm _ _ _ _ _ _ h.2.2.2.2.2⟩
      · exact h.elim
    · exact h.elim
  case checkcast idx =>
    split at h
    · rename_i hq
      try rw [hq]
      split at h
      · exact ⟨h.1, h.2.1, h.2.2.1, hm _ _ _ _ _ _ h.2.2.2⟩
      · exact h.elim
    · exact h.elim
  case iaload =>
    split at h
    · split at h
      · rename_i hq
        try rw [if_pos hq]
        exact ⟨h.1, h.2.1, hm _ _ _ _ _ _ h.2.2⟩
      · rename_i hq
        try rw [if_neg hq]
        exact ⟨h.1, h.2.1, h.2.2.1, h.2.2.2.1, hm _ _ _ _ _ _ h.2.2.2.2⟩
    · exact h.elim
  case arraylength =>
    split at h
    · split at h
      · rename_i hq
        try rw [if_pos hq]
        exact ⟨h.1, hm _ _ _ _ _ _ h.2⟩
      · rename_i hq
        try rw [if_neg hq]
        exact ⟨h.1, h.2.1, h.2.2.1, hm _ _ _ _ _ _ h.2.2.2⟩
    · exact h.elim
  case invokevirtual idx =>
    split at h
    · rename_i hq
      try rw [hq]
      split at h
      · rename_i hq2
        try simp only [hq2]
        exact ⟨h.1, h.2.1, h.2.2.1, h.2.2.2.1, cll_mono h.2.2.2.2 hm⟩
      · exact h.elim
    · exact h.elim
  case invokespecial idx =>
    split at h
    · rename_i hq
      try rw [hq]
      split at h
      · rename_i hq2
        try simp only [hq2]
        exact ⟨h.1, h.2.1, cll_mono h.2.2 hm⟩
      · exact h.elim
    · exact h.elim
  case invokestatic idx =>
    split at h
    · rename_i hq
      try rw [hq]
      split at h
      · rename_i hq2
        try simp only [hq2]
        exact ⟨h.1, cll_mono h.2 hm⟩
      · exact h.elim
    · exact h.elim
  all_goals first
    | exact h
    | exact hm _ _ _ _ _ _ h
    | (split at h <;> first | exact h.elim | exact hm _ _ _ _ _ _ h | exact ⟨h.1, hm _ _ _ _ _ _ h.2⟩ | exact ⟨h.1, h.2.1, hm _ _ _ _ _ _ h.2.2⟩ | exact ⟨h.1, h.2.1, h.2.2.1, h.2.2.2.1, hm _ _ _ _ _ _ h.2.2.2.2⟩ | exact ⟨h.1, h.2.1, h.2.2.1, h.2.2.2.1, h.2.2.2.2.1, hm _ _ _ _ _ _ h.2.2.2.2.2⟩ | (rename_i hg; rw [hg]; exact hm _ _ _ _ _ _ h) | (rename_i hg; rw [hg]; exact ⟨h.1, hm _ _ _ _ _ _ h.2⟩))
theorem wpn_go {l : Launch} {G : Gc} {M : MI} {C : CE} {X : XE} {tb : TB} {st : List Nat} {n mc ms : Nat} {Q : Option AV → Wd → Prop} (hE : envOk (mOwn M) C) (hX : XOk l G C X) (ht : tbOk (mB M) tb = true) : ∀ (f pc : Nat) (L : List (Option AV)) (S : List AV) (w : Wd) (cu su : Nat), wpn l G M C X tb st n mc ms Q f pc L S w cu su → WP l G M n mc ms Q pc L S w cu su
  | 0, _, _, _, _, _, _, h => h
  | f + 1, pc, L, S, w, cu, su, h => by
    simp only [wpn] at h
    split at h
    · exact h
    · split at h
      · rename_i ins len hq
        have h1 := List.all_eq_true.mp ht _ (alk_mem hq)
        simp only [Bool.and_eq_true, decide_eq_true_eq] at h1
        exact wp_step (l := l) (X := X) hE hX h1.1 h1.2 (stp_mono (fun pc' L' S' w' cu' su' hk => wpn_go hE hX ht f pc' L' S' w' cu' su' hk) h)
      · exact h.elim
theorem wpn_ok {l : Launch} {G : Gc} {M : MI} {C : CE} {X : XE} {tb : TB} {st : List Nat} {n mc ms : Nat} {Q : Option AV → Wd → Prop} (hE : envOk (mOwn M) C) (hX : XOk l G C X) (ht : tbOk (mB M) tb = true) (f pc : Nat) (L : List (Option AV)) (S : List AV) (w : Wd) (cu su : Nat) (h : wp1 l G M C X tb st n mc ms Q f pc L S w cu su) : WP l G M n mc ms Q pc L S w cu su := by
  unfold wp1 at h
  split at h
  · rename_i ins len hq
    have h1 := List.all_eq_true.mp ht _ (alk_mem hq)
    simp only [Bool.and_eq_true, decide_eq_true_eq] at h1
    exact wp_step (l := l) (X := X) hE hX h1.1 h1.2 (stp_mono (fun pc' L' S' w' cu' su' hk => wpn_go hE hX ht f pc' L' S' w' cu' su' hk) h)
  · exact h.elim
/-- a method's first locals -/
def inL : List AV → List (Option AV)
  | [] => []
  | v :: as => if isL (some v) = true then some v :: none :: inL as else some v :: inL as
def pad : Nat → List (Option AV) → List (Option AV)
  | 0, _ => []
  | n + 1, [] => none :: pad n []
  | n + 1, v :: l => v :: pad n l
theorem pad_len : ∀ (n : Nat) (l : List (Option AV)), (pad n l).length = n
  | 0, _ => rfl
  | n + 1, [] => congrArg (· + 1) (pad_len n [])
  | n + 1, _ :: l => congrArg (· + 1) (pad_len n l)
theorem lg_pad : ∀ (n : Nat) (l : List (Option AV)) (i : Nat) (v : AV), lg (pad n l) i = some v → lg l i = some v
  | 0, _, _, _, h => by simp [pad, lg] at h
  | n + 1, [], 0, v, h => by simp [pad, lg] at h
  | n + 1, [], i + 1, v, h => lg_pad n [] i v h
  | n + 1, _ :: l, 0, v, h => h
  | n + 1, _ :: l, i + 1, v, h => lg_pad n l i v h
theorem inL_args (ad : Nat → Nat → Nat) : ∀ (as : List AV) (b i : Nat) (v : AV), lg (inL as) i = some v → (b + i, renV ad v) ∈ lv_args b (as.map (renV ad))
  | [], _, _, _, h => by simp [inL, lg] at h
  | a :: as, b, i, v, h => by
    simp only [inL] at h
    simp only [List.map_cons, lv_args, cat_ren]
    split at h
    · rename_i hq
      rw [if_pos (by rw [if_pos hq])]
      match i, h with
      | 0, h => cases h; exact List.mem_cons_self
      | 1, h => simp [lg] at h
      | i + 2, h =>
        have h2 := inL_args ad as (b + 2) i v h
        rw [show b + 2 + i = b + (i + 2) by omega] at h2
        exact List.mem_cons_of_mem _ h2
    · rename_i hq
      rw [if_neg (by rw [if_neg hq]; decide)]
      match i, h with
      | 0, h => cases h; exact List.mem_cons_self
      | i + 1, h =>
        have h2 := inL_args ad as (b + 1) i v h
        rw [show b + 1 + i = b + (i + 1) by omega] at h2
        exact List.mem_cons_of_mem _ h2
theorem inL_len (ad : Nat → Nat → Nat) : ∀ (as : List AV), (lg_sl (as.map (renV ad))).length = (inL as).length
  | [] => rfl
  | a :: as => by
    have h := inL_len ad as
    simp only [lg_sl, List.map_cons, List.flatMap_cons, List.length_append, cat_ren, inL] at h ⊢
    split
    · simp only [if_pos, List.length_cons, List.length_nil, h]; omega
    · simp only [h]; simp; omega
theorem inL_cl {w : Wd} : ∀ {as : List AV}, (∀ a ∈ as, clV w a) → clL w (inL as)
  | [], _, i, v, h => by simp [inL, lg] at h
  | a :: as, hc, i, v, h => by
    simp only [inL] at h
    have hr := inL_cl (as := as) (fun x hx => hc x (List.mem_cons_of_mem _ hx))
    split at h
    · match i, h with
      | 0, h => cases h; exact hc _ List.mem_cons_self
      | 1, h => simp [lg] at h
      | i + 2, h => exact hr i v h
    · match i, h with
      | 0, h => cases h; exact hc _ List.mem_cons_self
      | i + 1, h => exact hr i v h
set_option maxHeartbeats 4000000 in
/-- a method out of its body -/
theorem Sem_of {l : Launch} {G : Gc} {M : MI} {n mc ms : Nat} {Q : Option AV → Wd → Prop} {as : List AV} {w : Wd} (hy : plainName (mY M).cls = true) (ho : (mY M).cls = mOwn M) (hn : (inL as).length ≤ mL M) (h : WP l G M n mc ms Q 0 (pad (mL M) (inL as)) [] w 0 0) : Sem l G M n mc ms as w Q := by
  intro ad
  refine Met.ofW (cc := mB M) (maxL := mL M) (ret := mR M) hy rfl ?_
  intro p e s m args below meth c s₁ B hml hv
  obtain ⟨rfl, hR, hKK, hcl⟩ := hv
  have hx := B.exec
  have hb := B.bytes
  have hr := B.returns
  have hts := atoms_spec (ws := wsY M) B.pre
  have hown : s.vm.findClass (mOwn M) = some m.cls := by rw [← ho]; exact findClass_of_methodNamed B.named
  have hlocks := B.notSynchronized
  have hnm : meth.name = (mY M).name := (name_of_methodNamed B.named B.method).1
  have hl := lv_entry (as.map (renV ad)) (n := mL M) (by rw [inL_len]; exact hn)
  rw [lg_entry_eq]
  generalize (lg_sl (as.map (renV ad)) ++ List.replicate (mL M - (lg_sl (as.map (renV ad))).length) Slot.unset).toArray = ls at hl ⊢
  have hL : LsR ad (mL M) (pad (mL M) (inL as)) ls := ⟨hl.1, pad_len _ _, hl.2.1, fun i v hi => by
    have h2 := inL_args ad as 0 i v (lg_pad _ _ _ _ hi)
    rw [Nat.zero_add] at h2
    exact hl.2.2 _ h2⟩
  refine h p e s m _ below meth c _ ad w ⟨hx, hb, hr, hml, hown, fun w hw => hts w (List.mem_cons_of_mem _ hw), hKK, hlocks, hnm⟩ ?_ ad s.heap [] ls hR ⟨fun _ _ _ => rfl, fun _ => Nat.le_refl _⟩ hL (fun i v hi => inL_cl hcl i v (lg_pad _ _ _ _ hi)) (fun v hv => by cases hv) (fun q hq => by cases hq) (Nat.zero_le _) (Nat.zero_le _)
  intro r w' ad' H' locs' pc' ls' cu' su' hq hR' hE' hcr hlo' hc1 hc2 hret
  refine W.widen hc1 hc2 ?_
  rcases hret with ⟨v, rfl, hd, hnr⟩ | ⟨v, rfl, hd, hnr⟩ | ⟨v, rfl, hd, ty, hnr, hty⟩ | ⟨rfl, hd, hnr⟩
  · cases hm : mR M with
    | none => rw [hm] at hnr; exact hnr.elim
    | some ty =>
      rw [hm] at hnr
      exact W.zret hx hb (hr.trans hm) (nar_narrow hnr).1 (fun t ht hW => ⟨some (.inl v), w', ad', rfl, by rw [ht]; exact hR', hE', hcr, hq⟩) hlo' hd
  · exact W.lret hx hb (hr.trans hnr) (fun t ht hW => ⟨some (.inr (.inl v)), w', ad', rfl, by rw [ht]; exact hR', hE', hcr, hq⟩) hlo' hd
  · refine W.aret hx hb (hr.trans hnr) ?_ ?_ (fun t ht hW => ⟨some (.inr (.inr v)), w', ad', rfl, by rw [ht]; exact hR', hE', hcr, hq⟩) hlo' hd
    · cases ty <;> first | exact Or.inl ⟨_, rfl⟩ | exact Or.inr ⟨_, rfl⟩ | cases hty
    · cases v with
      | none => exact Or.inl rfl
      | some q => exact Or.inr ⟨_, rfl⟩
  · exact W.vret hx hb (hr.trans hnr) (fun t ht hW => ⟨none, w', ad', rfl, by rw [ht]; exact hR', hE', hcr, hq⟩) hlo' hd
