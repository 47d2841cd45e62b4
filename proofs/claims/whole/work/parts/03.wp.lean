/-! the abstract machine: WP, and one instruction of it (stp) -/
/-- what holds of a method's frame -/
def Fx (G : Gc) (M : MI) (p : Program) (s : State) (m : MethodId) (args : Array Value) (meth : Method) (c : Code) : Prop :=
  p.tables.exec = Jvm.exec ∧ c.code = mB M ∧ meth.sig.returnType = mR M ∧ c.maxLocals = mL M ∧ s.vm.findClass (mOwn M) = some m.cls ∧ (∀ w ∈ goodT, w.before args s = true) ∧ KK G s ∧ meth.locks = false ∧ meth.name = (mY M).name
def nar (ret : Option FieldType) (v : Int32) : Prop := match ret with
  | some .int => True
  | some .boolean => v = 0 ∨ v = 1
  | some .char => 0 ≤ v ∧ v ≤ 255
  | some .byte => v = 0
  | _ => False
def retI (M : MI) (pc : Nat) (r : Option AV) : Prop :=
  (∃ v, r = some (.inl v) ∧ decode (mB M) pc = .ok (.ireturn, 1) ∧ nar (mR M) v) ∨ (∃ v, r = some (.inr (.inl v)) ∧ decode (mB M) pc = .ok (.lreturn, 1) ∧ mR M = some .long) ∨
  (∃ v, r = some (.inr (.inr v)) ∧ decode (mB M) pc = .ok (.areturn, 1) ∧ ∃ ty, mR M = some ty ∧ rTy ty = true) ∨ (r = none ∧ decode (mB M) pc = .ok (.return_, 1) ∧ mR M = none)
def locsOk (G : Gc) (locs : List Loc) : Prop := ∀ q ∈ locs, gOut G q.base
def clL (w : Wd) (L : List (Option AV)) : Prop := ∀ i v, lg L i = some v → clV w v
def clS (w : Wd) (S : List AV) : Prop := ∀ v ∈ S, clV w v
def WP (l : Launch) (G : Gc) (M : MI) (n mc ms : Nat) (Q : Option AV → Wd → Prop) (pc : Nat) (L : List (Option AV)) (S : List AV) (w : Wd) (cu su : Nat) : Prop :=
  ∀ (p : Program) (e : Env) (s : State) (m : MethodId) (args : Array Value) (below : List Frame) (meth : Method) (c : Code) (Z : State → Prop) (ad0 : Nat → Nat → Nat) (w0 : Wd), Fx G M p s m args meth c →
    (∀ r w' ad' H' locs' pc' ls' cu' su', Q r w' → Rel G ad' w' H' → Exd ad0 w0 ad' w' → (∀ a, r = some a → clV w' a) → locsOk G locs' → cu' ≤ mc → su' ≤ ms → retI M pc' r → W p l e (rml n mc ms) s m args below meth c H' locs' cu' su' Z (F0 m pc' ls' (r.toList.map (renV ad')))) →
    ∀ (ad : Nat → Nat → Nat) (H : Heap) (locs : List Loc) (ls : Array Slot), Rel G ad w H → Exd ad0 w0 ad w → LsR ad (mL M) L ls → clL w L → clS w S → locsOk G locs → cu ≤ mc → su ≤ ms →
    W p l e (rml n mc ms) s m args below meth c H locs cu su Z (F0 m pc ls (S.map (renV ad)))
/-! constants of a class: fields, callees, numbers, casts -/
def alk {α : Type} : List (Nat × α) → Nat → Option α
  | [], _ => none
  | (a, b) :: l, k => if a = k then some b else alk l k
theorem alk_mem {α : Type} {l : List (Nat × α)} {k : Nat} {b : α} (h : alk l k = some b) : (k, b) ∈ l := by
  induction l with
  | nil => cases h
  | cons q l ih =>
    obtain ⟨a, c⟩ := q
    simp only [alk] at h
    split at h
    · rename_i e
      cases h
      rw [e]
      exact List.mem_cons_self
    · exact List.mem_cons_of_mem _ (ih h)
/-- a callee: the method, its parameters, the kind of the call (0 virtual, 1 static, 2 a constructor; 3, 4, 5 the same of a nest mate), its exact working where it is known -/
abbrev Cal : Type := MI × (Nat × Nat)
abbrev CE : Type := (Nat → Option (Nat × Nat)) × ((Nat → Option Cal) × ((Nat → Option AV) × (Nat → Option Nat)))
def ceF (C : CE) : Nat → Option (Nat × Nat) := C.1
def ceM (C : CE) : Nat → Option Cal := C.2.1
def ceK (C : CE) : Nat → Option AV := C.2.2.1
def ceT (C : CE) : Nat → Option Nat := C.2.2.2
/-- how a callee works, where that is a function: its level, and what it answers -/
abbrev FS : Type := List AV → Wd → Option (Option AV × Wd)
abbrev XE : Type := Nat → Option (Nat × FS)
def spl : Nat → List AV → List AV → Option (List AV × List AV)
  | 0, acc, S => some (acc, S)
  | n + 1, acc, v :: S => spl n (v :: acc) S
  | _ + 1, _, [] => none
def catS : List AV → Nat
  | [] => 0
  | v :: S => (if isL (some v) = true then 2 else 1) + catS S
def jmp (pc : Nat) (off : Int) (K : Nat → List (Option AV) → List AV → Wd → Nat → Nat → Prop) (L : List (Option AV)) (S : List AV) (w : Wd) (cu su : Nat) : Prop := 0 ≤ (pc : Int) + off ∧ K ((pc : Int) + off).toNat L S w cu su
/-- a call -/
def cll (l : Launch) (G : Gc) (n mc ms : Nat) (c : Cal) (x : Option (Nat × FS)) (as : List AV) (S : List AV) (w : Wd) (cu su : Nat) (K Kc : Nat → List (Option AV) → List AV → Wd → Nat → Nat → Prop) (pc : Nat) (L : List (Option AV)) : Prop :=
  catS S ≤ 8 ∧ match x with
  | some (n', f) => n' < n ∧ match f as w with
    | some (r, w') => K (pc + 3) L (r.toList ++ S) w' cu su
    | none => False
  | none => ∃ n' mc' ms', n' < n ∧ cu + mc' ≤ mc ∧ su + ms' ≤ ms ∧ Sem l G c.1 n' mc' ms' as w (fun r w' => Kc (pc + 3) L (r.toList ++ S) w' (cu + mc') (su + ms'))
abbrev KT : Type := Nat → List (Option AV) → List AV → Wd → Nat → Nat → Prop
def stp (l : Launch) (G : Gc) (M : MI) (C : CE) (X : XE) (n mc ms : Nat) (Q : Option AV → Wd → Prop) (K Kc : KT) (pc : Nat) (ins : Instr) (L : List (Option AV)) (S : List AV) (w : Wd) (cu su : Nat) : Prop :=
  match ins with
  | .iconst k => K (pc + 1) L (.inl (Int32.ofInt k) :: S) w cu su
  | .bipush k => K (pc + 2) L (.inl (Int8.ofInt k).toInt32 :: S) w cu su
  | .sipush k => K (pc + 3) L (.inl (Int16.ofInt k).toInt32 :: S) w cu su
  | .aconst_null => K (pc + 1) L (.inr (.inr none) :: S) w cu su
  | .iload i => match lg L i with | some (.inl x) => K (pc + 2) L (.inl x :: S) w cu su | _ => False
  | .iload_n i => match lg L i with | some (.inl x) => K (pc + 1) L (.inl x :: S) w cu su | _ => False
  | .lload i => match lg L i with | some (.inr (.inl x)) => K (pc + 2) L (.inr (.inl x) :: S) w cu su | _ => False
  | .lload_n i => match lg L i with | some (.inr (.inl x)) => K (pc + 1) L (.inr (.inl x) :: S) w cu su | _ => False
  | .aload i => match lg L i with | some (.inr (.inr x)) => K (pc + 2) L (.inr (.inr x) :: S) w cu su | _ => False
  | .aload_n i => match lg L i with | some (.inr (.inr x)) => K (pc + 1) L (.inr (.inr x) :: S) w cu su | _ => False
  | .istore i => match S with | .inl x :: S' => i < L.length ∧ K (pc + 2) (st1 L i (.inl x)) S' w cu su | _ => False
  | .istore_n i => match S with | .inl x :: S' => (i : Nat) < L.length ∧ K (pc + 1) (st1 L i (.inl x)) S' w cu su | _ => False
  | .lstore i => match S with | .inr (.inl x) :: S' => i + 1 < L.length ∧ K (pc + 2) (st2 L i (.inr (.inl x))) S' w cu su | _ => False
  | .lstore_n i => match S with | .inr (.inl x) :: S' => (i : Nat) + 1 < L.length ∧ K (pc + 1) (st2 L i (.inr (.inl x))) S' w cu su | _ => False
  | .astore i => match S with | .inr (.inr x) :: S' => i < L.length ∧ K (pc + 2) (st1 L i (.inr (.inr x))) S' w cu su | _ => False
  | .astore_n i => match S with | .inr (.inr x) :: S' => (i : Nat) < L.length ∧ K (pc + 1) (st1 L i (.inr (.inr x))) S' w cu su | _ => False
  | .iinc i k => match lg L i with | some (.inl x) => i < L.length ∧ K (pc + 3) (st1 L i (.inl (x + Int32.ofInt k))) S w cu su | _ => False
  | .iadd => match S with | .inl y :: .inl x :: S' => K (pc + 1) L (.inl (x + y) :: S') w cu su | _ => False
  | .isub => match S with | .inl y :: .inl x :: S' => K (pc + 1) L (.inl (x - y) :: S') w cu su | _ => False
  | .imul => match S with | .inl y :: .inl x :: S' => K (pc + 1) L (.inl (x * y) :: S') w cu su | _ => False
  | .iand => match S with | .inl y :: .inl x :: S' => K (pc + 1) L (.inl (x &&& y) :: S') w cu su | _ => False
  | .ior => match S with | .inl y :: .inl x :: S' => K (pc + 1) L (.inl (x ||| y) :: S') w cu su | _ => False
  | .ixor => match S with | .inl y :: .inl x :: S' => K (pc + 1) L (.inl (x ^^^ y) :: S') w cu su | _ => False
  | .ishl => match S with | .inl y :: .inl x :: S' => K (pc + 1) L (.inl (x <<< (y &&& 31)) :: S') w cu su | _ => False
  | .ishr => match S with | .inl y :: .inl x :: S' => K (pc + 1) L (.inl (x >>> (y &&& 31)) :: S') w cu su | _ => False
  | .iushr => match S with | .inl y :: .inl x :: S' => K (pc + 1) L (.inl (x.toUInt32 >>> (y.toUInt32 &&& Int32.toUInt32 31)).toInt32 :: S') w cu su | _ => False
  | .idiv => match S with | .inl y :: .inl x :: S' => ¬ y = 0 ∧ K (pc + 1) L (.inl (x / y) :: S') w cu su | _ => False
  | .irem => match S with | .inl y :: .inl x :: S' => ¬ y = 0 ∧ K (pc + 1) L (.inl (x - x / y * y) :: S') w cu su | _ => False
  | .ineg => match S with | .inl x :: S' => K (pc + 1) L (.inl (-x) :: S') w cu su | _ => False
  | .ladd => match S with | .inr (.inl y) :: .inr (.inl x) :: S' => K (pc + 1) L (.inr (.inl (x + y)) :: S') w cu su | _ => False
  | .lmul => match S with | .inr (.inl y) :: .inr (.inl x) :: S' => K (pc + 1) L (.inr (.inl (x * y)) :: S') w cu su | _ => False
  | .land => match S with | .inr (.inl y) :: .inr (.inl x) :: S' => K (pc + 1) L (.inr (.inl (x &&& y)) :: S') w cu su | _ => False
  | .ldiv => match S with | .inr (.inl y) :: .inr (.inl x) :: S' => ¬ y = 0 ∧ K (pc + 1) L (.inr (.inl (x / y)) :: S') w cu su | _ => False
  | .lshr => match S with | .inl y :: .inr (.inl x) :: S' => K (pc + 1) L (.inr (.inl (x >>> (y.toInt64 &&& 63))) :: S') w cu su | _ => False
  | .i2l => match S with | .inl x :: S' => K (pc + 1) L (.inr (.inl x.toInt64) :: S') w cu su | _ => False
  | .l2i => match S with | .inr (.inl x) :: S' => K (pc + 1) L (.inl x.toInt32 :: S') w cu su | _ => False
  | .lcmp => match S with | .inr (.inl y) :: .inr (.inl x) :: S' => K (pc + 1) L (.inl (lg_cmp x y) :: S') w cu su | _ => False
  | .lconst k => K (pc + 1) L (.inr (.inl (Int64.ofNat k)) :: S) w cu su
  | .dup => match S with | v :: S' => isL (some v) = false ∧ K (pc + 1) L (v :: v :: S') w cu su | _ => False
  | .pop => match S with | v :: S' => isL (some v) = false ∧ K (pc + 1) L S' w cu su | _ => False
  | .dup_x1 => match S with | v :: u :: S' => isL (some v) = false ∧ isL (some u) = false ∧ K (pc + 1) L (v :: u :: v :: S') w cu su | _ => False
  | .dup2 => match S with | v :: u :: S' => isL (some v) = false ∧ isL (some u) = false ∧ K (pc + 1) L (v :: u :: v :: u :: S') w cu su | _ => False
  | .ifCond .eq off => match S with | .inl x :: S' => 0 ≤ (pc : Int) + off ∧ (x = 0 → K ((pc : Int) + off).toNat L S' w cu su) ∧ (¬ x = 0 → K (pc + 3) L S' w cu su) | _ => False
  | .ifCond .ne off => match S with | .inl x :: S' => 0 ≤ (pc : Int) + off ∧ (¬ x = 0 → K ((pc : Int) + off).toNat L S' w cu su) ∧ (x = 0 → K (pc + 3) L S' w cu su) | _ => False
  | .ifCond .lt off => match S with | .inl x :: S' => 0 ≤ (pc : Int) + off ∧ (x < 0 → K ((pc : Int) + off).toNat L S' w cu su) ∧ (¬ x < 0 → K (pc + 3) L S' w cu su) | _ => False
  | .ifCond .ge off => match S with | .inl x :: S' => 0 ≤ (pc : Int) + off ∧ (0 ≤ x → K ((pc : Int) + off).toNat L S' w cu su) ∧ (¬ 0 ≤ x → K (pc + 3) L S' w cu su) | _ => False
  | .ifCond .gt off => match S with | .inl x :: S' => 0 ≤ (pc : Int) + off ∧ (0 < x → K ((pc : Int) + off).toNat L S' w cu su) ∧ (¬ 0 < x → K (pc + 3) L S' w cu su) | _ => False
  | .ifCond .le off => match S with | .inl x :: S' => 0 ≤ (pc : Int) + off ∧ (x ≤ 0 → K ((pc : Int) + off).toNat L S' w cu su) ∧ (¬ x ≤ 0 → K (pc + 3) L S' w cu su) | _ => False
  | .if_icmp .eq off => match S with | .inl y :: .inl x :: S' => 0 ≤ (pc : Int) + off ∧ (x = y → K ((pc : Int) + off).toNat L S' w cu su) ∧ (¬ x = y → K (pc + 3) L S' w cu su) | _ => False
  | .if_icmp .ne off => match S with | .inl y :: .inl x :: S' => 0 ≤ (pc : Int) + off ∧ (¬ x = y → K ((pc : Int) + off).toNat L S' w cu su) ∧ (x = y → K (pc + 3) L S' w cu su) | _ => False
  | .if_icmp .lt off => match S with | .inl y :: .inl x :: S' => 0 ≤ (pc : Int) + off ∧ (x < y → K ((pc : Int) + off).toNat L S' w cu su) ∧ (¬ x < y → K (pc + 3) L S' w cu su) | _ => False
  | .if_icmp .ge off => match S with | .inl y :: .inl x :: S' => 0 ≤ (pc : Int) + off ∧ (y ≤ x → K ((pc : Int) + off).toNat L S' w cu su) ∧ (¬ y ≤ x → K (pc + 3) L S' w cu su) | _ => False
  | .if_icmp .gt off => match S with | .inl y :: .inl x :: S' => 0 ≤ (pc : Int) + off ∧ (y < x → K ((pc : Int) + off).toNat L S' w cu su) ∧ (¬ y < x → K (pc + 3) L S' w cu su) | _ => False
  | .if_icmp .le off => match S with | .inl y :: .inl x :: S' => 0 ≤ (pc : Int) + off ∧ (x ≤ y → K ((pc : Int) + off).toNat L S' w cu su) ∧ (¬ x ≤ y → K (pc + 3) L S' w cu su) | _ => False
  | .ifnull off => match S with | .inr (.inr none) :: S' => jmp pc off K L S' w cu su | .inr (.inr (some _)) :: S' => K (pc + 3) L S' w cu su | _ => False
  | .ifnonnull off => match S with | .inr (.inr none) :: S' => K (pc + 3) L S' w cu su | .inr (.inr (some _)) :: S' => jmp pc off K L S' w cu su | _ => False
  | .goto off => jmp pc off K L S w cu su
  | .tableswitch d lo hi offs => match S with
    | .inl x :: S' => if x.toInt < lo ∨ hi < x.toInt then jmp pc d K L S' w cu su else (match offs[(x.toInt - lo).toNat]? with | some off => jmp pc off K L S' w cu su | none => False)
    | _ => False
  | .lookupswitch d ps => match S with
    | .inl x :: S' => (ps.toList.zip (ps.toList.drop 1)).all (fun (a, next) => a.1 < next.1) = true ∧ jmp pc (Op.lookupswitch.offset ps.toList d x.toInt) K L S' w cu su
    | _ => False
  | .getfield idx => match ceF C idx with
    | some (ci, k) => (match S with
      | .inr (.inr (some (t, j))) :: S' => t = ci ∧ j < wC w ci ∧ K (pc + 3) L ((if rp ci k = true then .inr (.inr (wR w ci j k)) else .inl (wI w ci j k)) :: S') w cu su
      | _ => False)
    | none => False
  | .putfield idx => match ceF C idx with
    | some (ci, k) => (match S with
      | .inl x :: .inr (.inr (some (t, j))) :: S' => t = ci ∧ j < wC w ci ∧ rp ci k = false ∧ ((clsN ci).2.1 k).2.2.2 = false ∧ nar (some (cTy ci k)) x ∧ K (pc + 3) L S' (sI w ci j k x) cu su
      | _ => False)
    | none => False
  | .iaload => match S with
    | .inl i :: .inr (.inr (some (t, j))) :: S' => if t = 901 then j = 0 ∧ vp_in i (gL G) ∧ K (pc + 1) L (.inl (gS G i.toNatClampNeg) :: S') w cu su else 20 ≤ t ∧ t < 200 ∧ j < wC w t ∧ vp_in i (wN w t j) ∧ K (pc + 1) L (.inl (wI w t j i.toNatClampNeg) :: S') w cu su
    | _ => False
  | .baload => match S with
    | .inl i :: .inr (.inr (some (t, j))) :: S' => 200 ≤ t ∧ t < 300 ∧ j < wC w t ∧ vp_in i (wN w t j) ∧ K (pc + 1) L (.inl (wI w t j i.toNatClampNeg) :: S') w cu su
    | _ => False
  | .aaload => match S with
    | .inl i :: .inr (.inr (some (t, j))) :: S' => 300 ≤ t ∧ t < 900 ∧ j < wC w t ∧ vp_in i (wN w t j) ∧ K (pc + 1) L (.inr (.inr (wR w t j i.toNatClampNeg)) :: S') w cu su
    | _ => False
  | .iastore => match S with
    | .inl x :: .inl i :: .inr (.inr (some (t, j))) :: S' => 20 ≤ t ∧ t < 200 ∧ j < wC w t ∧ vp_in i (wN w t j) ∧ K (pc + 1) L S' (sI w t j i.toNatClampNeg x) cu su
    | _ => False
  | .bastore => match S with
    | .inl x :: .inl i :: .inr (.inr (some (t, j))) :: S' => 200 ≤ t ∧ t < 300 ∧ j < wC w t ∧ vp_in i (wN w t j) ∧ (x = 0 ∨ x = 1) ∧ K (pc + 1) L S' (sI w t j i.toNatClampNeg x) cu su
    | _ => False
  | .arraylength => match S with
    | .inr (.inr (some (t, j))) :: S' => if t = 901 then j = 0 ∧ K (pc + 1) L (.inl (Int32.ofNat (gL G)) :: S') w cu su else 20 ≤ t ∧ t < 900 ∧ j < wC w t ∧ K (pc + 1) L (.inl (Int32.ofNat (wN w t j)) :: S') w cu su
    | _ => False
  | .ldc idx => match ceK C idx with | some (.inl x) => K (pc + 2) L (.inl x :: S) w cu su | _ => False
  | .ldc2_w idx => match ceK C idx with | some (.inr (.inl x)) => K (pc + 3) L (.inr (.inl x) :: S) w cu su | _ => False
  | .checkcast idx => match ceT C idx with
    | some ci => (match S with
      | .inr (.inr (some (t, j))) :: S' => t = ci ∧ ci < 14 ∧ j < wC w ci ∧ K (pc + 3) L (.inr (.inr (some (t, j))) :: S') w cu su
      | _ => False)
    | none => False
  | .invokevirtual idx => match ceM C idx with
    | some c => (match spl c.2.1 [] S with
      | some (as, .inr (.inr (some (t, j))) :: S') => (c.2.2 = 0 ∨ c.2.2 = 3) ∧ t < 14 ∧ (clsN t).1 = (mY c.1).cls ∧ j < wC w t ∧ cll l G n mc ms c (X idx) (.inr (.inr (some (t, j))) :: as) S' w cu su K Kc pc L
      | _ => False)
    | none => False
  | .invokestatic idx => match ceM C idx with
    | some c => (match spl c.2.1 [] S with
      | some (as, S') => (c.2.2 = 1 ∨ c.2.2 = 4) ∧ cll l G n mc ms c (X idx) as S' w cu su K Kc pc L
      | _ => False)
    | none => False
  | .invokespecial idx => match ceM C idx with
    | some c => (match spl c.2.1 [] S with
      | some (as, .inr (.inr (some (t, j))) :: S') => (c.2.2 = 2 ∨ c.2.2 = 5) ∧ t < 14 ∧ cll l G n mc ms c (X idx) (.inr (.inr (some (t, j))) :: as) S' w cu su K Kc pc L
      | _ => False)
    | none => False
  | .ireturn => match S with | [.inl v] => nar (mR M) v ∧ Q (some (.inl v)) w | _ => False
  | .lreturn => match S with | [.inr (.inl v)] => mR M = some .long ∧ Q (some (.inr (.inl v))) w | _ => False
  | .areturn => match S with | [.inr (.inr v)] => (mR M).any rTy = true ∧ Q (some (.inr (.inr v))) w | _ => False
  | .return_ => match S with | [] => mR M = none ∧ Q none w | _ => False
  | _ => False
