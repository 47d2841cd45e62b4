/-! stp, instruction by instruction -/
section
variable {l : Launch} {G : Gc} {M : MI} {C : CE} {X : XE} {n mc ms : Nat} {Q : Option AV → Wd → Prop} {K Kc : KT} {pc : Nat} {L : List (Option AV)} {S : List AV} {w : Wd} {cu su : Nat}
theorem stp_iconst {k : Int} : stp l G M C X n mc ms Q K Kc pc (.iconst k) L S w cu su = (K (pc + 1) L (.inl (Int32.ofInt k) :: S) w cu su) := (rfl)
theorem stp_bipush {k : Int} : stp l G M C X n mc ms Q K Kc pc (.bipush k) L S w cu su = (K (pc + 2) L (.inl (Int8.ofInt k).toInt32 :: S) w cu su) := (rfl)
theorem stp_sipush {k : Int} : stp l G M C X n mc ms Q K Kc pc (.sipush k) L S w cu su = (K (pc + 3) L (.inl (Int16.ofInt k).toInt32 :: S) w cu su) := (rfl)
theorem stp_aconst_null  : stp l G M C X n mc ms Q K Kc pc (.aconst_null) L S w cu su = (K (pc + 1) L (.inr (.inr none) :: S) w cu su) := (rfl)
theorem stp_iload {i : Nat} : stp l G M C X n mc ms Q K Kc pc (.iload i) L S w cu su = (match lg L i with | some (.inl x) => K (pc + 2) L (.inl x :: S) w cu su | _ => False) := (rfl)
theorem stp_iload_n {i : Fin 4} : stp l G M C X n mc ms Q K Kc pc (.iload_n i) L S w cu su = (match lg L i with | some (.inl x) => K (pc + 1) L (.inl x :: S) w cu su | _ => False) := (rfl)
theorem stp_lload {i : Nat} : stp l G M C X n mc ms Q K Kc pc (.lload i) L S w cu su = (match lg L i with | some (.inr (.inl x)) => K (pc + 2) L (.inr (.inl x) :: S) w cu su | _ => False) := (rfl)
theorem stp_lload_n {i : Fin 4} : stp l G M C X n mc ms Q K Kc pc (.lload_n i) L S w cu su = (match lg L i with | some (.inr (.inl x)) => K (pc + 1) L (.inr (.inl x) :: S) w cu su | _ => False) := (rfl)
theorem stp_aload {i : Nat} : stp l G M C X n mc ms Q K Kc pc (.aload i) L S w cu su = (match lg L i with | some (.inr (.inr x)) => K (pc + 2) L (.inr (.inr x) :: S) w cu su | _ => False) := (rfl)
theorem stp_aload_n {i : Fin 4} : stp l G M C X n mc ms Q K Kc pc (.aload_n i) L S w cu su = (match lg L i with | some (.inr (.inr x)) => K (pc + 1) L (.inr (.inr x) :: S) w cu su | _ => False) := (rfl)
theorem stp_istore {i : Nat} {S' : List AV} {x : Int32} : stp l G M C X n mc ms Q K Kc pc (.istore i) L (.inl x :: S') w cu su = (i < L.length ∧ K (pc + 2) (st1 L i (.inl x)) S' w cu su) := (rfl)
theorem stp_istore_n {i : Fin 4} {S' : List AV} {x : Int32} : stp l G M C X n mc ms Q K Kc pc (.istore_n i) L (.inl x :: S') w cu su = ((i : Nat) < L.length ∧ K (pc + 1) (st1 L i (.inl x)) S' w cu su) := (rfl)
theorem stp_lstore {i : Nat} {S' : List AV} {x : Int64} : stp l G M C X n mc ms Q K Kc pc (.lstore i) L (.inr (.inl x) :: S') w cu su = (i + 1 < L.length ∧ K (pc + 2) (st2 L i (.inr (.inl x))) S' w cu su) := (rfl)
theorem stp_lstore_n {i : Fin 4} {S' : List AV} {x : Int64} : stp l G M C X n mc ms Q K Kc pc (.lstore_n i) L (.inr (.inl x) :: S') w cu su = ((i : Nat) + 1 < L.length ∧ K (pc + 1) (st2 L i (.inr (.inl x))) S' w cu su) := (rfl)
theorem stp_astore {i : Nat} {S' : List AV} {x : Option (Nat × Nat)} : stp l G M C X n mc ms Q K Kc pc (.astore i) L (.inr (.inr x) :: S') w cu su = (i < L.length ∧ K (pc + 2) (st1 L i (.inr (.inr x))) S' w cu su) := (rfl)
theorem stp_astore_n {i : Fin 4} {S' : List AV} {x : Option (Nat × Nat)} : stp l G M C X n mc ms Q K Kc pc (.astore_n i) L (.inr (.inr x) :: S') w cu su = ((i : Nat) < L.length ∧ K (pc + 1) (st1 L i (.inr (.inr x))) S' w cu su) := (rfl)
theorem stp_iinc {i : Nat} {k : Int} : stp l G M C X n mc ms Q K Kc pc (.iinc i k) L S w cu su = (match lg L i with | some (.inl x) => i < L.length ∧ K (pc + 3) (st1 L i (.inl (x + Int32.ofInt k))) S w cu su | _ => False) := (rfl)
theorem stp_iadd  {S' : List AV} {x : Int32} {y : Int32} : stp l G M C X n mc ms Q K Kc pc (.iadd) L (.inl y :: .inl x :: S') w cu su = (K (pc + 1) L (.inl (x + y) :: S') w cu su) := (rfl)
theorem stp_isub  {S' : List AV} {x : Int32} {y : Int32} : stp l G M C X n mc ms Q K Kc pc (.isub) L (.inl y :: .inl x :: S') w cu su = (K (pc + 1) L (.inl (x - y) :: S') w cu su) := (rfl)
theorem stp_imul  {S' : List AV} {x : Int32} {y : Int32} : stp l G M C X n mc ms Q K Kc pc (.imul) L (.inl y :: .inl x :: S') w cu su = (K (pc + 1) L (.inl (x * y) :: S') w cu su) := (rfl)
theorem stp_iand  {S' : List AV} {x : Int32} {y : Int32} : stp l G M C X n mc ms Q K Kc pc (.iand) L (.inl y :: .inl x :: S') w cu su = (K (pc + 1) L (.inl (x &&& y) :: S') w cu su) := (rfl)
theorem stp_ior  {S' : List AV} {x : Int32} {y : Int32} : stp l G M C X n mc ms Q K Kc pc (.ior) L (.inl y :: .inl x :: S') w cu su = (K (pc + 1) L (.inl (x ||| y) :: S') w cu su) := (rfl)
theorem stp_ixor  {S' : List AV} {x : Int32} {y : Int32} : stp l G M C X n mc ms Q K Kc pc (.ixor) L (.inl y :: .inl x :: S') w cu su = (K (pc + 1) L (.inl (x ^^^ y) :: S') w cu su) := (rfl)
theorem stp_ishl  {S' : List AV} {x : Int32} {y : Int32} : stp l G M C X n mc ms Q K Kc pc (.ishl) L (.inl y :: .inl x :: S') w cu su = (K (pc + 1) L (.inl (x <<< (y &&& 31)) :: S') w cu su) := (rfl)
theorem stp_ishr  {S' : List AV} {x : Int32} {y : Int32} : stp l G M C X n mc ms Q K Kc pc (.ishr) L (.inl y :: .inl x :: S') w cu su = (K (pc + 1) L (.inl (x >>> (y &&& 31)) :: S') w cu su) := (rfl)
theorem stp_iushr  {S' : List AV} {x : Int32} {y : Int32} : stp l G M C X n mc ms Q K Kc pc (.iushr) L (.inl y :: .inl x :: S') w cu su = (K (pc + 1) L (.inl (x.toUInt32 >>> (y.toUInt32 &&& Int32.toUInt32 31)).toInt32 :: S') w cu su) := (rfl)
theorem stp_idiv  {S' : List AV} {x : Int32} {y : Int32} : stp l G M C X n mc ms Q K Kc pc (.idiv) L (.inl y :: .inl x :: S') w cu su = (¬ y = 0 ∧ K (pc + 1) L (.inl (x / y) :: S') w cu su) := (rfl)
theorem stp_irem  {S' : List AV} {x : Int32} {y : Int32} : stp l G M C X n mc ms Q K Kc pc (.irem) L (.inl y :: .inl x :: S') w cu su = (¬ y = 0 ∧ K (pc + 1) L (.inl (x - x / y * y) :: S') w cu su) := (rfl)
theorem stp_ineg  {S' : List AV} {x : Int32} : stp l G M C X n mc ms Q K Kc pc (.ineg) L (.inl x :: S') w cu su = (K (pc + 1) L (.inl (-x) :: S') w cu su) := (rfl)
theorem stp_ladd  {S' : List AV} {x : Int64} {y : Int64} : stp l G M C X n mc ms Q K Kc pc (.ladd) L (.inr (.inl y) :: .inr (.inl x) :: S') w cu su = (K (pc + 1) L (.inr (.inl (x + y)) :: S') w cu su) := (rfl)
theorem stp_lmul  {S' : List AV} {x : Int64} {y : Int64} : stp l G M C X n mc ms Q K Kc pc (.lmul) L (.inr (.inl y) :: .inr (.inl x) :: S') w cu su = (K (pc + 1) L (.inr (.inl (x * y)) :: S') w cu su) := (rfl)
theorem stp_land  {S' : List AV} {x : Int64} {y : Int64} : stp l G M C X n mc ms Q K Kc pc (.land) L (.inr (.inl y) :: .inr (.inl x) :: S') w cu su = (K (pc + 1) L (.inr (.inl (x &&& y)) :: S') w cu su) := (rfl)
theorem stp_ldiv  {S' : List AV} {x : Int64} {y : Int64} : stp l G M C X n mc ms Q K Kc pc (.ldiv) L (.inr (.inl y) :: .inr (.inl x) :: S') w cu su = (¬ y = 0 ∧ K (pc + 1) L (.inr (.inl (x / y)) :: S') w cu su) := (rfl)
theorem stp_lshr  {S' : List AV} {x : Int64} {y : Int32} : stp l G M C X n mc ms Q K Kc pc (.lshr) L (.inl y :: .inr (.inl x) :: S') w cu su = (K (pc + 1) L (.inr (.inl (x >>> (y.toInt64 &&& 63))) :: S') w cu su) := (rfl)
theorem stp_i2l  {S' : List AV} {x : Int32} : stp l G M C X n mc ms Q K Kc pc (.i2l) L (.inl x :: S') w cu su = (K (pc + 1) L (.inr (.inl x.toInt64) :: S') w cu su) := (rfl)
theorem stp_l2i  {S' : List AV} {x : Int64} : stp l G M C X n mc ms Q K Kc pc (.l2i) L (.inr (.inl x) :: S') w cu su = (K (pc + 1) L (.inl x.toInt32 :: S') w cu su) := (rfl)
theorem stp_lcmp  {S' : List AV} {x : Int64} {y : Int64} : stp l G M C X n mc ms Q K Kc pc (.lcmp) L (.inr (.inl y) :: .inr (.inl x) :: S') w cu su = (K (pc + 1) L (.inl (lg_cmp x y) :: S') w cu su) := (rfl)
theorem stp_lconst {k : Fin 2} : stp l G M C X n mc ms Q K Kc pc (.lconst k) L S w cu su = (K (pc + 1) L (.inr (.inl (Int64.ofNat k)) :: S) w cu su) := (rfl)
theorem stp_dup  {S' : List AV} {v : AV} : stp l G M C X n mc ms Q K Kc pc (.dup) L (v :: S') w cu su = (isL (some v) = false ∧ K (pc + 1) L (v :: v :: S') w cu su) := (rfl)
theorem stp_pop  {S' : List AV} {v : AV} : stp l G M C X n mc ms Q K Kc pc (.pop) L (v :: S') w cu su = (isL (some v) = false ∧ K (pc + 1) L S' w cu su) := (rfl)
theorem stp_dup_x1  {S' : List AV} {u : AV} {v : AV} : stp l G M C X n mc ms Q K Kc pc (.dup_x1) L (v :: u :: S') w cu su = (isL (some v) = false ∧ isL (some u) = false ∧ K (pc + 1) L (v :: u :: v :: S') w cu su) := (rfl)
theorem stp_dup2  {S' : List AV} {u : AV} {v : AV} : stp l G M C X n mc ms Q K Kc pc (.dup2) L (v :: u :: S') w cu su = (isL (some v) = false ∧ isL (some u) = false ∧ K (pc + 1) L (v :: u :: v :: u :: S') w cu su) := (rfl)
theorem stp_ifCond_eq {off : Int} {S' : List AV} {x : Int32} : stp l G M C X n mc ms Q K Kc pc (.ifCond .eq off) L (.inl x :: S') w cu su = (0 ≤ (pc : Int) + off ∧ (x = 0 → K ((pc : Int) + off).toNat L S' w cu su) ∧ (¬ x = 0 → K (pc + 3) L S' w cu su)) := (rfl)
theorem stp_ifCond_ne {off : Int} {S' : List AV} {x : Int32} : stp l G M C X n mc ms Q K Kc pc (.ifCond .ne off) L (.inl x :: S') w cu su = (0 ≤ (pc : Int) + off ∧ (¬ x = 0 → K ((pc : Int) + off).toNat L S' w cu su) ∧ (x = 0 → K (pc + 3) L S' w cu su)) := (rfl)
theorem stp_ifCond_lt {off : Int} {S' : List AV} {x : Int32} : stp l G M C X n mc ms Q K Kc pc (.ifCond .lt off) L (.inl x :: S') w cu su = (0 ≤ (pc : Int) + off ∧ (x < 0 → K ((pc : Int) + off).toNat L S' w cu su) ∧ (¬ x < 0 → K (pc + 3) L S' w cu su)) := (rfl)
theorem stp_ifCond_ge {off : Int} {S' : List AV} {x : Int32} : stp l G M C X n mc ms Q K Kc pc (.ifCond .ge off) L (.inl x :: S') w cu su = (0 ≤ (pc : Int) + off ∧ (0 ≤ x → K ((pc : Int) + off).toNat L S' w cu su) ∧ (¬ 0 ≤ x → K (pc + 3) L S' w cu su)) := (rfl)
theorem stp_ifCond_gt {off : Int} {S' : List AV} {x : Int32} : stp l G M C X n mc ms Q K Kc pc (.ifCond .gt off) L (.inl x :: S') w cu su = (0 ≤ (pc : Int) + off ∧ (0 < x → K ((pc : Int) + off).toNat L S' w cu su) ∧ (¬ 0 < x → K (pc + 3) L S' w cu su)) := (rfl)
theorem stp_ifCond_le {off : Int} {S' : List AV} {x : Int32} : stp l G M C X n mc ms Q K Kc pc (.ifCond .le off) L (.inl x :: S') w cu su = (0 ≤ (pc : Int) + off ∧ (x ≤ 0 → K ((pc : Int) + off).toNat L S' w cu su) ∧ (¬ x ≤ 0 → K (pc + 3) L S' w cu su)) := (rfl)
theorem stp_if_icmp_eq {off : Int} {S' : List AV} {x : Int32} {y : Int32} : stp l G M C X n mc ms Q K Kc pc (.if_icmp .eq off) L (.inl y :: .inl x :: S') w cu su = (0 ≤ (pc : Int) + off ∧ (x = y → K ((pc : Int) + off).toNat L S' w cu su) ∧ (¬ x = y → K (pc + 3) L S' w cu su)) := (rfl)
theorem stp_if_icmp_ne {off : Int} {S' : List AV} {x : Int32} {y : Int32} : stp l G M C X n mc ms Q K Kc pc (.if_icmp .ne off) L (.inl y :: .inl x :: S') w cu su = (0 ≤ (pc : Int) + off ∧ (¬ x = y → K ((pc : Int) + off).toNat L S' w cu su) ∧ (x = y → K (pc + 3) L S' w cu su)) := (rfl)
theorem stp_if_icmp_lt {off : Int} {S' : List AV} {x : Int32} {y : Int32} : stp l G M C X n mc ms Q K Kc pc (.if_icmp .lt off) L (.inl y :: .inl x :: S') w cu su = (0 ≤ (pc : Int) + off ∧ (x < y → K ((pc : Int) + off).toNat L S' w cu su) ∧ (¬ x < y → K (pc + 3) L S' w cu su)) := (rfl)
theorem stp_if_icmp_ge {off : Int} {S' : List AV} {x : Int32} {y : Int32} : stp l G M C X n mc ms Q K Kc pc (.if_icmp .ge off) L (.inl y :: .inl x :: S') w cu su = (0 ≤ (pc : Int) + off ∧ (y ≤ x → K ((pc : Int) + off).toNat L S' w cu su) ∧ (¬ y ≤ x → K (pc + 3) L S' w cu su)) := (rfl)
theorem stp_if_icmp_gt {off : Int} {S' : List AV} {x : Int32} {y : Int32} : stp l G M C X n mc ms Q K Kc pc (.if_icmp .gt off) L (.inl y :: .inl x :: S') w cu su = (0 ≤ (pc : Int) + off ∧ (y < x → K ((pc : Int) + off).toNat L S' w cu su) ∧ (¬ y < x → K (pc + 3) L S' w cu su)) := (rfl)
theorem stp_if_icmp_le {off : Int} {S' : List AV} {x : Int32} {y : Int32} : stp l G M C X n mc ms Q K Kc pc (.if_icmp .le off) L (.inl y :: .inl x :: S') w cu su = (0 ≤ (pc : Int) + off ∧ (x ≤ y → K ((pc : Int) + off).toNat L S' w cu su) ∧ (¬ x ≤ y → K (pc + 3) L S' w cu su)) := (rfl)
theorem stp_ifnull {off : Int} : stp l G M C X n mc ms Q K Kc pc (.ifnull off) L S w cu su = (match S with | .inr (.inr none) :: S' => jmp pc off K L S' w cu su | .inr (.inr (some _)) :: S' => K (pc + 3) L S' w cu su | _ => False) := (rfl)
theorem stp_ifnonnull {off : Int} : stp l G M C X n mc ms Q K Kc pc (.ifnonnull off) L S w cu su = (match S with | .inr (.inr none) :: S' => K (pc + 3) L S' w cu su | .inr (.inr (some _)) :: S' => jmp pc off K L S' w cu su | _ => False) := (rfl)
theorem stp_goto {off : Int} : stp l G M C X n mc ms Q K Kc pc (.goto off) L S w cu su = (jmp pc off K L S w cu su) := (rfl)
theorem stp_tableswitch {d : Int} {lo : Int} {hi : Int} {offs : Array Int} : stp l G M C X n mc ms Q K Kc pc (.tableswitch d lo hi offs) L S w cu su = (match S with
    | .inl x :: S' => if x.toInt < lo ∨ hi < x.toInt then jmp pc d K L S' w cu su else (match offs[(x.toInt - lo).toNat]? with | some off => jmp pc off K L S' w cu su | none => False)
    | _ => False) := (rfl)
theorem stp_lookupswitch {d : Int} {ps : Array (Int × Int)} : stp l G M C X n mc ms Q K Kc pc (.lookupswitch d ps) L S w cu su = (match S with
    | .inl x :: S' => (ps.toList.zip (ps.toList.drop 1)).all (fun (a, next) => a.1 < next.1) = true ∧ jmp pc (Op.lookupswitch.offset ps.toList d x.toInt) K L S' w cu su
    | _ => False) := (rfl)
theorem stp_getfield {idx : Nat} : stp l G M C X n mc ms Q K Kc pc (.getfield idx) L S w cu su = (match ceF C idx with
    | some (ci, k) => (match S with
      | .inr (.inr (some (t, j))) :: S' => t = ci ∧ j < wC w ci ∧ K (pc + 3) L ((if rp ci k = true then .inr (.inr (wR w ci j k)) else .inl (wI w ci j k)) :: S') w cu su
      | _ => False)
    | none => False) := (rfl)
theorem stp_putfield {idx : Nat} : stp l G M C X n mc ms Q K Kc pc (.putfield idx) L S w cu su = (match ceF C idx with
    | some (ci, k) => (match S with
      | .inl x :: .inr (.inr (some (t, j))) :: S' => t = ci ∧ j < wC w ci ∧ rp ci k = false ∧ ((clsN ci).2.1 k).2.2.2 = false ∧ nar (some (cTy ci k)) x ∧ K (pc + 3) L S' (sI w ci j k x) cu su
      | _ => False)
    | none => False) := (rfl)
theorem stp_iaload  : stp l G M C X n mc ms Q K Kc pc (.iaload) L S w cu su = (match S with
    | .inl i :: .inr (.inr (some (t, j))) :: S' => if t = 901 then j = 0 ∧ vp_in i (gL G) ∧ K (pc + 1) L (.inl (gS G i.toNatClampNeg) :: S') w cu su else 20 ≤ t ∧ t < 200 ∧ j < wC w t ∧ vp_in i (wN w t j) ∧ K (pc + 1) L (.inl (wI w t j i.toNatClampNeg) :: S') w cu su
    | _ => False) := (rfl)
theorem stp_baload  : stp l G M C X n mc ms Q K Kc pc (.baload) L S w cu su = (match S with
    | .inl i :: .inr (.inr (some (t, j))) :: S' => 200 ≤ t ∧ t < 300 ∧ j < wC w t ∧ vp_in i (wN w t j) ∧ K (pc + 1) L (.inl (wI w t j i.toNatClampNeg) :: S') w cu su
    | _ => False) := (rfl)
theorem stp_aaload  : stp l G M C X n mc ms Q K Kc pc (.aaload) L S w cu su = (match S with
    | .inl i :: .inr (.inr (some (t, j))) :: S' => 300 ≤ t ∧ t < 900 ∧ j < wC w t ∧ vp_in i (wN w t j) ∧ K (pc + 1) L (.inr (.inr (wR w t j i.toNatClampNeg)) :: S') w cu su
    | _ => False) := (rfl)
theorem stp_iastore  : stp l G M C X n mc ms Q K Kc pc (.iastore) L S w cu su = (match S with
    | .inl x :: .inl i :: .inr (.inr (some (t, j))) :: S' => 20 ≤ t ∧ t < 200 ∧ j < wC w t ∧ vp_in i (wN w t j) ∧ K (pc + 1) L S' (sI w t j i.toNatClampNeg x) cu su
    | _ => False) := (rfl)
theorem stp_bastore  : stp l G M C X n mc ms Q K Kc pc (.bastore) L S w cu su = (match S with
    | .inl x :: .inl i :: .inr (.inr (some (t, j))) :: S' => 200 ≤ t ∧ t < 300 ∧ j < wC w t ∧ vp_in i (wN w t j) ∧ (x = 0 ∨ x = 1) ∧ K (pc + 1) L S' (sI w t j i.toNatClampNeg x) cu su
    | _ => False) := (rfl)
theorem stp_arraylength  : stp l G M C X n mc ms Q K Kc pc (.arraylength) L S w cu su = (match S with
    | .inr (.inr (some (t, j))) :: S' => if t = 901 then j = 0 ∧ K (pc + 1) L (.inl (Int32.ofNat (gL G)) :: S') w cu su else 20 ≤ t ∧ t < 900 ∧ j < wC w t ∧ K (pc + 1) L (.inl (Int32.ofNat (wN w t j)) :: S') w cu su
    | _ => False) := (rfl)
theorem stp_ldc {idx : Nat} : stp l G M C X n mc ms Q K Kc pc (.ldc idx) L S w cu su = (match ceK C idx with | some (.inl x) => K (pc + 2) L (.inl x :: S) w cu su | _ => False) := (rfl)
theorem stp_ldc2_w {idx : Nat} : stp l G M C X n mc ms Q K Kc pc (.ldc2_w idx) L S w cu su = (match ceK C idx with | some (.inr (.inl x)) => K (pc + 3) L (.inr (.inl x) :: S) w cu su | _ => False) := (rfl)
theorem stp_checkcast {idx : Nat} : stp l G M C X n mc ms Q K Kc pc (.checkcast idx) L S w cu su = (match ceT C idx with
    | some ci => (match S with
      | .inr (.inr (some (t, j))) :: S' => t = ci ∧ ci < 14 ∧ j < wC w ci ∧ K (pc + 3) L (.inr (.inr (some (t, j))) :: S') w cu su
      | _ => False)
    | none => False) := (rfl)
theorem stp_invokevirtual {idx : Nat} : stp l G M C X n mc ms Q K Kc pc (.invokevirtual idx) L S w cu su = (match ceM C idx with
    | some c => (match spl c.2.1 [] S with
      | some (as, .inr (.inr (some (t, j))) :: S') => (c.2.2 = 0 ∨ c.2.2 = 3) ∧ t < 14 ∧ (clsN t).1 = (mY c.1).cls ∧ j < wC w t ∧ cll l G n mc ms c (X idx) (.inr (.inr (some (t, j))) :: as) S' w cu su K Kc pc L
      | _ => False)
    | none => False) := (rfl)
theorem stp_invokestatic {idx : Nat} : stp l G M C X n mc ms Q K Kc pc (.invokestatic idx) L S w cu su = (match ceM C idx with
    | some c => (match spl c.2.1 [] S with
      | some (as, S') => (c.2.2 = 1 ∨ c.2.2 = 4) ∧ cll l G n mc ms c (X idx) as S' w cu su K Kc pc L
      | _ => False)
    | none => False) := (rfl)
theorem stp_invokespecial {idx : Nat} : stp l G M C X n mc ms Q K Kc pc (.invokespecial idx) L S w cu su = (match ceM C idx with
    | some c => (match spl c.2.1 [] S with
      | some (as, .inr (.inr (some (t, j))) :: S') => (c.2.2 = 2 ∨ c.2.2 = 5) ∧ t < 14 ∧ cll l G n mc ms c (X idx) (.inr (.inr (some (t, j))) :: as) S' w cu su K Kc pc L
      | _ => False)
    | none => False) := (rfl)
theorem stp_ireturn  {v : Int32} : stp l G M C X n mc ms Q K Kc pc (.ireturn) L ((.inl v :: [])) w cu su = (nar (mR M) v ∧ Q (some (.inl v)) w) := (rfl)
theorem stp_lreturn  {v : Int64} : stp l G M C X n mc ms Q K Kc pc (.lreturn) L ([.inr (.inl v)]) w cu su = (mR M = some .long ∧ Q (some (.inr (.inl v))) w) := (rfl)
theorem stp_areturn  {v : Option (Nat × Nat)} : stp l G M C X n mc ms Q K Kc pc (.areturn) L ([.inr (.inr v)]) w cu su = ((mR M).any rTy = true ∧ Q (some (.inr (.inr v))) w) := (rfl)
theorem stp_return_   : stp l G M C X n mc ms Q K Kc pc (.return_) L ([]) w cu su = (mR M = none ∧ Q none w) := (rfl)
end
section
variable {l : Launch} {G : Gc} {M : MI} {C : CE} {X : XE} {tb : TB} {st : List Nat} {n mc ms : Nat} {Q : Option AV → Wd → Prop} {K Kc : KT} {f pc : Nat} {L : List (Option AV)} {S : List AV} {w : Wd} {cu su : Nat}
theorem wpn_s : wpn l G M C X tb st n mc ms Q (f + 1) pc L S w cu su = if st.contains pc = true then WP l G M n mc ms Q pc L S w cu su else match alk tb pc with
    | some (ins, _) => stp l G M C X n mc ms Q (wpn l G M C X tb st n mc ms Q f) (WP l G M n mc ms Q) pc ins L S w cu su
    | none => False := (rfl)
theorem wp1_s : wp1 l G M C X tb st n mc ms Q f pc L S w cu su = match alk tb pc with
    | some (ins, _) => stp l G M C X n mc ms Q (wpn l G M C X tb st n mc ms Q f) (WP l G M n mc ms Q) pc ins L S w cu su
    | none => False := (rfl)
theorem jmp_s {off : Int} : jmp pc off K L S w cu su = (0 ≤ (pc : Int) + off ∧ K ((pc : Int) + off).toNat L S w cu su) := (rfl)
theorem cll_n {c : Cal} {as : List AV} : cll l G n mc ms c none as S w cu su K Kc pc L = (catS S ≤ 8 ∧ ∃ n' mc' ms', n' < n ∧ cu + mc' ≤ mc ∧ su + ms' ≤ ms ∧ Sem l G c.1 n' mc' ms' as w (fun r w' => Kc (pc + 3) L (r.toList ++ S) w' (cu + mc') (su + ms'))) := (rfl)
theorem cll_s {c : Cal} {as : List AV} {n' : Nat} {g : FS} : cll l G n mc ms c (some (n', g)) as S w cu su K Kc pc L = (catS S ≤ 8 ∧ n' < n ∧ match g as w with | some (r, w') => K (pc + 3) L (r.toList ++ S) w' cu su | none => False) := (rfl)
theorem lg_0 {a : Option AV} {l : List (Option AV)} : lg (a :: l) 0 = a := (rfl)
theorem lg_s {a : Option AV} {l : List (Option AV)} {n : Nat} : lg (a :: l) (n + 1) = lg l n := (rfl)
theorem lset_0 {a v : Option AV} {l : List (Option AV)} : lset (a :: l) 0 v = v :: l := (rfl)
theorem lset_s {a v : Option AV} {l : List (Option AV)} {n : Nat} : lset (a :: l) (n + 1) v = a :: lset l n v := (rfl)
theorem isL_i {x : Int32} : isL (some (.inl x)) = false := (rfl)
theorem isL_l {x : Int64} : isL (some (.inr (.inl x))) = true := (rfl)
theorem isL_r {x : Option (Nat × Nat)} : isL (some (.inr (.inr x))) = false := (rfl)
theorem isL_n : isL none = false := (rfl)
theorem kil_0 {L : List (Option AV)} : kil L 0 = L := (rfl)
theorem kil_s {L : List (Option AV)} {i : Nat} : kil L (i + 1) = if isL (lg L i) = true then lset L i none else L := (rfl)
theorem st1_s {i : Nat} {v : AV} : st1 L i v = lset (kil L i) i (some v) := (rfl)
theorem st2_s {i : Nat} {v : AV} : st2 L i v = lset (lset (kil L i) i (some v)) (i + 1) none := (rfl)
theorem spl_0 {acc : List AV} : spl 0 acc S = some (acc, S) := (rfl)
theorem spl_s {n : Nat} {acc : List AV} {v : AV} : spl (n + 1) acc (v :: S) = spl n (v :: acc) S := (rfl)
theorem catS_0 : catS [] = 0 := (rfl)
theorem catS_s {v : AV} : catS (v :: S) = (if isL (some v) = true then 2 else 1) + catS S := (rfl)
theorem inL_0 : inL [] = [] := (rfl)
theorem inL_s {v : AV} {as : List AV} : inL (v :: as) = if isL (some v) = true then some v :: none :: inL as else some v :: inL as := (rfl)
theorem pad_0 {l : List (Option AV)} : pad 0 l = [] := (rfl)
theorem pad_n {n : Nat} : pad (n + 1) [] = none :: pad n [] := (rfl)
theorem pad_s {n : Nat} {v : Option AV} {l : List (Option AV)} : pad (n + 1) (v :: l) = v :: pad n l := (rfl)
theorem alk_0 {α : Type} {k : Nat} : alk ([] : List (Nat × α)) k = none := (rfl)
theorem alk_s {α : Type} {k a : Nat} {b : α} {l : List (Nat × α)} : alk ((a, b) :: l) k = if a = k then some b else alk l k := (rfl)
theorem otl_n : (none : Option AV).toList = [] := (rfl)
theorem otl_s {a : AV} : (some a).toList = [a] := (rfl)
theorem yI_sI (w : Wd) (t k i : Nat) (v : Int32) (t' k' i' : Nat) : wI (sI w t k i v) t' k' i' = if t' = t ∧ k' = k ∧ i' = i then v else wI w t' k' i' := (rfl)
theorem yR_sI (w : Wd) (t k i : Nat) (v : Int32) (t' k' i' : Nat) : wR (sI w t k i v) t' k' i' = wR w t' k' i' := (rfl)
theorem yC_sI (w : Wd) (t k i : Nat) (v : Int32) (t' : Nat) : wC (sI w t k i v) t' = wC w t' := (rfl)
theorem yN_sI (w : Wd) (t k i : Nat) (v : Int32) (t' k' : Nat) : wN (sI w t k i v) t' k' = wN w t' k' := (rfl)
theorem yR_sR (w : Wd) (t k i : Nat) (v : Option (Nat × Nat)) (t' k' i' : Nat) : wR (sR w t k i v) t' k' i' = if t' = t ∧ k' = k ∧ i' = i then v else wR w t' k' i' := (rfl)
theorem yI_sR (w : Wd) (t k i : Nat) (v : Option (Nat × Nat)) (t' k' i' : Nat) : wI (sR w t k i v) t' k' i' = wI w t' k' i' := (rfl)
theorem yC_sR (w : Wd) (t k i : Nat) (v : Option (Nat × Nat)) (t' : Nat) : wC (sR w t k i v) t' = wC w t' := (rfl)
theorem yN_sR (w : Wd) (t k i : Nat) (v : Option (Nat × Nat)) (t' k' : Nat) : wN (sR w t k i v) t' k' = wN w t' k' := (rfl)
theorem yI_nC (w : Wd) (t n : Nat) (t' k' i' : Nat) : wI (nC w t n) t' k' i' = if t' = t ∧ k' = wC w t then 0 else wI w t' k' i' := (rfl)
theorem yR_nC (w : Wd) (t n : Nat) (t' k' i' : Nat) : wR (nC w t n) t' k' i' = if t' = t ∧ k' = wC w t then none else wR w t' k' i' := (rfl)
theorem yC_nC (w : Wd) (t n : Nat) (t' : Nat) : wC (nC w t n) t' = if t' = t then wC w t + 1 else wC w t' := (rfl)
theorem yN_nC (w : Wd) (t n : Nat) (t' k' : Nat) : wN (nC w t n) t' k' = if t' = t ∧ k' = wC w t then n else wN w t' k' := (rfl)
end
