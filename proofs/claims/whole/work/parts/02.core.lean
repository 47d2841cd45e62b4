/-! abstract values, worlds: a cell is (tag, number of its kind); ints and references by place; how many of a tag there are; an array's length -/
abbrev AV : Type := Int32 ⊕ (Int64 ⊕ Option (Nat × Nat))
abbrev Wd : Type := (Nat → Nat → Nat → Int32) × ((Nat → Nat → Nat → Option (Nat × Nat)) × ((Nat → Nat) × (Nat → Nat → Nat)))
def wI (w : Wd) : Nat → Nat → Nat → Int32 := w.1
def wR (w : Wd) : Nat → Nat → Nat → Option (Nat × Nat) := w.2.1
def wC (w : Wd) : Nat → Nat := w.2.2.1
def wN (w : Wd) : Nat → Nat → Nat := w.2.2.2
def sI (w : Wd) (t k i : Nat) (v : Int32) : Wd := (fun t' k' i' => if t' = t ∧ k' = k ∧ i' = i then v else w.1 t' k' i', w.2)
def sR (w : Wd) (t k i : Nat) (v : Option (Nat × Nat)) : Wd := (w.1, fun t' k' i' => if t' = t ∧ k' = k ∧ i' = i then v else w.2.1 t' k' i', w.2.2)
def nC (w : Wd) (t n : Nat) : Wd := (fun t' k' i' => if t' = t ∧ k' = w.2.2.1 t then 0 else w.1 t' k' i', fun t' k' i' => if t' = t ∧ k' = w.2.2.1 t then none else w.2.1 t' k' i', fun t' => if t' = t then w.2.2.1 t + 1 else w.2.2.1 t', fun t' k' => if t' = t ∧ k' = w.2.2.1 t then n else w.2.2.2 t' k')
theorem wI_sI (w : Wd) (t k i : Nat) (v : Int32) (t' k' i' : Nat) : wI (sI w t k i v) t' k' i' = if t' = t ∧ k' = k ∧ i' = i then v else wI w t' k' i' := rfl
theorem wR_sI (w : Wd) (t k i : Nat) (v : Int32) : wR (sI w t k i v) = wR w := rfl
theorem wC_sI (w : Wd) (t k i : Nat) (v : Int32) : wC (sI w t k i v) = wC w := rfl
theorem wN_sI (w : Wd) (t k i : Nat) (v : Int32) : wN (sI w t k i v) = wN w := rfl
theorem wR_sR (w : Wd) (t k i : Nat) (v : Option (Nat × Nat)) (t' k' i' : Nat) : wR (sR w t k i v) t' k' i' = if t' = t ∧ k' = k ∧ i' = i then v else wR w t' k' i' := rfl
theorem wI_sR (w : Wd) (t k i : Nat) (v : Option (Nat × Nat)) : wI (sR w t k i v) = wI w := rfl
theorem wC_sR (w : Wd) (t k i : Nat) (v : Option (Nat × Nat)) : wC (sR w t k i v) = wC w := rfl
theorem wN_sR (w : Wd) (t k i : Nat) (v : Option (Nat × Nat)) : wN (sR w t k i v) = wN w := rfl
theorem wI_nC (w : Wd) (t n : Nat) (t' k' i' : Nat) : wI (nC w t n) t' k' i' = if t' = t ∧ k' = wC w t then 0 else wI w t' k' i' := rfl
theorem wR_nC (w : Wd) (t n : Nat) (t' k' i' : Nat) : wR (nC w t n) t' k' i' = if t' = t ∧ k' = wC w t then none else wR w t' k' i' := rfl
theorem wC_nC (w : Wd) (t n : Nat) (t' : Nat) : wC (nC w t n) t' = if t' = t then wC w t + 1 else wC w t' := rfl
theorem wN_nC (w : Wd) (t n : Nat) (t' k' : Nat) : wN (nC w t n) t' k' = if t' = t ∧ k' = wC w t then n else wN w t' k' := rfl
/-! the classes, by their tags -/
abbrev cls : List vw_C := [(RX11, TX11, 10), (RX10, TX10, 5), (RJx4a65c, TJx4a65c, 3), (RX8, TX8, 3), (RX6, TX6, 1), (RX2, TX2, 3), (RX3, TX3, 15), (RX4, TX4, 3), (RX9, TX9, 4), (RX0, TX0, 5), (RX1, TX1, 11), (RX7, TX7, 11), (RX5, TX5, 9), (RX12, TX12, 69)]
def clsN : Nat → String × u_T × Nat := fun c => (cls[c]?).getD ("", TX11, 0)
def cTy (c : Nat) : Nat → FieldType := match c with
  | 0 => tyX11 | 1 => tyX10 | 2 => tyJx4a65c | 3 => tyX8 | 4 => tyX6 | 5 => tyX2 | 6 => tyX3 | 7 => tyX4 | 8 => tyX9 | 9 => tyX0 | 10 => tyX1 | 11 => tyX7 | 12 => tyX5 | _ => tyX12
def rTy : FieldType → Bool
  | .object _ => true
  | .array _ => true
  | _ => false
def ak (t : Nat) : Nat := if t < 200 then 0 else if t < 300 then 1 else if t = 300 then 2 else if t = 301 then 3 else 4
def eTk (a : Nat) : FieldType := match a with
  | 0 => .int | 1 => .boolean | 2 => .object "java/lang/Object" | 3 => .object "StockYard$Way" | _ => .array .int
def eTy (t : Nat) : FieldType := eTk (ak t)
def rp (t i : Nat) : Bool := if t < 20 then rTy (cTy t i) else rTy (eTy t)
/-- the launch's own numbers: classes, slots, array classes, the heap at the start, what stands outside the world, the script -/
abbrev Gc : Type := (Nat → ClassId) × ((Nat → Nat → Nat) × ((Nat → ClassId) × (Heap × ((Nat → Nat → Nat) × (Nat × (Nat → Int32))))))
def gC (G : Gc) : Nat → ClassId := G.1
def gI (G : Gc) : Nat → Nat → Nat := G.2.1
def gA (G : Gc) : Nat → ClassId := G.2.2.1
def gH (G : Gc) : Heap := G.2.2.2.1
def gX (G : Gc) : Nat → Nat → Nat := G.2.2.2.2.1
def gL (G : Gc) : Nat := G.2.2.2.2.2.1
def gS (G : Gc) : Nat → Int32 := G.2.2.2.2.2.2
def n0 (G : Gc) : Nat := (gH G).size
abbrev tysG (G : Gc) : List (ClassId × FieldType) := [(gA G 0, eTk 0), (gA G 1, eTk 1), (gA G 2, eTk 2), (gA G 3, eTk 3), (gA G 4, eTk 4)]
def renR (ad : Nat → Nat → Nat) : Option (Nat × Nat) → Value
  | none => .null
  | some q => .ref (ad q.1 q.2)
def renV (ad : Nat → Nat → Nat) : AV → Value
  | .inl x => .int x
  | .inr (.inl x) => .long x
  | .inr (.inr r) => renR ad r
def vAt (ad : Nat → Nat → Nat) (w : Wd) (t k i : Nat) : Value := if rp t i = true then renR ad (wR w t k i) else .int (wI w t k i)
def cOk (G : Gc) (t a n : Nat) (V : Nat → Value) (H : Heap) : Prop :=
  if t < 20 then ∃ r : vw_C, cls[t]? = some r ∧ t_OB a (gC G t) r.2.2 (gI G t) H V else H[a]? = some (arrV (gA G (ak t)) n V)
def clq (w : Wd) (q : Nat × Nat) : Prop := 900 ≤ q.1 ∨ q.2 < wC w q.1
def clV (w : Wd) : AV → Prop
  | .inr (.inr (some q)) => clq w q
  | _ => True
def Rel (G : Gc) (ad : Nat → Nat → Nat) (w : Wd) (H : Heap) : Prop :=
  (∀ t k, t < 900 → k < wC w t → cOk G t (ad t k) (wN w t k) (vAt ad w t k) H ∧ n0 G ≤ ad t k) ∧
  (∀ t k t' k', t < 900 → t' < 900 → k < wC w t → k' < wC w t' → ad t k = ad t' k' → t = t' ∧ k = k') ∧
  (∀ t k i q, k < wC w t → wR w t k i = some q → clq w q) ∧
  (∀ t k, 900 ≤ t → ad t k = gX G t k) ∧ n0 G ≤ H.size ∧ ∀ q, q < n0 G → H[q]? = (gH G)[q]?
/-! strings of the tape -/
def sLen : List Nat := [4, 3, 5, 3, 4, 5, 5, 6, 5, 4, 4]
def sByt : List (List Int32) := [[100, 111, 99, 107], [102, 101, 101], [119, 97, 116, 101, 114], [98, 97, 114], [107, 105, 110, 100], [111, 119, 110, 101, 114], [104, 101, 97, 100, 115], [116, 104, 105, 114, 115, 116], [98, 117, 121, 101, 114], [32, 105, 102, 32], [32, 111, 114, 32]]
def nestW : List Cond := lw_tbl.filter (fun w => match w with | .methodLinkNest .. => true | .castable .. => true | _ => false)
abbrev gOut (G : Gc) : Nat → Prop := fun q => n0 G ≤ q
def goodT : List Cond := lw_tbl.filter goodWord
def sKey : List Nat := [83, 85, 87, 89, 91, 93, 95, 97, 99, 42, 55]
def sTxt : List String := ["dock", "fee", "water", "bar", "kind", "owner", "heads", "thirst", "buyer", " if ", " or "]
/-- arrays of int rows -/
def xa_AOI (U : State) : Prop := (Cond.arrayOver (.array .int)).before #[] U = true
theorem xa_AOI.moved {u U : State} (hvm : u.vm.Alike U.vm) (h : xa_AOI u) : xa_AOI U := over_moved hvm h
/-- a formatter, or none -/
def sioR (G : Gc) : Option (Nat × Nat) := if gX G 905 1 = 0 then none else some (905, 0)
/-- what stands outside the world, and never changes -/
def Ext (G : Gc) (U : State) : Prop :=
  va_Z "java/util/ArrayList" "DEFAULTCAPACITY_EMPTY_ELEMENTDATA" "[Ljava/lang/Object;" (.ref (gX G 900 0)) (gOut G) U (gH G) ∧
  va_T (.object "java/lang/Object") (gX G 900 0) 0 (fun _ => .null) (gOut G) U (gH G) ∧
  va_Z "java/lang/String" "COMPACT_STRINGS" "Z" (.int 1) (gOut G) U (gH G) ∧
  vk_S 11 sLen sByt (gX G 902) (gX G 903) (gOut G) U (gH G) ∧
  (∀ i : Nat, i < 11 → vk_R "StockYard$Tape" (sKey.getD i 0) (sTxt.getD i "") (gX G 902 i) U) ∧
  va_Mi "[Ljava/lang/Object;" (gX G 904 0) U ∧ va_Dc U ∧ va_AO "java/lang/Object" U ∧ (va_AO "StockYard$Way" U ∧ (xa_AOI U ∧ va_Z "jdk/internal/util/Preconditions" "SIOOBE_FORMATTER" "Ljava/util/function/BiFunction;" (renR (gX G) (sioR G)) (gOut G) U (gH G))) ∧
  va_X (gX G 901 0) (gL G) (gS G) U (gH G)
theorem Ext.warm {G : Gc} {s U : State} (hW : s.WarmedH U.vm) (h : Ext G s) : Ext G U := by
  obtain ⟨h1, h2, h3, h4, h5, h6, h7, h8, h9, h10⟩ := h
  exact ⟨h1.moved hW.alike, h2.moved hW.alike, h3.moved hW.alike, h4.moved hW.alike, fun i hi => (h5 i hi).warm hW, h6.moved hW.alike, h7.moved hW.alike, h8.moved hW.alike, ⟨h9.1.moved hW.alike, h9.2.1.moved hW.alike, h9.2.2.moved hW.alike⟩, h10.moved hW.alike⟩
def KK (G : Gc) (U : State) : Prop := va_K (gC G, gI G) cls (tysG G) U ∧ (∀ w ∈ nestW, va_Nw w U) ∧ Ext G U
theorem nestW_spec {w : Cond} (h : w ∈ nestW) : (∃ a i x b, w = .methodLinkNest a i x b) ∨ ∃ a b, w = .castable a b := by
  have h2 := (List.mem_filter.mp h).2
  cases w <;> first | exact Or.inl ⟨_, _, _, _, rfl⟩ | exact Or.inr ⟨_, _, rfl⟩ | (simp at h2)
theorem KK.warm {G : Gc} {s U : State} (hW : s.WarmedH U.vm) (h : KK G s) : KK G U := by
  refine ⟨h.1.moved hW.alike, fun w hw => ?_, h.2.2.warm hW⟩
  rcases nestW_spec hw with ⟨a, i, x, b, rfl⟩ | ⟨a, b, rfl⟩
  · exact va_Nw.warmM hW (h.2.1 _ hw)
  · exact va_Nw.warmC hW (h.2.1 _ hw)
theorem KK.same {G : Gc} {s U : State} (hv : s.vm = U.vm) (h : KK G s) : KK G U := KK.warm (by rw [← hv]; exact State.WarmedH.refl s) h
/-! methods -/
abbrev MI : Type := String × (MethodName × (ByteArray × (Nat × Option FieldType)))
def mOwn (M : MI) : String := M.1
def mY (M : MI) : MethodName := M.2.1
def mB (M : MI) : ByteArray := M.2.2.1
def mL (M : MI) : Nat := M.2.2.2.1
def mR (M : MI) : Option FieldType := M.2.2.2.2
def wsY (M : MI) : List Cond := .code (mY M) (mB M) (mL M) (mR M) :: goodT
def rml (n mc ms : Nat) : Room := { frames := n, cells := mc, slots := ms, locals := 40 * n }
def Exd (ad0 : Nat → Nat → Nat) (w0 : Wd) (ad : Nat → Nat → Nat) (w : Wd) : Prop := (∀ t k, k < wC w0 t → ad t k = ad0 t k) ∧ ∀ t, wC w0 t ≤ wC w t
def SemPc (G : Gc) (ad : Nat → Nat → Nat) (as : List AV) (w : Wd) : Array Value → State → Prop := fun v U => v = (as.map (renV ad)).toArray ∧ Rel G ad w U.heap ∧ KK G U ∧ ∀ a ∈ as, clV w a
def SemQc (G : Gc) (ad : Nat → Nat → Nat) (w : Wd) (Q : Option AV → Wd → Prop) : Array Value → State → Outcome → State → Prop := fun _ _ o t =>
  ∃ (r : Option AV) (w' : Wd) (ad' : Nat → Nat → Nat), o = .returned (r.map (renV ad')) ∧ Rel G ad' w' t.heap ∧ Exd ad w ad' w' ∧ (∀ a, r = some a → clV w' a) ∧ Q r w'
/-- the method, called with these values in this world, comes back with Q -/
def Sem (l : Launch) (G : Gc) (M : MI) (n mc ms : Nat) (as : List AV) (w : Wd) (Q : Option AV → Wd → Prop) : Prop :=
  ∀ ad, Met l (mY M) (wsY M) (rml n mc ms) (SemPc G ad as w) (SemQc G ad w Q) mc ms (gOut G)
theorem Sem.mono {l : Launch} {G : Gc} {M : MI} {n mc ms : Nat} {as : List AV} {w : Wd} {Q Q' : Option AV → Wd → Prop} (h : Sem l G M n mc ms as w Q) (hq : ∀ r w', Q r w' → Q' r w') : Sem l G M n mc ms as w Q' := by
  intro ad p e h1 h2 h3 s m args below hf ha hP hT
  obtain ⟨k, o, g1, g2, g3, ⟨r, w', ad', q1, q2, q3, q4, q5⟩, g5⟩ := h ad p e h1 h2 h3 s m args below hf ha hP hT
  exact ⟨k, o, g1, g2, g3, ⟨r, w', ad', q1, q2, q3, q4, hq r w' q5⟩, g5⟩
/-! locals -/
def lg : List (Option AV) → Nat → Option AV
  | [], _ => none
  | a :: _, 0 => a
  | _ :: l, n + 1 => lg l n
def lset : List (Option AV) → Nat → Option AV → List (Option AV)
  | [], _, _ => []
  | _ :: l, 0, v => v :: l
  | a :: l, n + 1, v => a :: lset l n v
def isL : Option AV → Bool
  | some (.inr (.inl _)) => true
  | _ => false
def kil (L : List (Option AV)) : Nat → List (Option AV)
  | 0 => L
  | i + 1 => if isL (lg L i) = true then lset L i none else L
def st1 (L : List (Option AV)) (i : Nat) (v : AV) : List (Option AV) := lset (kil L i) i (some v)
def st2 (L : List (Option AV)) (i : Nat) (v : AV) : List (Option AV) := lset (lset (kil L i) i (some v)) (i + 1) none
theorem lset_len : ∀ (L : List (Option AV)) (i : Nat) (v : Option AV), (lset L i v).length = L.length
  | [], _, _ => rfl
  | _ :: _, 0, _ => rfl
  | _ :: l, n + 1, v => congrArg (· + 1) (lset_len l n v)
theorem lg_lset : ∀ (L : List (Option AV)) (i : Nat) (v : Option AV) (j : Nat), lg (lset L i v) j = if j = i ∧ j < L.length then v else lg L j
  | [], _, _, j => by simp [lset, lg]
  | a :: l, 0, v, j => by cases j <;> simp [lset, lg]
  | a :: l, n + 1, v, 0 => by simp [lset, lg]
  | a :: l, n + 1, v, j + 1 => by simp [lset, lg, lg_lset l n v j]
theorem lg_lt : ∀ {L : List (Option AV)} {i : Nat} {v : AV}, lg L i = some v → i < L.length
  | [], _, _, h => by simp [lg] at h
  | _ :: _, 0, _, _ => by simp
  | _ :: l, n + 1, v, h => by have := lg_lt (L := l) (i := n) h; simp; omega
theorem kil_len (L : List (Option AV)) (i : Nat) : (kil L i).length = L.length := by
  cases i with
  | zero => rfl
  | succ i => simp only [kil]; split <;> simp [lset_len]
theorem lg_kil {L : List (Option AV)} {i j : Nat} {v : AV} (h : lg (kil L i) j = some v) : lg L j = some v ∧ (j + 1 = i → isL (some v) = false) := by
  cases i with
  | zero => exact ⟨h, by omega⟩
  | succ i =>
    simp only [kil] at h
    split at h
    · rw [lg_lset] at h
      split at h
      · cases h
      · rename_i h1 h2
        refine ⟨h, fun e => ?_⟩
        exact absurd ⟨by omega, lg_lt h⟩ h2
    · rename_i h1
      refine ⟨h, fun e => ?_⟩
      have : j = i := by omega
      subst this
      rw [← h]
      simpa using h1
def LsR (ad : Nat → Nat → Nat) (nL : Nat) (L : List (Option AV)) (ls : Array Slot) : Prop := ls.size = nL ∧ L.length = nL ∧ lv_wf ls ∧ ∀ i v, lg L i = some v → ls[i]? = some (.val (renV ad v))
def lpr (ad : Nat → Nat → Nat) (L : List (Option AV)) : List (Nat × Value) := (List.range L.length).filterMap (fun j => (lg L j).map (fun v => (j, renV ad v)))
theorem lpr_mem {ad : Nat → Nat → Nat} {L : List (Option AV)} {j : Nat} {x : Value} : (j, x) ∈ lpr ad L ↔ ∃ v, lg L j = some v ∧ x = renV ad v := by
  simp only [lpr, List.mem_filterMap, List.mem_range, Option.map_eq_some_iff, Prod.mk.injEq]
  constructor
  · rintro ⟨a, ha, v, hv, rfl, rfl⟩
    exact ⟨v, hv, rfl⟩
  · rintro ⟨v, hv, rfl⟩
    exact ⟨j, lg_lt hv, v, hv, rfl, rfl⟩
theorem LsR.has {ad : Nat → Nat → Nat} {nL : Nat} {L : List (Option AV)} {ls : Array Slot} (h : LsR ad nL L ls) : lv_has ls nL (lpr ad L) := by
  refine ⟨h.1, h.2.2.1, fun q hq => ?_⟩
  obtain ⟨v, hv, hx⟩ := lpr_mem.mp (show (q.1, q.2) ∈ lpr ad L from hq)
  rw [hx]
  exact h.2.2.2 _ _ hv
theorem cat_ren (ad : Nat → Nat → Nat) (v : AV) : (renV ad v).category = if isL (some v) = true then 2 else 1 := by
  rcases v with x | x | x
  · rfl
  · rfl
  · cases x <;> rfl
theorem lsr_st1 {ad : Nat → Nat → Nat} {nL : Nat} {L : List (Option AV)} {ls ls' : Array Slot} {i : Nat} {v : AV} (h : LsR ad nL L ls) (hl : lv_has ls' nL ((i, renV ad v) :: (lpr ad L).filter (fun q => !(q.1 == i) && !(q.1 + 1 == i && q.2.category == 2)))) : LsR ad nL (st1 L i v) ls' := by
  refine ⟨hl.1, by rw [st1, lset_len, kil_len]; exact h.2.1, hl.2.1, fun j x hx => ?_⟩
  rw [st1, lg_lset] at hx
  split at hx
  · rename_i hj
    cases hx
    rw [hj.1]
    exact hl.2.2 _ List.mem_cons_self
  · rename_i hj
    obtain ⟨h1, h2⟩ := lg_kil hx
    have hji : j ≠ i := fun e => hj ⟨e, by rw [kil_len]; exact lg_lt h1⟩
    refine hl.2.2 (j, renV ad x) (List.mem_cons_of_mem _ (List.mem_filter.mpr ⟨lpr_mem.mpr ⟨x, h1, rfl⟩, ?_⟩))
    by_cases e : j + 1 = i
    · simp [hji, cat_ren, h2 e]
    · simp [hji, e]
theorem lsr_st2 {ad : Nat → Nat → Nat} {nL : Nat} {L : List (Option AV)} {ls ls' : Array Slot} {i : Nat} {v : AV} (h : LsR ad nL L ls) (hl : lv_has ls' nL ((i, renV ad v) :: (lpr ad L).filter (fun q => !(q.1 == i) && (!(q.1 == i + 1) && !(q.1 + 1 == i && q.2.category == 2))))) : LsR ad nL (st2 L i v) ls' := by
  refine ⟨hl.1, by rw [st2, lset_len, lset_len, kil_len]; exact h.2.1, hl.2.1, fun j x hx => ?_⟩
  rw [st2, lg_lset] at hx
  split at hx
  · cases hx
  · rename_i hj1
    rw [lset_len, kil_len] at hj1
    rw [lg_lset] at hx
    split at hx
    · rename_i hj
      cases hx
      rw [hj.1]
      exact hl.2.2 _ List.mem_cons_self
    · rename_i hj
      obtain ⟨h1, h2⟩ := lg_kil hx
      have hji : j ≠ i := fun e => hj ⟨e, by rw [kil_len]; exact lg_lt h1⟩
      have hji1 : j ≠ i + 1 := fun e => hj1 ⟨e, lg_lt h1⟩
      refine hl.2.2 (j, renV ad x) (List.mem_cons_of_mem _ (List.mem_filter.mpr ⟨lpr_mem.mpr ⟨x, h1, rfl⟩, ?_⟩))
      by_cases e : j + 1 = i
      · simp [hji, hji1, cat_ren, h2 e]
      · simp [hji, hji1, e]
