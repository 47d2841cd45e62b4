/-! the law: a call a case -/
abbrev mZ : MI := ("StockYardLaw", x, code, 4, ret)
theorem Sem.up {l : Launch} {G : Gc} {M : MI} {n mc ms : Nat} {as : List AV} {w : Wd} {Q : Option AV → Wd → Prop} (h : Sem l G M n mc ms as w Q) : Sem l G M n mc ms as w (fun r w' => Q r w' ∧ ∀ t, wC w t ≤ wC w' t) := by
  intro ad p e h1 h2 h3 s m args below hf ha hP hT
  obtain ⟨k, o, g1, g2, g3, ⟨r, w', ad', q1, q2, q3, q4, q5⟩, g5⟩ := h ad p e h1 h2 h3 s m args below hf ha hP hT
  exact ⟨k, o, g1, g2, g3, ⟨r, w', ad', q1, q2, q3, q4, q5, q3.2⟩, g5⟩
theorem lcmp_0 (y : Int64) : lg_cmp y y = 0 := (lg_cmp_eq y y).mpr rfl
def tZ_0 : TB := [(188, .aload_n 1, 1), (189, .aload_n 0, 1), (190, .iload_n 3, 1), (191, .iconst 1, 1), (192, .iadd, 1), (193, .iaload, 1), (194, .invokevirtual 13, 3), (197, .aload_n 2, 1), (198, .aload_n 0, 1), (199, .iload_n 3, 1), (200, .iconst 1, 1), (201, .iadd, 1), (202, .iaload, 1), (203, .invokevirtual 17, 3), (206, .if_icmp .eq 1058, 3), (209, .iconst 0, 1), (210, .ireturn, 1)]
set_option maxRecDepth 100000 in
theorem kZ_0 : tbOk (mB mZ) tZ_0 = true := by decide +kernel
theorem pZ_0_188 : alk tZ_0 188 = some (.aload_n 1, 1) := (rfl)
theorem pZ_0_189 : alk tZ_0 189 = some (.aload_n 0, 1) := (rfl)
theorem pZ_0_190 : alk tZ_0 190 = some (.iload_n 3, 1) := (rfl)
theorem pZ_0_191 : alk tZ_0 191 = some (.iconst 1, 1) := (rfl)
theorem pZ_0_192 : alk tZ_0 192 = some (.iadd, 1) := (rfl)
theorem pZ_0_193 : alk tZ_0 193 = some (.iaload, 1) := (rfl)
theorem pZ_0_194 : alk tZ_0 194 = some (.invokevirtual 13, 3) := (rfl)
theorem pZ_0_197 : alk tZ_0 197 = some (.aload_n 2, 1) := (rfl)
theorem pZ_0_198 : alk tZ_0 198 = some (.aload_n 0, 1) := (rfl)
theorem pZ_0_199 : alk tZ_0 199 = some (.iload_n 3, 1) := (rfl)
theorem pZ_0_200 : alk tZ_0 200 = some (.iconst 1, 1) := (rfl)
theorem pZ_0_201 : alk tZ_0 201 = some (.iadd, 1) := (rfl)
theorem pZ_0_202 : alk tZ_0 202 = some (.iaload, 1) := (rfl)
theorem pZ_0_203 : alk tZ_0 203 = some (.invokevirtual 17, 3) := (rfl)
theorem pZ_0_206 : alk tZ_0 206 = some (.if_icmp .eq 1058, 3) := (rfl)
theorem pZ_0_209 : alk tZ_0 209 = some (.iconst 0, 1) := (rfl)
theorem pZ_0_210 : alk tZ_0 210 = some (.ireturn, 1) := (rfl)
section
variable {l : Launch} {G : Gc} {mc ms : Nat} {Q : Option AV → Wd → Prop} {w : Wd}
set_option maxRecDepth 100000 in
set_option maxHeartbeats 4000000 in
theorem lcZ_0 {c i cu su : Nat} (h : Inv c w) (hc : c < 1000) (hi : i + 6 ≤ gL G) (hL : gL G ≤ 3072) (h1 : cu + 8 ≤ mc) (h2 : su + 100 ≤ ms) (ih : ∀ w' cu' su', cu' ≤ cu + 8 → su' ≤ su + 100 → Inv (c + 1) w' → WP l G mZ 40 mc ms Q 1264 [some (.inr (.inr (some (901, 0)))), some (.inr (.inr (some (0, 0)))), some (.inr (.inr (some (13, 0)))), some (.inl (nI i))] [] w' cu' su') : WP l G mZ 40 mc ms Q 188 [some (.inr (.inr (some (901, 0)))), some (.inr (.inr (some (0, 0)))), some (.inr (.inr (some (13, 0)))), some (.inl (nI i))] [] w cu su := by
  have wC0 := ss_C0 (iv_S h)
  have wC13 : wC w 13 = 1 := (iv_M h).1.1
  have v1 : vp_in (nI i + 1) (gL G) := by rw [show nI i + 1 = nI (i + 1) from nI_add i 1]; exact vp_in_nI (by omega) (by omega)
  have c1 : (nI i + 1).toNatClampNeg = i + 1 := by rw [show nI i + 1 = nI (i + 1) from nI_add i 1]; exact nI_clamp (by omega)
  obtain ⟨n', hn', call⟩ := ca_place (l := l) (G := G) h (gS G (i + 1))
  refine wpn_ok (M := mZ) (C := cenZ) (X := (alk [])) (tb := tZ_0) (st := [1264]) eoZ XOk_nil kZ_0 60 _ _ _ _ _ _ ?_
  simp only [reduceCtorEq, fv0, fv1, fv2, fv3, bI_0, bI_1, bft, MSh_sI_eq, fsP_T, inL_0, inL_s, pad_0, pad_n, pad_s, wpn_s, wp1_s, lg_0, lg_s, lset_0, lset_s, kil_0, kil_s, st1_s, st2_s, isL_i, isL_l, isL_r, isL_n, spl_0, spl_s, cll_n, cll_s, catS_0, catS_s, jmp_s, alk_0, alk_s, otl_n, otl_s, List.nil_append, List.cons_append, List.contains_cons, List.contains_nil, Nat.reduceBEq, Bool.or_false, Bool.false_or, Bool.or_self, Bool.false_eq_true, Bool.true_or, Bool.or_true, if_true, if_false, ite_true, ite_false, ↓reduceIte, List.length_cons, List.length_nil, Nat.reduceAdd, Nat.reduceLT, Nat.reduceLeDiff, Nat.reduceEqDiff, Int.reduceAdd, Int.reduceLE, Int.toNat_natCast, Int.reduceToNat, Int.cast_ofNat_Int, true_and, and_true, false_and, and_false, true_implies, forall_const, eq_self, and_self, or_true, true_or, or_self, false_or, or_false, yI_sI, yR_sI, yC_sI, yN_sI, yI_sR, yR_sR, yC_sR, yN_sR, not_true_eq_false, not_false_eq_true, false_implies, implies_true, Nat.zero_add, Nat.add_zero, Nat.le_refl, Nat.reduceSub, Int.reduceSub, Int.reduceLT, Int.sub_zero, Int.sub_self, List.getElem?_toArray, List.getElem?_cons_zero, List.getElem?_cons_succ, Int.toNat_zero, Int.toNat_one, Int.lt_irrefl, pZ_0_188, stp_aload_n, pZ_0_189, pZ_0_190, stp_iload_n, pZ_0_191, stp_iconst, ic_1, pZ_0_192, stp_iadd, pZ_0_193, stp_iaload, pZ_0_194, stp_invokevirtual, qmZ_13, cy_S_place, pZ_0_197, pZ_0_198, pZ_0_199, pZ_0_200, pZ_0_201, pZ_0_202, pZ_0_203, qmZ_17, cy_M_place, pZ_0_206, stp_if_icmp_eq, pZ_0_209, ic_0, pZ_0_210, stp_ireturn, wC0, wC13, v1, c1]
  refine ⟨n', 8, 100, by omega, h1, h2, call.up.mono fun rr w1 h' => ?_⟩
  obtain ⟨⟨v, rfl, ty, m', hm', sem⟩, hup⟩ := h'
  obtain ⟨y, rfl⟩ : ∃ y : Int32, v = .inl y := ty
  have wD13 : 0 < wC w1 13 := by have := hup 13; omega
  refine wpn_ok (M := mZ) (C := cenZ) (X := (alk [])) (tb := tZ_0) (st := [1264]) eoZ XOk_nil kZ_0 60 _ _ _ _ _ _ ?_
  simp only [reduceCtorEq, fv0, fv1, fv2, fv3, bI_0, bI_1, bft, MSh_sI_eq, fsP_T, inL_0, inL_s, pad_0, pad_n, pad_s, wpn_s, wp1_s, lg_0, lg_s, lset_0, lset_s, kil_0, kil_s, st1_s, st2_s, isL_i, isL_l, isL_r, isL_n, spl_0, spl_s, cll_n, cll_s, catS_0, catS_s, jmp_s, alk_0, alk_s, otl_n, otl_s, List.nil_append, List.cons_append, List.contains_cons, List.contains_nil, Nat.reduceBEq, Bool.or_false, Bool.false_or, Bool.or_self, Bool.false_eq_true, Bool.true_or, Bool.or_true, if_true, if_false, ite_true, ite_false, ↓reduceIte, List.length_cons, List.length_nil, Nat.reduceAdd, Nat.reduceLT, Nat.reduceLeDiff, Nat.reduceEqDiff, Int.reduceAdd, Int.reduceLE, Int.toNat_natCast, Int.reduceToNat, Int.cast_ofNat_Int, true_and, and_true, false_and, and_false, true_implies, forall_const, eq_self, and_self, or_true, true_or, or_self, false_or, or_false, yI_sI, yR_sI, yC_sI, yN_sI, yI_sR, yR_sR, yC_sR, yN_sR, not_true_eq_false, not_false_eq_true, false_implies, implies_true, Nat.zero_add, Nat.add_zero, Nat.le_refl, Nat.reduceSub, Int.reduceSub, Int.reduceLT, Int.sub_zero, Int.sub_self, List.getElem?_toArray, List.getElem?_cons_zero, List.getElem?_cons_succ, Int.toNat_zero, Int.toNat_one, Int.lt_irrefl, pZ_0_188, stp_aload_n, pZ_0_189, pZ_0_190, stp_iload_n, pZ_0_191, stp_iconst, ic_1, pZ_0_192, stp_iadd, pZ_0_193, stp_iaload, pZ_0_194, stp_invokevirtual, qmZ_13, cy_S_place, pZ_0_197, pZ_0_198, pZ_0_199, pZ_0_200, pZ_0_201, pZ_0_202, pZ_0_203, qmZ_17, cy_M_place, pZ_0_206, stp_if_icmp_eq, pZ_0_209, ic_0, pZ_0_210, stp_ireturn, wD13, Option.toList_some, v1, c1]
  refine ⟨m', 0, 0, by omega, by omega, by omega, sem.mono fun rr w2 h' => ?_⟩
  obtain ⟨rfl, hI⟩ := h'
  refine wpn_ok (M := mZ) (C := cenZ) (X := (alk [])) (tb := tZ_0) (st := [1264]) eoZ XOk_nil kZ_0 60 _ _ _ _ _ _ ?_
  simp only [reduceCtorEq, fv0, fv1, fv2, fv3, bI_0, bI_1, bft, MSh_sI_eq, fsP_T, inL_0, inL_s, pad_0, pad_n, pad_s, wpn_s, wp1_s, lg_0, lg_s, lset_0, lset_s, kil_0, kil_s, st1_s, st2_s, isL_i, isL_l, isL_r, isL_n, spl_0, spl_s, cll_n, cll_s, catS_0, catS_s, jmp_s, alk_0, alk_s, otl_n, otl_s, List.nil_append, List.cons_append, List.contains_cons, List.contains_nil, Nat.reduceBEq, Bool.or_false, Bool.false_or, Bool.or_self, Bool.false_eq_true, Bool.true_or, Bool.or_true, if_true, if_false, ite_true, ite_false, ↓reduceIte, List.length_cons, List.length_nil, Nat.reduceAdd, Nat.reduceLT, Nat.reduceLeDiff, Nat.reduceEqDiff, Int.reduceAdd, Int.reduceLE, Int.toNat_natCast, Int.reduceToNat, Int.cast_ofNat_Int, true_and, and_true, false_and, and_false, true_implies, forall_const, eq_self, and_self, or_true, true_or, or_self, false_or, or_false, yI_sI, yR_sI, yC_sI, yN_sI, yI_sR, yR_sR, yC_sR, yN_sR, not_true_eq_false, not_false_eq_true, false_implies, implies_true, Nat.zero_add, Nat.add_zero, Nat.le_refl, Nat.reduceSub, Int.reduceSub, Int.reduceLT, Int.sub_zero, Int.sub_self, List.getElem?_toArray, List.getElem?_cons_zero, List.getElem?_cons_succ, Int.toNat_zero, Int.toNat_one, Int.lt_irrefl, pZ_0_188, stp_aload_n, pZ_0_189, pZ_0_190, stp_iload_n, pZ_0_191, stp_iconst, ic_1, pZ_0_192, stp_iadd, pZ_0_193, stp_iaload, pZ_0_194, stp_invokevirtual, qmZ_13, cy_S_place, pZ_0_197, pZ_0_198, pZ_0_199, pZ_0_200, pZ_0_201, pZ_0_202, pZ_0_203, qmZ_17, cy_M_place, pZ_0_206, stp_if_icmp_eq, pZ_0_209, ic_0, pZ_0_210, stp_ireturn, Option.toList_some]
  exact ih _ _ _ (by omega) (by omega) hI
end
def tZ_1 : TB := [(211, .aload_n 1, 1), (212, .aload_n 0, 1), (213, .iload_n 3, 1), (214, .iconst 1, 1), (215, .iadd, 1), (216, .iaload, 1), (217, .aload_n 0, 1), (218, .iload_n 3, 1), (219, .iconst 2, 1), (220, .iadd, 1), (221, .iaload, 1), (222, .aload_n 0, 1), (223, .iload_n 3, 1), (224, .iconst 3, 1), (225, .iadd, 1), (226, .iaload, 1), (227, .invokevirtual 18, 3), (230, .aload_n 2, 1), (231, .aload_n 0, 1), (232, .iload_n 3, 1), (233, .iconst 1, 1), (234, .iadd, 1), (235, .iaload, 1), (236, .aload_n 0, 1), (237, .iload_n 3, 1), (238, .iconst 2, 1), (239, .iadd, 1), (240, .iaload, 1), (241, .aload_n 0, 1), (242, .iload_n 3, 1), (243, .iconst 3, 1), (244, .iadd, 1), (245, .iaload, 1), (246, .invokevirtual 22, 3), (249, .if_icmp .eq 1015, 3), (252, .iconst 0, 1), (253, .ireturn, 1)]
set_option maxRecDepth 100000 in
theorem kZ_1 : tbOk (mB mZ) tZ_1 = true := by decide +kernel
theorem pZ_1_211 : alk tZ_1 211 = some (.aload_n 1, 1) := (rfl)
theorem pZ_1_212 : alk tZ_1 212 = some (.aload_n 0, 1) := (rfl)
theorem pZ_1_213 : alk tZ_1 213 = some (.iload_n 3, 1) := (rfl)
theorem pZ_1_214 : alk tZ_1 214 = some (.iconst 1, 1) := (rfl)
theorem pZ_1_215 : alk tZ_1 215 = some (.iadd, 1) := (rfl)
theorem pZ_1_216 : alk tZ_1 216 = some (.iaload, 1) := (rfl)
theorem pZ_1_217 : alk tZ_1 217 = some (.aload_n 0, 1) := (rfl)
theorem pZ_1_218 : alk tZ_1 218 = some (.iload_n 3, 1) := (rfl)
theorem pZ_1_219 : alk tZ_1 219 = some (.iconst 2, 1) := (rfl)
theorem pZ_1_220 : alk tZ_1 220 = some (.iadd, 1) := (rfl)
theorem pZ_1_221 : alk tZ_1 221 = some (.iaload, 1) := (rfl)
theorem pZ_1_222 : alk tZ_1 222 = some (.aload_n 0, 1) := (rfl)
theorem pZ_1_223 : alk tZ_1 223 = some (.iload_n 3, 1) := (rfl)
theorem pZ_1_224 : alk tZ_1 224 = some (.iconst 3, 1) := (rfl)
theorem pZ_1_225 : alk tZ_1 225 = some (.iadd, 1) := (rfl)
theorem pZ_1_226 : alk tZ_1 226 = some (.iaload, 1) := (rfl)
theorem pZ_1_227 : alk tZ_1 227 = some (.invokevirtual 18, 3) := (rfl)
theorem pZ_1_230 : alk tZ_1 230 = some (.aload_n 2, 1) := (rfl)
theorem pZ_1_231 : alk tZ_1 231 = some (.aload_n 0, 1) := (rfl)
theorem pZ_1_232 : alk tZ_1 232 = some (.iload_n 3, 1) := (rfl)
theorem pZ_1_233 : alk tZ_1 233 = some (.iconst 1, 1) := (rfl)
theorem pZ_1_234 : alk tZ_1 234 = some (.iadd, 1) := (rfl)
theorem pZ_1_235 : alk tZ_1 235 = some (.iaload, 1) := (rfl)
theorem pZ_1_236 : alk tZ_1 236 = some (.aload_n 0, 1) := (rfl)
theorem pZ_1_237 : alk tZ_1 237 = some (.iload_n 3, 1) := (rfl)
theorem pZ_1_238 : alk tZ_1 238 = some (.iconst 2, 1) := (rfl)
theorem pZ_1_239 : alk tZ_1 239 = some (.iadd, 1) := (rfl)
theorem pZ_1_240 : alk tZ_1 240 = some (.iaload, 1) := (rfl)
theorem pZ_1_241 : alk tZ_1 241 = some (.aload_n 0, 1) := (rfl)
theorem pZ_1_242 : alk tZ_1 242 = some (.iload_n 3, 1) := (rfl)
theorem pZ_1_243 : alk tZ_1 243 = some (.iconst 3, 1) := (rfl)
theorem pZ_1_244 : alk tZ_1 244 = some (.iadd, 1) := (rfl)
theorem pZ_1_245 : alk tZ_1 245 = some (.iaload, 1) := (rfl)
theorem pZ_1_246 : alk tZ_1 246 = some (.invokevirtual 22, 3) := (rfl)
theorem pZ_1_249 : alk tZ_1 249 = some (.if_icmp .eq 1015, 3) := (rfl)
theorem pZ_1_252 : alk tZ_1 252 = some (.iconst 0, 1) := (rfl)
theorem pZ_1_253 : alk tZ_1 253 = some (.ireturn, 1) := (rfl)
section
variable {l : Launch} {G : Gc} {mc ms : Nat} {Q : Option AV → Wd → Prop} {w : Wd}
set_option maxRecDepth 100000 in
set_option maxHeartbeats 4000000 in
theorem lcZ_1 {c i cu su : Nat} (h : Inv c w) (hc : c < 1000) (hi : i + 6 ≤ gL G) (hL : gL G ≤ 3072) (h1 : cu + 8 ≤ mc) (h2 : su + 100 ≤ ms) (ih : ∀ w' cu' su', cu' ≤ cu + 8 → su' ≤ su + 100 → Inv (c + 1) w' → WP l G mZ 40 mc ms Q 1264 [some (.inr (.inr (some (901, 0)))), some (.inr (.inr (some (0, 0)))), some (.inr (.inr (some (13, 0)))), some (.inl (nI i))] [] w' cu' su') : WP l G mZ 40 mc ms Q 211 [some (.inr (.inr (some (901, 0)))), some (.inr (.inr (some (0, 0)))), some (.inr (.inr (some (13, 0)))), some (.inl (nI i))] [] w cu su := by
  have wC0 := ss_C0 (iv_S h)
  have wC13 : wC w 13 = 1 := (iv_M h).1.1
  have v1 : vp_in (nI i + 1) (gL G) := by rw [show nI i + 1 = nI (i + 1) from nI_add i 1]; exact vp_in_nI (by omega) (by omega)
  have c1 : (nI i + 1).toNatClampNeg = i + 1 := by rw [show nI i + 1 = nI (i + 1) from nI_add i 1]; exact nI_clamp (by omega)
  have v2 : vp_in (nI i + 2) (gL G) := by rw [show nI i + 2 = nI (i + 2) from nI_add i 2]; exact vp_in_nI (by omega) (by omega)
  have c2 : (nI i + 2).toNatClampNeg = i + 2 := by rw [show nI i + 2 = nI (i + 2) from nI_add i 2]; exact nI_clamp (by omega)
  have v3 : vp_in (nI i + 3) (gL G) := by rw [show nI i + 3 = nI (i + 3) from nI_add i 3]; exact vp_in_nI (by omega) (by omega)
  have c3 : (nI i + 3).toNatClampNeg = i + 3 := by rw [show nI i + 3 = nI (i + 3) from nI_add i 3]; exact nI_clamp (by omega)
  obtain ⟨n', hn', call⟩ := ca_alley (l := l) (G := G) h (gS G (i + 1)) (gS G (i + 2)) (gS G (i + 3))
  refine wpn_ok (M := mZ) (C := cenZ) (X := (alk [])) (tb := tZ_1) (st := [1264]) eoZ XOk_nil kZ_1 60 _ _ _ _ _ _ ?_
  simp only [reduceCtorEq, fv0, fv1, fv2, fv3, bI_0, bI_1, bft, MSh_sI_eq, fsP_T, inL_0, inL_s, pad_0, pad_n, pad_s, wpn_s, wp1_s, lg_0, lg_s, lset_0, lset_s, kil_0, kil_s, st1_s, st2_s, isL_i, isL_l, isL_r, isL_n, spl_0, spl_s, cll_n, cll_s, catS_0, catS_s, jmp_s, alk_0, alk_s, otl_n, otl_s, List.nil_append, List.cons_append, List.contains_cons, List.contains_nil, Nat.reduceBEq, Bool.or_false, Bool.false_or, Bool.or_self, Bool.false_eq_true, Bool.true_or, Bool.or_true, if_true, if_false, ite_true, ite_false, ↓reduceIte, List.length_cons, List.length_nil, Nat.reduceAdd, Nat.reduceLT, Nat.reduceLeDiff, Nat.reduceEqDiff, Int.reduceAdd, Int.reduceLE, Int.toNat_natCast, Int.reduceToNat, Int.cast_ofNat_Int, true_and, and_true, false_and, and_false, true_implies, forall_const, eq_self, and_self, or_true, true_or, or_self, false_or, or_false, yI_sI, yR_sI, yC_sI, yN_sI, yI_sR, yR_sR, yC_sR, yN_sR, not_true_eq_false, not_false_eq_true, false_implies, implies_true, Nat.zero_add, Nat.add_zero, Nat.le_refl, Nat.reduceSub, Int.reduceSub, Int.reduceLT, Int.sub_zero, Int.sub_self, List.getElem?_toArray, List.getElem?_cons_zero, List.getElem?_cons_succ, Int.toNat_zero, Int.toNat_one, Int.lt_irrefl, pZ_1_211, stp_aload_n, pZ_1_212, pZ_1_213, stp_iload_n, pZ_1_214, stp_iconst, ic_1, pZ_1_215, stp_iadd, pZ_1_216, stp_iaload, pZ_1_217, pZ_1_218, pZ_1_219, ic_2, pZ_1_220, pZ_1_221, pZ_1_222, pZ_1_223, pZ_1_224, ic_3, pZ_1_225, pZ_1_226, pZ_1_227, stp_invokevirtual, qmZ_18, cy_S_alley, pZ_1_230, pZ_1_231, pZ_1_232, pZ_1_233, pZ_1_234, pZ_1_235, pZ_1_236, pZ_1_237, pZ_1_238, pZ_1_239, pZ_1_240, pZ_1_241, pZ_1_242, pZ_1_243, pZ_1_244, pZ_1_245, pZ_1_246, qmZ_22, cy_M_alley, pZ_1_249, stp_if_icmp_eq, pZ_1_252, ic_0, pZ_1_253, stp_ireturn, wC0, wC13, v1, c1, v2, c2, v3, c3]
  refine ⟨n', 8, 100, by omega, h1, h2, call.up.mono fun rr w1 h' => ?_⟩
  obtain ⟨⟨v, rfl, ty, m', hm', sem⟩, hup⟩ := h'
  obtain ⟨y, rfl⟩ : ∃ y : Int32, v = .inl y := ty
  have wD13 : 0 < wC w1 13 := by have := hup 13; omega
  refine wpn_ok (M := mZ) (C := cenZ) (X := (alk [])) (tb := tZ_1) (st := [1264]) eoZ XOk_nil kZ_1 60 _ _ _ _ _ _ ?_
  simp only [reduceCtorEq, fv0, fv1, fv2, fv3, bI_0, bI_1, bft, MSh_sI_eq, fsP_T, inL_0, inL_s, pad_0, pad_n, pad_s, wpn_s, wp1_s, lg_0, lg_s, lset_0, lset_s, kil_0, kil_s, st1_s, st2_s, isL_i, isL_l, isL_r, isL_n, spl_0, spl_s, cll_n, cll_s, catS_0, catS_s, jmp_s, alk_0, alk_s, otl_n, otl_s, List.nil_append, List.cons_append, List.contains_cons, List.contains_nil, Nat.reduceBEq, Bool.or_false, Bool.false_or, Bool.or_self, Bool.false_eq_true, Bool.true_or, Bool.or_true, if_true, if_false, ite_true, ite_false, ↓reduceIte, List.length_cons, List.length_nil, Nat.reduceAdd, Nat.reduceLT, Nat.reduceLeDiff, Nat.reduceEqDiff, Int.reduceAdd, Int.reduceLE, Int.toNat_natCast, Int.reduceToNat, Int.cast_ofNat_Int, true_and, and_true, false_and, and_false, true_implies, forall_const, eq_self, and_self, or_true, true_or, or_self, false_or, or_false, yI_sI, yR_sI, yC_sI, yN_sI, yI_sR, yR_sR, yC_sR, yN_sR, not_true_eq_false, not_false_eq_true, false_implies, implies_true, Nat.zero_add, Nat.add_zero, Nat.le_refl, Nat.reduceSub, Int.reduceSub, Int.reduceLT, Int.sub_zero, Int.sub_self, List.getElem?_toArray, List.getElem?_cons_zero, List.getElem?_cons_succ, Int.toNat_zero, Int.toNat_one, Int.lt_irrefl, pZ_1_211, stp_aload_n, pZ_1_212, pZ_1_213, stp_iload_n, pZ_1_214, stp_iconst, ic_1, pZ_1_215, stp_iadd, pZ_1_216, stp_iaload, pZ_1_217, pZ_1_218, pZ_1_219, ic_2, pZ_1_220, pZ_1_221, pZ_1_222, pZ_1_223, pZ_1_224, ic_3, pZ_1_225, pZ_1_226, pZ_1_227, stp_invokevirtual, qmZ_18, cy_S_alley, pZ_1_230, pZ_1_231, pZ_1_232, pZ_1_233, pZ_1_234, pZ_1_235, pZ_1_236, pZ_1_237, pZ_1_238, pZ_1_239, pZ_1_240, pZ_1_241, pZ_1_242, pZ_1_243, pZ_1_244, pZ_1_245, pZ_1_246, qmZ_22, cy_M_alley, pZ_1_249, stp_if_icmp_eq, pZ_1_252, ic_0, pZ_1_253, stp_ireturn, wD13, Option.toList_some, v1, c1, v2, c2, v3, c3]
  refine ⟨m', 0, 0, by omega, by omega, by omega, sem.mono fun rr w2 h' => ?_⟩
  obtain ⟨rfl, hI⟩ := h'
  refine wpn_ok (M := mZ) (C := cenZ) (X := (alk [])) (tb := tZ_1) (st := [1264]) eoZ XOk_nil kZ_1 60 _ _ _ _ _ _ ?_
  simp only [reduceCtorEq, fv0, fv1, fv2, fv3, bI_0, bI_1, bft, MSh_sI_eq, fsP_T, inL_0, inL_s, pad_0, pad_n, pad_s, wpn_s, wp1_s, lg_0, lg_s, lset_0, lset_s, kil_0, kil_s, st1_s, st2_s, isL_i, isL_l, isL_r, isL_n, spl_0, spl_s, cll_n, cll_s, catS_0, catS_s, jmp_s, alk_0, alk_s, otl_n, otl_s, List.nil_append, List.cons_append, List.contains_cons, List.contains_nil, Nat.reduceBEq, Bool.or_false, Bool.false_or, Bool.or_self, Bool.false_eq_true, Bool.true_or, Bool.or_true, if_true, if_false, ite_true, ite_false, ↓reduceIte, List.length_cons, List.length_nil, Nat.reduceAdd, Nat.reduceLT, Nat.reduceLeDiff, Nat.reduceEqDiff, Int.reduceAdd, Int.reduceLE, Int.toNat_natCast, Int.reduceToNat, Int.cast_ofNat_Int, true_and, and_true, false_and, and_false, true_implies, forall_const, eq_self, and_self, or_true, true_or, or_self, false_or, or_false, yI_sI, yR_sI, yC_sI, yN_sI, yI_sR, yR_sR, yC_sR, yN_sR, not_true_eq_false, not_false_eq_true, false_implies, implies_true, Nat.zero_add, Nat.add_zero, Nat.le_refl, Nat.reduceSub, Int.reduceSub, Int.reduceLT, Int.sub_zero, Int.sub_self, List.getElem?_toArray, List.getElem?_cons_zero, List.getElem?_cons_succ, Int.toNat_zero, Int.toNat_one, Int.lt_irrefl, pZ_1_211, stp_aload_n, pZ_1_212, pZ_1_213, stp_iload_n, pZ_1_214, stp_iconst, ic_1, pZ_1_215, stp_iadd, pZ_1_216, stp_iaload, pZ_1_217, pZ_1_218, pZ_1_219, ic_2, pZ_1_220, pZ_1_221, pZ_1_222, pZ_1_223, pZ_1_224, ic_3, pZ_1_225, pZ_1_226, pZ_1_227, stp_invokevirtual, qmZ_18, cy_S_alley, pZ_1_230, pZ_1_231, pZ_1_232, pZ_1_233, pZ_1_234, pZ_1_235, pZ_1_236, pZ_1_237, pZ_1_238, pZ_1_239, pZ_1_240, pZ_1_241, pZ_1_242, pZ_1_243, pZ_1_244, pZ_1_245, pZ_1_246, qmZ_22, cy_M_alley, pZ_1_249, stp_if_icmp_eq, pZ_1_252, ic_0, pZ_1_253, stp_ireturn, Option.toList_some]
  exact ih _ _ _ (by omega) (by omega) hI
end
def tZ_2 : TB := [(254, .aload_n 1, 1), (255, .aload_n 0, 1), (256, .iload_n 3, 1), (257, .iconst 1, 1), (258, .iadd, 1), (259, .iaload, 1), (260, .aload_n 0, 1), (261, .iload_n 3, 1), (262, .iconst 2, 1), (263, .iadd, 1), (264, .iaload, 1), (265, .invokevirtual 23, 3), (268, .aload_n 2, 1), (269, .aload_n 0, 1), (270, .iload_n 3, 1), (271, .iconst 1, 1), (272, .iadd, 1), (273, .iaload, 1), (274, .aload_n 0, 1), (275, .iload_n 3, 1), (276, .iconst 2, 1), (277, .iadd, 1), (278, .iaload, 1), (279, .invokevirtual 27, 3), (282, .if_icmp .eq 982, 3), (285, .iconst 0, 1), (286, .ireturn, 1)]
set_option maxRecDepth 100000 in
theorem kZ_2 : tbOk (mB mZ) tZ_2 = true := by decide +kernel
theorem pZ_2_254 : alk tZ_2 254 = some (.aload_n 1, 1) := (rfl)
theorem pZ_2_255 : alk tZ_2 255 = some (.aload_n 0, 1) := (rfl)
theorem pZ_2_256 : alk tZ_2 256 = some (.iload_n 3, 1) := (rfl)
theorem pZ_2_257 : alk tZ_2 257 = some (.iconst 1, 1) := (rfl)
theorem pZ_2_258 : alk tZ_2 258 = some (.iadd, 1) := (rfl)
theorem pZ_2_259 : alk tZ_2 259 = some (.iaload, 1) := (rfl)
theorem pZ_2_260 : alk tZ_2 260 = some (.aload_n 0, 1) := (rfl)
theorem pZ_2_261 : alk tZ_2 261 = some (.iload_n 3, 1) := (rfl)
theorem pZ_2_262 : alk tZ_2 262 = some (.iconst 2, 1) := (rfl)
theorem pZ_2_263 : alk tZ_2 263 = some (.iadd, 1) := (rfl)
theorem pZ_2_264 : alk tZ_2 264 = some (.iaload, 1) := (rfl)
theorem pZ_2_265 : alk tZ_2 265 = some (.invokevirtual 23, 3) := (rfl)
theorem pZ_2_268 : alk tZ_2 268 = some (.aload_n 2, 1) := (rfl)
theorem pZ_2_269 : alk tZ_2 269 = some (.aload_n 0, 1) := (rfl)
theorem pZ_2_270 : alk tZ_2 270 = some (.iload_n 3, 1) := (rfl)
theorem pZ_2_271 : alk tZ_2 271 = some (.iconst 1, 1) := (rfl)
theorem pZ_2_272 : alk tZ_2 272 = some (.iadd, 1) := (rfl)
theorem pZ_2_273 : alk tZ_2 273 = some (.iaload, 1) := (rfl)
theorem pZ_2_274 : alk tZ_2 274 = some (.aload_n 0, 1) := (rfl)
theorem pZ_2_275 : alk tZ_2 275 = some (.iload_n 3, 1) := (rfl)
theorem pZ_2_276 : alk tZ_2 276 = some (.iconst 2, 1) := (rfl)
theorem pZ_2_277 : alk tZ_2 277 = some (.iadd, 1) := (rfl)
theorem pZ_2_278 : alk tZ_2 278 = some (.iaload, 1) := (rfl)
theorem pZ_2_279 : alk tZ_2 279 = some (.invokevirtual 27, 3) := (rfl)
theorem pZ_2_282 : alk tZ_2 282 = some (.if_icmp .eq 982, 3) := (rfl)
theorem pZ_2_285 : alk tZ_2 285 = some (.iconst 0, 1) := (rfl)
theorem pZ_2_286 : alk tZ_2 286 = some (.ireturn, 1) := (rfl)
section
variable {l : Launch} {G : Gc} {mc ms : Nat} {Q : Option AV → Wd → Prop} {w : Wd}
set_option maxRecDepth 100000 in
set_option maxHeartbeats 4000000 in
theorem lcZ_2 {c i cu su : Nat} (h : Inv c w) (hc : c < 1000) (hi : i + 6 ≤ gL G) (hL : gL G ≤ 3072) (h1 : cu + 8 ≤ mc) (h2 : su + 100 ≤ ms) (ih : ∀ w' cu' su', cu' ≤ cu + 8 → su' ≤ su + 100 → Inv (c + 1) w' → WP l G mZ 40 mc ms Q 1264 [some (.inr (.inr (some (901, 0)))), some (.inr (.inr (some (0, 0)))), some (.inr (.inr (some (13, 0)))), some (.inl (nI i))] [] w' cu' su') : WP l G mZ 40 mc ms Q 254 [some (.inr (.inr (some (901, 0)))), some (.inr (.inr (some (0, 0)))), some (.inr (.inr (some (13, 0)))), some (.inl (nI i))] [] w cu su := by
  have wC0 := ss_C0 (iv_S h)
  have wC13 : wC w 13 = 1 := (iv_M h).1.1
  have v1 : vp_in (nI i + 1) (gL G) := by rw [show nI i + 1 = nI (i + 1) from nI_add i 1]; exact vp_in_nI (by omega) (by omega)
  have c1 : (nI i + 1).toNatClampNeg = i + 1 := by rw [show nI i + 1 = nI (i + 1) from nI_add i 1]; exact nI_clamp (by omega)
  have v2 : vp_in (nI i + 2) (gL G) := by rw [show nI i + 2 = nI (i + 2) from nI_add i 2]; exact vp_in_nI (by omega) (by omega)
  have c2 : (nI i + 2).toNatClampNeg = i + 2 := by rw [show nI i + 2 = nI (i + 2) from nI_add i 2]; exact nI_clamp (by omega)
  obtain ⟨n', hn', call⟩ := ca_way (l := l) (G := G) h (gS G (i + 1)) (gS G (i + 2))
  refine wpn_ok (M := mZ) (C := cenZ) (X := (alk [])) (tb := tZ_2) (st := [1264]) eoZ XOk_nil kZ_2 60 _ _ _ _ _ _ ?_
  simp only [reduceCtorEq, fv0, fv1, fv2, fv3, bI_0, bI_1, bft, MSh_sI_eq, fsP_T, inL_0, inL_s, pad_0, pad_n, pad_s, wpn_s, wp1_s, lg_0, lg_s, lset_0, lset_s, kil_0, kil_s, st1_s, st2_s, isL_i, isL_l, isL_r, isL_n, spl_0, spl_s, cll_n, cll_s, catS_0, catS_s, jmp_s, alk_0, alk_s, otl_n, otl_s, List.nil_append, List.cons_append, List.contains_cons, List.contains_nil, Nat.reduceBEq, Bool.or_false, Bool.false_or, Bool.or_self, Bool.false_eq_true, Bool.true_or, Bool.or_true, if_true, if_false, ite_true, ite_false, ↓reduceIte, List.length_cons, List.length_nil, Nat.reduceAdd, Nat.reduceLT, Nat.reduceLeDiff, Nat.reduceEqDiff, Int.reduceAdd, Int.reduceLE, Int.toNat_natCast, Int.reduceToNat, Int.cast_ofNat_Int, true_and, and_true, false_and, and_false, true_implies, forall_const, eq_self, and_self, or_true, true_or, or_self, false_or, or_false, yI_sI, yR_sI, yC_sI, yN_sI, yI_sR, yR_sR, yC_sR, yN_sR, not_true_eq_false, not_false_eq_true, false_implies, implies_true, Nat.zero_add, Nat.add_zero, Nat.le_refl, Nat.reduceSub, Int.reduceSub, Int.reduceLT, Int.sub_zero, Int.sub_self, List.getElem?_toArray, List.getElem?_cons_zero, List.getElem?_cons_succ, Int.toNat_zero, Int.toNat_one, Int.lt_irrefl, pZ_2_254, stp_aload_n, pZ_2_255, pZ_2_256, stp_iload_n, pZ_2_257, stp_iconst, ic_1, pZ_2_258, stp_iadd, pZ_2_259, stp_iaload, pZ_2_260, pZ_2_261, pZ_2_262, ic_2, pZ_2_263, pZ_2_264, pZ_2_265, stp_invokevirtual, qmZ_23, cy_S_way, pZ_2_268, pZ_2_269, pZ_2_270, pZ_2_271, pZ_2_272, pZ_2_273, pZ_2_274, pZ_2_275, pZ_2_276, pZ_2_277, pZ_2_278, pZ_2_279, qmZ_27, cy_M_way, pZ_2_282, stp_if_icmp_eq, pZ_2_285, ic_0, pZ_2_286, stp_ireturn, wC0, wC13, v1, c1, v2, c2]
  refine ⟨n', 8, 100, by omega, h1, h2, call.up.mono fun rr w1 h' => ?_⟩
  obtain ⟨⟨v, rfl, ty, m', hm', sem⟩, hup⟩ := h'
  obtain ⟨y, rfl⟩ : ∃ y : Int32, v = .inl y := ty
  have wD13 : 0 < wC w1 13 := by have := hup 13; omega
  refine wpn_ok (M := mZ) (C := cenZ) (X := (alk [])) (tb := tZ_2) (st := [1264]) eoZ XOk_nil kZ_2 60 _ _ _ _ _ _ ?_
  simp only [reduceCtorEq, fv0, fv1, fv2, fv3, bI_0, bI_1, bft, MSh_sI_eq, fsP_T, inL_0, inL_s, pad_0, pad_n, pad_s, wpn_s, wp1_s, lg_0, lg_s, lset_0, lset_s, kil_0, kil_s, st1_s, st2_s, isL_i, isL_l, isL_r, isL_n, spl_0, spl_s, cll_n, cll_s, catS_0, catS_s, jmp_s, alk_0, alk_s, otl_n, otl_s, List.nil_append, List.cons_append, List.contains_cons, List.contains_nil, Nat.reduceBEq, Bool.or_false, Bool.false_or, Bool.or_self, Bool.false_eq_true, Bool.true_or, Bool.or_true, if_true, if_false, ite_true, ite_false, ↓reduceIte, List.length_cons, List.length_nil, Nat.reduceAdd, Nat.reduceLT, Nat.reduceLeDiff, Nat.reduceEqDiff, Int.reduceAdd, Int.reduceLE, Int.toNat_natCast, Int.reduceToNat, Int.cast_ofNat_Int, true_and, and_true, false_and, and_false, true_implies, forall_const, eq_self, and_self, or_true, true_or, or_self, false_or, or_false, yI_sI, yR_sI, yC_sI, yN_sI, yI_sR, yR_sR, yC_sR, yN_sR, not_true_eq_false, not_false_eq_true, false_implies, implies_true, Nat.zero_add, Nat.add_zero, Nat.le_refl, Nat.reduceSub, Int.reduceSub, Int.reduceLT, Int.sub_zero, Int.sub_self, List.getElem?_toArray, List.getElem?_cons_zero, List.getElem?_cons_succ, Int.toNat_zero, Int.toNat_one, Int.lt_irrefl, pZ_2_254, stp_aload_n, pZ_2_255, pZ_2_256, stp_iload_n, pZ_2_257, stp_iconst, ic_1, pZ_2_258, stp_iadd, pZ_2_259, stp_iaload, pZ_2_260, pZ_2_261, pZ_2_262, ic_2, pZ_2_263, pZ_2_264, pZ_2_265, stp_invokevirtual, qmZ_23, cy_S_way, pZ_2_268, pZ_2_269, pZ_2_270, pZ_2_271, pZ_2_272, pZ_2_273, pZ_2_274, pZ_2_275, pZ_2_276, pZ_2_277, pZ_2_278, pZ_2_279, qmZ_27, cy_M_way, pZ_2_282, stp_if_icmp_eq, pZ_2_285, ic_0, pZ_2_286, stp_ireturn, wD13, Option.toList_some, v1, c1, v2, c2]
  refine ⟨m', 0, 0, by omega, by omega, by omega, sem.mono fun rr w2 h' => ?_⟩
  obtain ⟨rfl, hI⟩ := h'
  refine wpn_ok (M := mZ) (C := cenZ) (X := (alk [])) (tb := tZ_2) (st := [1264]) eoZ XOk_nil kZ_2 60 _ _ _ _ _ _ ?_
  simp only [reduceCtorEq, fv0, fv1, fv2, fv3, bI_0, bI_1, bft, MSh_sI_eq, fsP_T, inL_0, inL_s, pad_0, pad_n, pad_s, wpn_s, wp1_s, lg_0, lg_s, lset_0, lset_s, kil_0, kil_s, st1_s, st2_s, isL_i, isL_l, isL_r, isL_n, spl_0, spl_s, cll_n, cll_s, catS_0, catS_s, jmp_s, alk_0, alk_s, otl_n, otl_s, List.nil_append, List.cons_append, List.contains_cons, List.contains_nil, Nat.reduceBEq, Bool.or_false, Bool.false_or, Bool.or_self, Bool.false_eq_true, Bool.true_or, Bool.or_true, if_true, if_false, ite_true, ite_false, ↓reduceIte, List.length_cons, List.length_nil, Nat.reduceAdd, Nat.reduceLT, Nat.reduceLeDiff, Nat.reduceEqDiff, Int.reduceAdd, Int.reduceLE, Int.toNat_natCast, Int.reduceToNat, Int.cast_ofNat_Int, true_and, and_true, false_and, and_false, true_implies, forall_const, eq_self, and_self, or_true, true_or, or_self, false_or, or_false, yI_sI, yR_sI, yC_sI, yN_sI, yI_sR, yR_sR, yC_sR, yN_sR, not_true_eq_false, not_false_eq_true, false_implies, implies_true, Nat.zero_add, Nat.add_zero, Nat.le_refl, Nat.reduceSub, Int.reduceSub, Int.reduceLT, Int.sub_zero, Int.sub_self, List.getElem?_toArray, List.getElem?_cons_zero, List.getElem?_cons_succ, Int.toNat_zero, Int.toNat_one, Int.lt_irrefl, pZ_2_254, stp_aload_n, pZ_2_255, pZ_2_256, stp_iload_n, pZ_2_257, stp_iconst, ic_1, pZ_2_258, stp_iadd, pZ_2_259, stp_iaload, pZ_2_260, pZ_2_261, pZ_2_262, ic_2, pZ_2_263, pZ_2_264, pZ_2_265, stp_invokevirtual, qmZ_23, cy_S_way, pZ_2_268, pZ_2_269, pZ_2_270, pZ_2_271, pZ_2_272, pZ_2_273, pZ_2_274, pZ_2_275, pZ_2_276, pZ_2_277, pZ_2_278, pZ_2_279, qmZ_27, cy_M_way, pZ_2_282, stp_if_icmp_eq, pZ_2_285, ic_0, pZ_2_286, stp_ireturn, Option.toList_some]
  exact ih _ _ _ (by omega) (by omega) hI
end
def tZ_3 : TB := [(287, .aload_n 1, 1), (288, .aload_n 0, 1), (289, .iload_n 3, 1), (290, .iconst 1, 1), (291, .iadd, 1), (292, .iaload, 1), (293, .aload_n 0, 1), (294, .iload_n 3, 1), (295, .iconst 2, 1), (296, .iadd, 1), (297, .iaload, 1), (298, .aload_n 0, 1), (299, .iload_n 3, 1), (300, .iconst 3, 1), (301, .iadd, 1), (302, .iaload, 1), (303, .invokevirtual 28, 3), (306, .aload_n 2, 1), (307, .aload_n 0, 1), (308, .iload_n 3, 1), (309, .iconst 1, 1), (310, .iadd, 1), (311, .iaload, 1), (312, .aload_n 0, 1), (313, .iload_n 3, 1), (314, .iconst 2, 1), (315, .iadd, 1), (316, .iaload, 1), (317, .aload_n 0, 1), (318, .iload_n 3, 1), (319, .iconst 3, 1), (320, .iadd, 1), (321, .iaload, 1), (322, .invokevirtual 31, 3), (325, .if_icmp .eq 939, 3), (328, .iconst 0, 1), (329, .ireturn, 1)]
set_option maxRecDepth 100000 in
theorem kZ_3 : tbOk (mB mZ) tZ_3 = true := by decide +kernel
theorem pZ_3_287 : alk tZ_3 287 = some (.aload_n 1, 1) := (rfl)
theorem pZ_3_288 : alk tZ_3 288 = some (.aload_n 0, 1) := (rfl)
theorem pZ_3_289 : alk tZ_3 289 = some (.iload_n 3, 1) := (rfl)
theorem pZ_3_290 : alk tZ_3 290 = some (.iconst 1, 1) := (rfl)
theorem pZ_3_291 : alk tZ_3 291 = some (.iadd, 1) := (rfl)
theorem pZ_3_292 : alk tZ_3 292 = some (.iaload, 1) := (rfl)
theorem pZ_3_293 : alk tZ_3 293 = some (.aload_n 0, 1) := (rfl)
theorem pZ_3_294 : alk tZ_3 294 = some (.iload_n 3, 1) := (rfl)
theorem pZ_3_295 : alk tZ_3 295 = some (.iconst 2, 1) := (rfl)
theorem pZ_3_296 : alk tZ_3 296 = some (.iadd, 1) := (rfl)
theorem pZ_3_297 : alk tZ_3 297 = some (.iaload, 1) := (rfl)
theorem pZ_3_298 : alk tZ_3 298 = some (.aload_n 0, 1) := (rfl)
theorem pZ_3_299 : alk tZ_3 299 = some (.iload_n 3, 1) := (rfl)
theorem pZ_3_300 : alk tZ_3 300 = some (.iconst 3, 1) := (rfl)
theorem pZ_3_301 : alk tZ_3 301 = some (.iadd, 1) := (rfl)
theorem pZ_3_302 : alk tZ_3 302 = some (.iaload, 1) := (rfl)
theorem pZ_3_303 : alk tZ_3 303 = some (.invokevirtual 28, 3) := (rfl)
theorem pZ_3_306 : alk tZ_3 306 = some (.aload_n 2, 1) := (rfl)
theorem pZ_3_307 : alk tZ_3 307 = some (.aload_n 0, 1) := (rfl)
theorem pZ_3_308 : alk tZ_3 308 = some (.iload_n 3, 1) := (rfl)
theorem pZ_3_309 : alk tZ_3 309 = some (.iconst 1, 1) := (rfl)
theorem pZ_3_310 : alk tZ_3 310 = some (.iadd, 1) := (rfl)
theorem pZ_3_311 : alk tZ_3 311 = some (.iaload, 1) := (rfl)
theorem pZ_3_312 : alk tZ_3 312 = some (.aload_n 0, 1) := (rfl)
theorem pZ_3_313 : alk tZ_3 313 = some (.iload_n 3, 1) := (rfl)
theorem pZ_3_314 : alk tZ_3 314 = some (.iconst 2, 1) := (rfl)
theorem pZ_3_315 : alk tZ_3 315 = some (.iadd, 1) := (rfl)
theorem pZ_3_316 : alk tZ_3 316 = some (.iaload, 1) := (rfl)
theorem pZ_3_317 : alk tZ_3 317 = some (.aload_n 0, 1) := (rfl)
theorem pZ_3_318 : alk tZ_3 318 = some (.iload_n 3, 1) := (rfl)
theorem pZ_3_319 : alk tZ_3 319 = some (.iconst 3, 1) := (rfl)
theorem pZ_3_320 : alk tZ_3 320 = some (.iadd, 1) := (rfl)
theorem pZ_3_321 : alk tZ_3 321 = some (.iaload, 1) := (rfl)
theorem pZ_3_322 : alk tZ_3 322 = some (.invokevirtual 31, 3) := (rfl)
theorem pZ_3_325 : alk tZ_3 325 = some (.if_icmp .eq 939, 3) := (rfl)
theorem pZ_3_328 : alk tZ_3 328 = some (.iconst 0, 1) := (rfl)
theorem pZ_3_329 : alk tZ_3 329 = some (.ireturn, 1) := (rfl)
section
variable {l : Launch} {G : Gc} {mc ms : Nat} {Q : Option AV → Wd → Prop} {w : Wd}
set_option maxRecDepth 100000 in
set_option maxHeartbeats 4000000 in
theorem lcZ_3 {c i cu su : Nat} (h : Inv c w) (hc : c < 1000) (hi : i + 6 ≤ gL G) (hL : gL G ≤ 3072) (h1 : cu + 8 ≤ mc) (h2 : su + 100 ≤ ms) (ih : ∀ w' cu' su', cu' ≤ cu + 8 → su' ≤ su + 100 → Inv (c + 1) w' → WP l G mZ 40 mc ms Q 1264 [some (.inr (.inr (some (901, 0)))), some (.inr (.inr (some (0, 0)))), some (.inr (.inr (some (13, 0)))), some (.inl (nI i))] [] w' cu' su') : WP l G mZ 40 mc ms Q 287 [some (.inr (.inr (some (901, 0)))), some (.inr (.inr (some (0, 0)))), some (.inr (.inr (some (13, 0)))), some (.inl (nI i))] [] w cu su := by
  have wC0 := ss_C0 (iv_S h)
  have wC13 : wC w 13 = 1 := (iv_M h).1.1
  have v1 : vp_in (nI i + 1) (gL G) := by rw [show nI i + 1 = nI (i + 1) from nI_add i 1]; exact vp_in_nI (by omega) (by omega)
  have c1 : (nI i + 1).toNatClampNeg = i + 1 := by rw [show nI i + 1 = nI (i + 1) from nI_add i 1]; exact nI_clamp (by omega)
  have v2 : vp_in (nI i + 2) (gL G) := by rw [show nI i + 2 = nI (i + 2) from nI_add i 2]; exact vp_in_nI (by omega) (by omega)
  have c2 : (nI i + 2).toNatClampNeg = i + 2 := by rw [show nI i + 2 = nI (i + 2) from nI_add i 2]; exact nI_clamp (by omega)
  have v3 : vp_in (nI i + 3) (gL G) := by rw [show nI i + 3 = nI (i + 3) from nI_add i 3]; exact vp_in_nI (by omega) (by omega)
  have c3 : (nI i + 3).toNatClampNeg = i + 3 := by rw [show nI i + 3 = nI (i + 3) from nI_add i 3]; exact nI_clamp (by omega)
  obtain ⟨n', hn', call⟩ := ca_by (l := l) (G := G) h (gS G (i + 1)) (gS G (i + 2)) (gS G (i + 3))
  refine wpn_ok (M := mZ) (C := cenZ) (X := (alk [])) (tb := tZ_3) (st := [1264]) eoZ XOk_nil kZ_3 60 _ _ _ _ _ _ ?_
  simp only [reduceCtorEq, fv0, fv1, fv2, fv3, bI_0, bI_1, bft, MSh_sI_eq, fsP_T, inL_0, inL_s, pad_0, pad_n, pad_s, wpn_s, wp1_s, lg_0, lg_s, lset_0, lset_s, kil_0, kil_s, st1_s, st2_s, isL_i, isL_l, isL_r, isL_n, spl_0, spl_s, cll_n, cll_s, catS_0, catS_s, jmp_s, alk_0, alk_s, otl_n, otl_s, List.nil_append, List.cons_append, List.contains_cons, List.contains_nil, Nat.reduceBEq, Bool.or_false, Bool.false_or, Bool.or_self, Bool.false_eq_true, Bool.true_or, Bool.or_true, if_true, if_false, ite_true, ite_false, ↓reduceIte, List.length_cons, List.length_nil, Nat.reduceAdd, Nat.reduceLT, Nat.reduceLeDiff, Nat.reduceEqDiff, Int.reduceAdd, Int.reduceLE, Int.toNat_natCast, Int.reduceToNat, Int.cast_ofNat_Int, true_and, and_true, false_and, and_false, true_implies, forall_const, eq_self, and_self, or_true, true_or, or_self, false_or, or_false, yI_sI, yR_sI, yC_sI, yN_sI, yI_sR, yR_sR, yC_sR, yN_sR, not_true_eq_false, not_false_eq_true, false_implies, implies_true, Nat.zero_add, Nat.add_zero, Nat.le_refl, Nat.reduceSub, Int.reduceSub, Int.reduceLT, Int.sub_zero, Int.sub_self, List.getElem?_toArray, List.getElem?_cons_zero, List.getElem?_cons_succ, Int.toNat_zero, Int.toNat_one, Int.lt_irrefl, pZ_3_287, stp_aload_n, pZ_3_288, pZ_3_289, stp_iload_n, pZ_3_290, stp_iconst, ic_1, pZ_3_291, stp_iadd, pZ_3_292, stp_iaload, pZ_3_293, pZ_3_294, pZ_3_295, ic_2, pZ_3_296, pZ_3_297, pZ_3_298, pZ_3_299, pZ_3_300, ic_3, pZ_3_301, pZ_3_302, pZ_3_303, stp_invokevirtual, qmZ_28, cy_S_by, pZ_3_306, pZ_3_307, pZ_3_308, pZ_3_309, pZ_3_310, pZ_3_311, pZ_3_312, pZ_3_313, pZ_3_314, pZ_3_315, pZ_3_316, pZ_3_317, pZ_3_318, pZ_3_319, pZ_3_320, pZ_3_321, pZ_3_322, qmZ_31, cy_M_by, pZ_3_325, stp_if_icmp_eq, pZ_3_328, ic_0, pZ_3_329, stp_ireturn, wC0, wC13, v1, c1, v2, c2, v3, c3]
  refine ⟨n', 8, 100, by omega, h1, h2, call.up.mono fun rr w1 h' => ?_⟩
  obtain ⟨⟨v, rfl, ty, m', hm', sem⟩, hup⟩ := h'
  obtain ⟨y, rfl⟩ : ∃ y : Int32, v = .inl y := ty
  have wD13 : 0 < wC w1 13 := by have := hup 13; omega
  refine wpn_ok (M := mZ) (C := cenZ) (X := (alk [])) (tb := tZ_3) (st := [1264]) eoZ XOk_nil kZ_3 60 _ _ _ _ _ _ ?_
  simp only [reduceCtorEq, fv0, fv1, fv2, fv3, bI_0, bI_1, bft, MSh_sI_eq, fsP_T, inL_0, inL_s, pad_0, pad_n, pad_s, wpn_s, wp1_s, lg_0, lg_s, lset_0, lset_s, kil_0, kil_s, st1_s, st2_s, isL_i, isL_l, isL_r, isL_n, spl_0, spl_s, cll_n, cll_s, catS_0, catS_s, jmp_s, alk_0, alk_s, otl_n, otl_s, List.nil_append, List.cons_append, List.contains_cons, List.contains_nil, Nat.reduceBEq, Bool.or_false, Bool.false_or, Bool.or_self, Bool.false_eq_true, Bool.true_or, Bool.or_true, if_true, if_false, ite_true, ite_false, ↓reduceIte, List.length_cons, List.length_nil, Nat.reduceAdd, Nat.reduceLT, Nat.reduceLeDiff, Nat.reduceEqDiff, Int.reduceAdd, Int.reduceLE, Int.toNat_natCast, Int.reduceToNat, Int.cast_ofNat_Int, true_and, and_true, false_and, and_false, true_implies, forall_const, eq_self, and_self, or_true, true_or, or_self, false_or, or_false, yI_sI, yR_sI, yC_sI, yN_sI, yI_sR, yR_sR, yC_sR, yN_sR, not_true_eq_false, not_false_eq_true, false_implies, implies_true, Nat.zero_add, Nat.add_zero, Nat.le_refl, Nat.reduceSub, Int.reduceSub, Int.reduceLT, Int.sub_zero, Int.sub_self, List.getElem?_toArray, List.getElem?_cons_zero, List.getElem?_cons_succ, Int.toNat_zero, Int.toNat_one, Int.lt_irrefl, pZ_3_287, stp_aload_n, pZ_3_288, pZ_3_289, stp_iload_n, pZ_3_290, stp_iconst, ic_1, pZ_3_291, stp_iadd, pZ_3_292, stp_iaload, pZ_3_293, pZ_3_294, pZ_3_295, ic_2, pZ_3_296, pZ_3_297, pZ_3_298, pZ_3_299, pZ_3_300, ic_3, pZ_3_301, pZ_3_302, pZ_3_303, stp_invokevirtual, qmZ_28, cy_S_by, pZ_3_306, pZ_3_307, pZ_3_308, pZ_3_309, pZ_3_310, pZ_3_311, pZ_3_312, pZ_3_313, pZ_3_314, pZ_3_315, pZ_3_316, pZ_3_317, pZ_3_318, pZ_3_319, pZ_3_320, pZ_3_321, pZ_3_322, qmZ_31, cy_M_by, pZ_3_325, stp_if_icmp_eq, pZ_3_328, ic_0, pZ_3_329, stp_ireturn, wD13, Option.toList_some, v1, c1, v2, c2, v3, c3]
  refine ⟨m', 0, 0, by omega, by omega, by omega, sem.mono fun rr w2 h' => ?_⟩
  obtain ⟨rfl, hI⟩ := h'
  refine wpn_ok (M := mZ) (C := cenZ) (X := (alk [])) (tb := tZ_3) (st := [1264]) eoZ XOk_nil kZ_3 60 _ _ _ _ _ _ ?_
  simp only [reduceCtorEq, fv0, fv1, fv2, fv3, bI_0, bI_1, bft, MSh_sI_eq, fsP_T, inL_0, inL_s, pad_0, pad_n, pad_s, wpn_s, wp1_s, lg_0, lg_s, lset_0, lset_s, kil_0, kil_s, st1_s, st2_s, isL_i, isL_l, isL_r, isL_n, spl_0, spl_s, cll_n, cll_s, catS_0, catS_s, jmp_s, alk_0, alk_s, otl_n, otl_s, List.nil_append, List.cons_append, List.contains_cons, List.contains_nil, Nat.reduceBEq, Bool.or_false, Bool.false_or, Bool.or_self, Bool.false_eq_true, Bool.true_or, Bool.or_true, if_true, if_false, ite_true, ite_false, ↓reduceIte, List.length_cons, List.length_nil, Nat.reduceAdd, Nat.reduceLT, Nat.reduceLeDiff, Nat.reduceEqDiff, Int.reduceAdd, Int.reduceLE, Int.toNat_natCast, Int.reduceToNat, Int.cast_ofNat_Int, true_and, and_true, false_and, and_false, true_implies, forall_const, eq_self, and_self, or_true, true_or, or_self, false_or, or_false, yI_sI, yR_sI, yC_sI, yN_sI, yI_sR, yR_sR, yC_sR, yN_sR, not_true_eq_false, not_false_eq_true, false_implies, implies_true, Nat.zero_add, Nat.add_zero, Nat.le_refl, Nat.reduceSub, Int.reduceSub, Int.reduceLT, Int.sub_zero, Int.sub_self, List.getElem?_toArray, List.getElem?_cons_zero, List.getElem?_cons_succ, Int.toNat_zero, Int.toNat_one, Int.lt_irrefl, pZ_3_287, stp_aload_n, pZ_3_288, pZ_3_289, stp_iload_n, pZ_3_290, stp_iconst, ic_1, pZ_3_291, stp_iadd, pZ_3_292, stp_iaload, pZ_3_293, pZ_3_294, pZ_3_295, ic_2, pZ_3_296, pZ_3_297, pZ_3_298, pZ_3_299, pZ_3_300, ic_3, pZ_3_301, pZ_3_302, pZ_3_303, stp_invokevirtual, qmZ_28, cy_S_by, pZ_3_306, pZ_3_307, pZ_3_308, pZ_3_309, pZ_3_310, pZ_3_311, pZ_3_312, pZ_3_313, pZ_3_314, pZ_3_315, pZ_3_316, pZ_3_317, pZ_3_318, pZ_3_319, pZ_3_320, pZ_3_321, pZ_3_322, qmZ_31, cy_M_by, pZ_3_325, stp_if_icmp_eq, pZ_3_328, ic_0, pZ_3_329, stp_ireturn, Option.toList_some]
  exact ih _ _ _ (by omega) (by omega) hI
end
def tZ_4 : TB := [(330, .aload_n 1, 1), (331, .aload_n 0, 1), (332, .iload_n 3, 1), (333, .iconst 1, 1), (334, .iadd, 1), (335, .iaload, 1), (336, .aload_n 0, 1), (337, .iload_n 3, 1), (338, .iconst 2, 1), (339, .iadd, 1), (340, .iaload, 1), (341, .aload_n 0, 1), (342, .iload_n 3, 1), (343, .iconst 3, 1), (344, .iadd, 1), (345, .iaload, 1), (346, .aload_n 0, 1), (347, .iload_n 3, 1), (348, .iconst 4, 1), (349, .iadd, 1), (350, .iaload, 1), (351, .aload_n 0, 1), (352, .iload_n 3, 1), (353, .iconst 5, 1), (354, .iadd, 1), (355, .iaload, 1), (356, .invokevirtual 32, 3), (359, .aload_n 2, 1), (360, .aload_n 0, 1), (361, .iload_n 3, 1), (362, .iconst 1, 1), (363, .iadd, 1), (364, .iaload, 1), (365, .aload_n 0, 1), (366, .iload_n 3, 1), (367, .iconst 2, 1), (368, .iadd, 1), (369, .iaload, 1), (370, .aload_n 0, 1), (371, .iload_n 3, 1), (372, .iconst 3, 1), (373, .iadd, 1), (374, .iaload, 1), (375, .aload_n 0, 1), (376, .iload_n 3, 1), (377, .iconst 4, 1), (378, .iadd, 1), (379, .iaload, 1), (380, .aload_n 0, 1), (381, .iload_n 3, 1), (382, .iconst 5, 1), (383, .iadd, 1), (384, .iaload, 1), (385, .invokevirtual 36, 3), (388, .if_icmp .eq 876, 3), (391, .iconst 0, 1), (392, .ireturn, 1)]
set_option maxRecDepth 100000 in
theorem kZ_4 : tbOk (mB mZ) tZ_4 = true := by decide +kernel
theorem pZ_4_330 : alk tZ_4 330 = some (.aload_n 1, 1) := (rfl)
theorem pZ_4_331 : alk tZ_4 331 = some (.aload_n 0, 1) := (rfl)
theorem pZ_4_332 : alk tZ_4 332 = some (.iload_n 3, 1) := (rfl)
theorem pZ_4_333 : alk tZ_4 333 = some (.iconst 1, 1) := (rfl)
theorem pZ_4_334 : alk tZ_4 334 = some (.iadd, 1) := (rfl)
theorem pZ_4_335 : alk tZ_4 335 = some (.iaload, 1) := (rfl)
theorem pZ_4_336 : alk tZ_4 336 = some (.aload_n 0, 1) := (rfl)
theorem pZ_4_337 : alk tZ_4 337 = some (.iload_n 3, 1) := (rfl)
theorem pZ_4_338 : alk tZ_4 338 = some (.iconst 2, 1) := (rfl)
theorem pZ_4_339 : alk tZ_4 339 = some (.iadd, 1) := (rfl)
theorem pZ_4_340 : alk tZ_4 340 = some (.iaload, 1) := (rfl)
theorem pZ_4_341 : alk tZ_4 341 = some (.aload_n 0, 1) := (rfl)
theorem pZ_4_342 : alk tZ_4 342 = some (.iload_n 3, 1) := (rfl)
theorem pZ_4_343 : alk tZ_4 343 = some (.iconst 3, 1) := (rfl)
theorem pZ_4_344 : alk tZ_4 344 = some (.iadd, 1) := (rfl)
theorem pZ_4_345 : alk tZ_4 345 = some (.iaload, 1) := (rfl)
theorem pZ_4_346 : alk tZ_4 346 = some (.aload_n 0, 1) := (rfl)
theorem pZ_4_347 : alk tZ_4 347 = some (.iload_n 3, 1) := (rfl)
theorem pZ_4_348 : alk tZ_4 348 = some (.iconst 4, 1) := (rfl)
theorem pZ_4_349 : alk tZ_4 349 = some (.iadd, 1) := (rfl)
theorem pZ_4_350 : alk tZ_4 350 = some (.iaload, 1) := (rfl)
theorem pZ_4_351 : alk tZ_4 351 = some (.aload_n 0, 1) := (rfl)
theorem pZ_4_352 : alk tZ_4 352 = some (.iload_n 3, 1) := (rfl)
theorem pZ_4_353 : alk tZ_4 353 = some (.iconst 5, 1) := (rfl)
theorem pZ_4_354 : alk tZ_4 354 = some (.iadd, 1) := (rfl)
theorem pZ_4_355 : alk tZ_4 355 = some (.iaload, 1) := (rfl)
theorem pZ_4_356 : alk tZ_4 356 = some (.invokevirtual 32, 3) := (rfl)
theorem pZ_4_359 : alk tZ_4 359 = some (.aload_n 2, 1) := (rfl)
theorem pZ_4_360 : alk tZ_4 360 = some (.aload_n 0, 1) := (rfl)
theorem pZ_4_361 : alk tZ_4 361 = some (.iload_n 3, 1) := (rfl)
theorem pZ_4_362 : alk tZ_4 362 = some (.iconst 1, 1) := (rfl)
theorem pZ_4_363 : alk tZ_4 363 = some (.iadd, 1) := (rfl)
theorem pZ_4_364 : alk tZ_4 364 = some (.iaload, 1) := (rfl)
theorem pZ_4_365 : alk tZ_4 365 = some (.aload_n 0, 1) := (rfl)
theorem pZ_4_366 : alk tZ_4 366 = some (.iload_n 3, 1) := (rfl)
theorem pZ_4_367 : alk tZ_4 367 = some (.iconst 2, 1) := (rfl)
theorem pZ_4_368 : alk tZ_4 368 = some (.iadd, 1) := (rfl)
theorem pZ_4_369 : alk tZ_4 369 = some (.iaload, 1) := (rfl)
theorem pZ_4_370 : alk tZ_4 370 = some (.aload_n 0, 1) := (rfl)
theorem pZ_4_371 : alk tZ_4 371 = some (.iload_n 3, 1) := (rfl)
theorem pZ_4_372 : alk tZ_4 372 = some (.iconst 3, 1) := (rfl)
theorem pZ_4_373 : alk tZ_4 373 = some (.iadd, 1) := (rfl)
theorem pZ_4_374 : alk tZ_4 374 = some (.iaload, 1) := (rfl)
theorem pZ_4_375 : alk tZ_4 375 = some (.aload_n 0, 1) := (rfl)
theorem pZ_4_376 : alk tZ_4 376 = some (.iload_n 3, 1) := (rfl)
theorem pZ_4_377 : alk tZ_4 377 = some (.iconst 4, 1) := (rfl)
theorem pZ_4_378 : alk tZ_4 378 = some (.iadd, 1) := (rfl)
theorem pZ_4_379 : alk tZ_4 379 = some (.iaload, 1) := (rfl)
theorem pZ_4_380 : alk tZ_4 380 = some (.aload_n 0, 1) := (rfl)
theorem pZ_4_381 : alk tZ_4 381 = some (.iload_n 3, 1) := (rfl)
theorem pZ_4_382 : alk tZ_4 382 = some (.iconst 5, 1) := (rfl)
theorem pZ_4_383 : alk tZ_4 383 = some (.iadd, 1) := (rfl)
theorem pZ_4_384 : alk tZ_4 384 = some (.iaload, 1) := (rfl)
theorem pZ_4_385 : alk tZ_4 385 = some (.invokevirtual 36, 3) := (rfl)
theorem pZ_4_388 : alk tZ_4 388 = some (.if_icmp .eq 876, 3) := (rfl)
theorem pZ_4_391 : alk tZ_4 391 = some (.iconst 0, 1) := (rfl)
theorem pZ_4_392 : alk tZ_4 392 = some (.ireturn, 1) := (rfl)
section
variable {l : Launch} {G : Gc} {mc ms : Nat} {Q : Option AV → Wd → Prop} {w : Wd}
set_option maxRecDepth 100000 in
set_option maxHeartbeats 4000000 in
theorem lcZ_4 {c i cu su : Nat} (h : Inv c w) (hc : c < 1000) (hi : i + 6 ≤ gL G) (hL : gL G ≤ 3072) (h1 : cu + 8 ≤ mc) (h2 : su + 100 ≤ ms) (ih : ∀ w' cu' su', cu' ≤ cu + 8 → su' ≤ su + 100 → Inv (c + 1) w' → WP l G mZ 40 mc ms Q 1264 [some (.inr (.inr (some (901, 0)))), some (.inr (.inr (some (0, 0)))), some (.inr (.inr (some (13, 0)))), some (.inl (nI i))] [] w' cu' su') : WP l G mZ 40 mc ms Q 330 [some (.inr (.inr (some (901, 0)))), some (.inr (.inr (some (0, 0)))), some (.inr (.inr (some (13, 0)))), some (.inl (nI i))] [] w cu su := by
  have wC0 := ss_C0 (iv_S h)
  have wC13 : wC w 13 = 1 := (iv_M h).1.1
  have v1 : vp_in (nI i + 1) (gL G) := by rw [show nI i + 1 = nI (i + 1) from nI_add i 1]; exact vp_in_nI (by omega) (by omega)
  have c1 : (nI i + 1).toNatClampNeg = i + 1 := by rw [show nI i + 1 = nI (i + 1) from nI_add i 1]; exact nI_clamp (by omega)
  have v2 : vp_in (nI i + 2) (gL G) := by rw [show nI i + 2 = nI (i + 2) from nI_add i 2]; exact vp_in_nI (by omega) (by omega)
  have c2 : (nI i + 2).toNatClampNeg = i + 2 := by rw [show nI i + 2 = nI (i + 2) from nI_add i 2]; exact nI_clamp (by omega)
  have v3 : vp_in (nI i + 3) (gL G) := by rw [show nI i + 3 = nI (i + 3) from nI_add i 3]; exact vp_in_nI (by omega) (by omega)
  have c3 : (nI i + 3).toNatClampNeg = i + 3 := by rw [show nI i + 3 = nI (i + 3) from nI_add i 3]; exact nI_clamp (by omega)
  have v4 : vp_in (nI i + 4) (gL G) := by rw [show nI i + 4 = nI (i + 4) from nI_add i 4]; exact vp_in_nI (by omega) (by omega)
  have c4 : (nI i + 4).toNatClampNeg = i + 4 := by rw [show nI i + 4 = nI (i + 4) from nI_add i 4]; exact nI_clamp (by omega)
  have v5 : vp_in (nI i + 5) (gL G) := by rw [show nI i + 5 = nI (i + 5) from nI_add i 5]; exact vp_in_nI (by omega) (by omega)
  have c5 : (nI i + 5).toNatClampNeg = i + 5 := by rw [show nI i + 5 = nI (i + 5) from nI_add i 5]; exact nI_clamp (by omega)
  obtain ⟨n', hn', call⟩ := ca_lot (l := l) (G := G) h (gS G (i + 1)) (gS G (i + 2)) (gS G (i + 3)) (gS G (i + 4)) (gS G (i + 5))
  refine wpn_ok (M := mZ) (C := cenZ) (X := (alk [])) (tb := tZ_4) (st := [1264]) eoZ XOk_nil kZ_4 60 _ _ _ _ _ _ ?_
  simp only [reduceCtorEq, fv0, fv1, fv2, fv3, bI_0, bI_1, bft, MSh_sI_eq, fsP_T, inL_0, inL_s, pad_0, pad_n, pad_s, wpn_s, wp1_s, lg_0, lg_s, lset_0, lset_s, kil_0, kil_s, st1_s, st2_s, isL_i, isL_l, isL_r, isL_n, spl_0, spl_s, cll_n, cll_s, catS_0, catS_s, jmp_s, alk_0, alk_s, otl_n, otl_s, List.nil_append, List.cons_append, List.contains_cons, List.contains_nil, Nat.reduceBEq, Bool.or_false, Bool.false_or, Bool.or_self, Bool.false_eq_true, Bool.true_or, Bool.or_true, if_true, if_false, ite_true, ite_false, ↓reduceIte, List.length_cons, List.length_nil, Nat.reduceAdd, Nat.reduceLT, Nat.reduceLeDiff, Nat.reduceEqDiff, Int.reduceAdd, Int.reduceLE, Int.toNat_natCast, Int.reduceToNat, Int.cast_ofNat_Int, true_and, and_true, false_and, and_false, true_implies, forall_const, eq_self, and_self, or_true, true_or, or_self, false_or, or_false, yI_sI, yR_sI, yC_sI, yN_sI, yI_sR, yR_sR, yC_sR, yN_sR, not_true_eq_false, not_false_eq_true, false_implies, implies_true, Nat.zero_add, Nat.add_zero, Nat.le_refl, Nat.reduceSub, Int.reduceSub, Int.reduceLT, Int.sub_zero, Int.sub_self, List.getElem?_toArray, List.getElem?_cons_zero, List.getElem?_cons_succ, Int.toNat_zero, Int.toNat_one, Int.lt_irrefl, pZ_4_330, stp_aload_n, pZ_4_331, pZ_4_332, stp_iload_n, pZ_4_333, stp_iconst, ic_1, pZ_4_334, stp_iadd, pZ_4_335, stp_iaload, pZ_4_336, pZ_4_337, pZ_4_338, ic_2, pZ_4_339, pZ_4_340, pZ_4_341, pZ_4_342, pZ_4_343, ic_3, pZ_4_344, pZ_4_345, pZ_4_346, pZ_4_347, pZ_4_348, ic_4, pZ_4_349, pZ_4_350, pZ_4_351, pZ_4_352, pZ_4_353, ic_5, pZ_4_354, pZ_4_355, pZ_4_356, stp_invokevirtual, qmZ_32, cy_S_lot, pZ_4_359, pZ_4_360, pZ_4_361, pZ_4_362, pZ_4_363, pZ_4_364, pZ_4_365, pZ_4_366, pZ_4_367, pZ_4_368, pZ_4_369, pZ_4_370, pZ_4_371, pZ_4_372, pZ_4_373, pZ_4_374, pZ_4_375, pZ_4_376, pZ_4_377, pZ_4_378, pZ_4_379, pZ_4_380, pZ_4_381, pZ_4_382, pZ_4_383, pZ_4_384, pZ_4_385, qmZ_36, cy_M_lot, pZ_4_388, stp_if_icmp_eq, pZ_4_391, ic_0, pZ_4_392, stp_ireturn, wC0, wC13, v1, c1, v2, c2, v3, c3, v4, c4, v5, c5]
  refine ⟨n', 8, 100, by omega, h1, h2, call.up.mono fun rr w1 h' => ?_⟩
  obtain ⟨⟨v, rfl, ty, m', hm', sem⟩, hup⟩ := h'
  obtain ⟨y, rfl⟩ : ∃ y : Int32, v = .inl y := ty
  have wD13 : 0 < wC w1 13 := by have := hup 13; omega
  refine wpn_ok (M := mZ) (C := cenZ) (X := (alk [])) (tb := tZ_4) (st := [1264]) eoZ XOk_nil kZ_4 60 _ _ _ _ _ _ ?_
  simp only [reduceCtorEq, fv0, fv1, fv2, fv3, bI_0, bI_1, bft, MSh_sI_eq, fsP_T, inL_0, inL_s, pad_0, pad_n, pad_s, wpn_s, wp1_s, lg_0, lg_s, lset_0, lset_s, kil_0, kil_s, st1_s, st2_s, isL_i, isL_l, isL_r, isL_n, spl_0, spl_s, cll_n, cll_s, catS_0, catS_s, jmp_s, alk_0, alk_s, otl_n, otl_s, List.nil_append, List.cons_append, List.contains_cons, List.contains_nil, Nat.reduceBEq, Bool.or_false, Bool.false_or, Bool.or_self, Bool.false_eq_true, Bool.true_or, Bool.or_true, if_true, if_false, ite_true, ite_false, ↓reduceIte, List.length_cons, List.length_nil, Nat.reduceAdd, Nat.reduceLT, Nat.reduceLeDiff, Nat.reduceEqDiff, Int.reduceAdd, Int.reduceLE, Int.toNat_natCast, Int.reduceToNat, Int.cast_ofNat_Int, true_and, and_true, false_and, and_false, true_implies, forall_const, eq_self, and_self, or_true, true_or, or_self, false_or, or_false, yI_sI, yR_sI, yC_sI, yN_sI, yI_sR, yR_sR, yC_sR, yN_sR, not_true_eq_false, not_false_eq_true, false_implies, implies_true, Nat.zero_add, Nat.add_zero, Nat.le_refl, Nat.reduceSub, Int.reduceSub, Int.reduceLT, Int.sub_zero, Int.sub_self, List.getElem?_toArray, List.getElem?_cons_zero, List.getElem?_cons_succ, Int.toNat_zero, Int.toNat_one, Int.lt_irrefl, pZ_4_330, stp_aload_n, pZ_4_331, pZ_4_332, stp_iload_n, pZ_4_333, stp_iconst, ic_1, pZ_4_334, stp_iadd, pZ_4_335, stp_iaload, pZ_4_336, pZ_4_337, pZ_4_338, ic_2, pZ_4_339, pZ_4_340, pZ_4_341, pZ_4_342, pZ_4_343, ic_3, pZ_4_344, pZ_4_345, pZ_4_346, pZ_4_347, pZ_4_348, ic_4, pZ_4_349, pZ_4_350, pZ_4_351, pZ_4_352, pZ_4_353, ic_5, pZ_4_354, pZ_4_355, pZ_4_356, stp_invokevirtual, qmZ_32, cy_S_lot, pZ_4_359, pZ_4_360, pZ_4_361, pZ_4_362, pZ_4_363, pZ_4_364, pZ_4_365, pZ_4_366, pZ_4_367, pZ_4_368, pZ_4_369, pZ_4_370, pZ_4_371, pZ_4_372, pZ_4_373, pZ_4_374, pZ_4_375, pZ_4_376, pZ_4_377, pZ_4_378, pZ_4_379, pZ_4_380, pZ_4_381, pZ_4_382, pZ_4_383, pZ_4_384, pZ_4_385, qmZ_36, cy_M_lot, pZ_4_388, stp_if_icmp_eq, pZ_4_391, ic_0, pZ_4_392, stp_ireturn, wD13, Option.toList_some, v1, c1, v2, c2, v3, c3, v4, c4, v5, c5]
  refine ⟨m', 0, 0, by omega, by omega, by omega, sem.mono fun rr w2 h' => ?_⟩
  obtain ⟨rfl, hI⟩ := h'
  refine wpn_ok (M := mZ) (C := cenZ) (X := (alk [])) (tb := tZ_4) (st := [1264]) eoZ XOk_nil kZ_4 60 _ _ _ _ _ _ ?_
  simp only [reduceCtorEq, fv0, fv1, fv2, fv3, bI_0, bI_1, bft, MSh_sI_eq, fsP_T, inL_0, inL_s, pad_0, pad_n, pad_s, wpn_s, wp1_s, lg_0, lg_s, lset_0, lset_s, kil_0, kil_s, st1_s, st2_s, isL_i, isL_l, isL_r, isL_n, spl_0, spl_s, cll_n, cll_s, catS_0, catS_s, jmp_s, alk_0, alk_s, otl_n, otl_s, List.nil_append, List.cons_append, List.contains_cons, List.contains_nil, Nat.reduceBEq, Bool.or_false, Bool.false_or, Bool.or_self, Bool.false_eq_true, Bool.true_or, Bool.or_true, if_true, if_false, ite_true, ite_false, ↓reduceIte, List.length_cons, List.length_nil, Nat.reduceAdd, Nat.reduceLT, Nat.reduceLeDiff, Nat.reduceEqDiff, Int.reduceAdd, Int.reduceLE, Int.toNat_natCast, Int.reduceToNat, Int.cast_ofNat_Int, true_and, and_true, false_and, and_false, true_implies, forall_const, eq_self, and_self, or_true, true_or, or_self, false_or, or_false, yI_sI, yR_sI, yC_sI, yN_sI, yI_sR, yR_sR, yC_sR, yN_sR, not_true_eq_false, not_false_eq_true, false_implies, implies_true, Nat.zero_add, Nat.add_zero, Nat.le_refl, Nat.reduceSub, Int.reduceSub, Int.reduceLT, Int.sub_zero, Int.sub_self, List.getElem?_toArray, List.getElem?_cons_zero, List.getElem?_cons_succ, Int.toNat_zero, Int.toNat_one, Int.lt_irrefl, pZ_4_330, stp_aload_n, pZ_4_331, pZ_4_332, stp_iload_n, pZ_4_333, stp_iconst, ic_1, pZ_4_334, stp_iadd, pZ_4_335, stp_iaload, pZ_4_336, pZ_4_337, pZ_4_338, ic_2, pZ_4_339, pZ_4_340, pZ_4_341, pZ_4_342, pZ_4_343, ic_3, pZ_4_344, pZ_4_345, pZ_4_346, pZ_4_347, pZ_4_348, ic_4, pZ_4_349, pZ_4_350, pZ_4_351, pZ_4_352, pZ_4_353, ic_5, pZ_4_354, pZ_4_355, pZ_4_356, stp_invokevirtual, qmZ_32, cy_S_lot, pZ_4_359, pZ_4_360, pZ_4_361, pZ_4_362, pZ_4_363, pZ_4_364, pZ_4_365, pZ_4_366, pZ_4_367, pZ_4_368, pZ_4_369, pZ_4_370, pZ_4_371, pZ_4_372, pZ_4_373, pZ_4_374, pZ_4_375, pZ_4_376, pZ_4_377, pZ_4_378, pZ_4_379, pZ_4_380, pZ_4_381, pZ_4_382, pZ_4_383, pZ_4_384, pZ_4_385, qmZ_36, cy_M_lot, pZ_4_388, stp_if_icmp_eq, pZ_4_391, ic_0, pZ_4_392, stp_ireturn, Option.toList_some]
  exact ih _ _ _ (by omega) (by omega) hI
end
def tZ_5 : TB := [(393, .aload_n 1, 1), (394, .aload_n 0, 1), (395, .iload_n 3, 1), (396, .iconst 1, 1), (397, .iadd, 1), (398, .iaload, 1), (399, .aload_n 0, 1), (400, .iload_n 3, 1), (401, .iconst 2, 1), (402, .iadd, 1), (403, .iaload, 1), (404, .aload_n 0, 1), (405, .iload_n 3, 1), (406, .iconst 3, 1), (407, .iadd, 1), (408, .iaload, 1), (409, .aload_n 0, 1), (410, .iload_n 3, 1), (411, .iconst 4, 1), (412, .iadd, 1), (413, .iaload, 1), (414, .invokevirtual 37, 3), (417, .aload_n 2, 1), (418, .aload_n 0, 1), (419, .iload_n 3, 1), (420, .iconst 1, 1), (421, .iadd, 1), (422, .iaload, 1), (423, .aload_n 0, 1), (424, .iload_n 3, 1), (425, .iconst 2, 1), (426, .iadd, 1), (427, .iaload, 1), (428, .aload_n 0, 1), (429, .iload_n 3, 1), (430, .iconst 3, 1), (431, .iadd, 1), (432, .iaload, 1), (433, .aload_n 0, 1), (434, .iload_n 3, 1), (435, .iconst 4, 1), (436, .iadd, 1), (437, .iaload, 1), (438, .invokevirtual 41, 3), (441, .if_icmp .eq 823, 3), (444, .iconst 0, 1), (445, .ireturn, 1)]
set_option maxRecDepth 100000 in
theorem kZ_5 : tbOk (mB mZ) tZ_5 = true := by decide +kernel
theorem pZ_5_393 : alk tZ_5 393 = some (.aload_n 1, 1) := (rfl)
theorem pZ_5_394 : alk tZ_5 394 = some (.aload_n 0, 1) := (rfl)
theorem pZ_5_395 : alk tZ_5 395 = some (.iload_n 3, 1) := (rfl)
theorem pZ_5_396 : alk tZ_5 396 = some (.iconst 1, 1) := (rfl)
theorem pZ_5_397 : alk tZ_5 397 = some (.iadd, 1) := (rfl)
theorem pZ_5_398 : alk tZ_5 398 = some (.iaload, 1) := (rfl)
theorem pZ_5_399 : alk tZ_5 399 = some (.aload_n 0, 1) := (rfl)
theorem pZ_5_400 : alk tZ_5 400 = some (.iload_n 3, 1) := (rfl)
theorem pZ_5_401 : alk tZ_5 401 = some (.iconst 2, 1) := (rfl)
theorem pZ_5_402 : alk tZ_5 402 = some (.iadd, 1) := (rfl)
theorem pZ_5_403 : alk tZ_5 403 = some (.iaload, 1) := (rfl)
theorem pZ_5_404 : alk tZ_5 404 = some (.aload_n 0, 1) := (rfl)
theorem pZ_5_405 : alk tZ_5 405 = some (.iload_n 3, 1) := (rfl)
theorem pZ_5_406 : alk tZ_5 406 = some (.iconst 3, 1) := (rfl)
theorem pZ_5_407 : alk tZ_5 407 = some (.iadd, 1) := (rfl)
theorem pZ_5_408 : alk tZ_5 408 = some (.iaload, 1) := (rfl)
theorem pZ_5_409 : alk tZ_5 409 = some (.aload_n 0, 1) := (rfl)
theorem pZ_5_410 : alk tZ_5 410 = some (.iload_n 3, 1) := (rfl)
theorem pZ_5_411 : alk tZ_5 411 = some (.iconst 4, 1) := (rfl)
theorem pZ_5_412 : alk tZ_5 412 = some (.iadd, 1) := (rfl)
theorem pZ_5_413 : alk tZ_5 413 = some (.iaload, 1) := (rfl)
theorem pZ_5_414 : alk tZ_5 414 = some (.invokevirtual 37, 3) := (rfl)
theorem pZ_5_417 : alk tZ_5 417 = some (.aload_n 2, 1) := (rfl)
theorem pZ_5_418 : alk tZ_5 418 = some (.aload_n 0, 1) := (rfl)
theorem pZ_5_419 : alk tZ_5 419 = some (.iload_n 3, 1) := (rfl)
theorem pZ_5_420 : alk tZ_5 420 = some (.iconst 1, 1) := (rfl)
theorem pZ_5_421 : alk tZ_5 421 = some (.iadd, 1) := (rfl)
theorem pZ_5_422 : alk tZ_5 422 = some (.iaload, 1) := (rfl)
theorem pZ_5_423 : alk tZ_5 423 = some (.aload_n 0, 1) := (rfl)
theorem pZ_5_424 : alk tZ_5 424 = some (.iload_n 3, 1) := (rfl)
theorem pZ_5_425 : alk tZ_5 425 = some (.iconst 2, 1) := (rfl)
theorem pZ_5_426 : alk tZ_5 426 = some (.iadd, 1) := (rfl)
theorem pZ_5_427 : alk tZ_5 427 = some (.iaload, 1) := (rfl)
theorem pZ_5_428 : alk tZ_5 428 = some (.aload_n 0, 1) := (rfl)
theorem pZ_5_429 : alk tZ_5 429 = some (.iload_n 3, 1) := (rfl)
theorem pZ_5_430 : alk tZ_5 430 = some (.iconst 3, 1) := (rfl)
theorem pZ_5_431 : alk tZ_5 431 = some (.iadd, 1) := (rfl)
theorem pZ_5_432 : alk tZ_5 432 = some (.iaload, 1) := (rfl)
theorem pZ_5_433 : alk tZ_5 433 = some (.aload_n 0, 1) := (rfl)
theorem pZ_5_434 : alk tZ_5 434 = some (.iload_n 3, 1) := (rfl)
theorem pZ_5_435 : alk tZ_5 435 = some (.iconst 4, 1) := (rfl)
theorem pZ_5_436 : alk tZ_5 436 = some (.iadd, 1) := (rfl)
theorem pZ_5_437 : alk tZ_5 437 = some (.iaload, 1) := (rfl)
theorem pZ_5_438 : alk tZ_5 438 = some (.invokevirtual 41, 3) := (rfl)
theorem pZ_5_441 : alk tZ_5 441 = some (.if_icmp .eq 823, 3) := (rfl)
theorem pZ_5_444 : alk tZ_5 444 = some (.iconst 0, 1) := (rfl)
theorem pZ_5_445 : alk tZ_5 445 = some (.ireturn, 1) := (rfl)
section
variable {l : Launch} {G : Gc} {mc ms : Nat} {Q : Option AV → Wd → Prop} {w : Wd}
set_option maxRecDepth 100000 in
set_option maxHeartbeats 4000000 in
theorem lcZ_5 {c i cu su : Nat} (h : Inv c w) (hc : c < 1000) (hi : i + 6 ≤ gL G) (hL : gL G ≤ 3072) (h1 : cu + 8 ≤ mc) (h2 : su + 100 ≤ ms) (ih : ∀ w' cu' su', cu' ≤ cu + 8 → su' ≤ su + 100 → Inv (c + 1) w' → WP l G mZ 40 mc ms Q 1264 [some (.inr (.inr (some (901, 0)))), some (.inr (.inr (some (0, 0)))), some (.inr (.inr (some (13, 0)))), some (.inl (nI i))] [] w' cu' su') : WP l G mZ 40 mc ms Q 393 [some (.inr (.inr (some (901, 0)))), some (.inr (.inr (some (0, 0)))), some (.inr (.inr (some (13, 0)))), some (.inl (nI i))] [] w cu su := by
  have wC0 := ss_C0 (iv_S h)
  have wC13 : wC w 13 = 1 := (iv_M h).1.1
  have v1 : vp_in (nI i + 1) (gL G) := by rw [show nI i + 1 = nI (i + 1) from nI_add i 1]; exact vp_in_nI (by omega) (by omega)
  have c1 : (nI i + 1).toNatClampNeg = i + 1 := by rw [show nI i + 1 = nI (i + 1) from nI_add i 1]; exact nI_clamp (by omega)
  have v2 : vp_in (nI i + 2) (gL G) := by rw [show nI i + 2 = nI (i + 2) from nI_add i 2]; exact vp_in_nI (by omega) (by omega)
  have c2 : (nI i + 2).toNatClampNeg = i + 2 := by rw [show nI i + 2 = nI (i + 2) from nI_add i 2]; exact nI_clamp (by omega)
  have v3 : vp_in (nI i + 3) (gL G) := by rw [show nI i + 3 = nI (i + 3) from nI_add i 3]; exact vp_in_nI (by omega) (by omega)
  have c3 : (nI i + 3).toNatClampNeg = i + 3 := by rw [show nI i + 3 = nI (i + 3) from nI_add i 3]; exact nI_clamp (by omega)
  have v4 : vp_in (nI i + 4) (gL G) := by rw [show nI i + 4 = nI (i + 4) from nI_add i 4]; exact vp_in_nI (by omega) (by omega)
  have c4 : (nI i + 4).toNatClampNeg = i + 4 := by rw [show nI i + 4 = nI (i + 4) from nI_add i 4]; exact nI_clamp (by omega)
  obtain ⟨n', hn', call⟩ := ca_sort (l := l) (G := G) h (gS G (i + 1)) (gS G (i + 2)) (gS G (i + 3)) (gS G (i + 4))
  refine wpn_ok (M := mZ) (C := cenZ) (X := (alk [])) (tb := tZ_5) (st := [1264]) eoZ XOk_nil kZ_5 60 _ _ _ _ _ _ ?_
  simp only [reduceCtorEq, fv0, fv1, fv2, fv3, bI_0, bI_1, bft, MSh_sI_eq, fsP_T, inL_0, inL_s, pad_0, pad_n, pad_s, wpn_s, wp1_s, lg_0, lg_s, lset_0, lset_s, kil_0, kil_s, st1_s, st2_s, isL_i, isL_l, isL_r, isL_n, spl_0, spl_s, cll_n, cll_s, catS_0, catS_s, jmp_s, alk_0, alk_s, otl_n, otl_s, List.nil_append, List.cons_append, List.contains_cons, List.contains_nil, Nat.reduceBEq, Bool.or_false, Bool.false_or, Bool.or_self, Bool.false_eq_true, Bool.true_or, Bool.or_true, if_true, if_false, ite_true, ite_false, ↓reduceIte, List.length_cons, List.length_nil, Nat.reduceAdd, Nat.reduceLT, Nat.reduceLeDiff, Nat.reduceEqDiff, Int.reduceAdd, Int.reduceLE, Int.toNat_natCast, Int.reduceToNat, Int.cast_ofNat_Int, true_and, and_true, false_and, and_false, true_implies, forall_const, eq_self, and_self, or_true, true_or, or_self, false_or, or_false, yI_sI, yR_sI, yC_sI, yN_sI, yI_sR, yR_sR, yC_sR, yN_sR, not_true_eq_false, not_false_eq_true, false_implies, implies_true, Nat.zero_add, Nat.add_zero, Nat.le_refl, Nat.reduceSub, Int.reduceSub, Int.reduceLT, Int.sub_zero, Int.sub_self, List.getElem?_toArray, List.getElem?_cons_zero, List.getElem?_cons_succ, Int.toNat_zero, Int.toNat_one, Int.lt_irrefl, pZ_5_393, stp_aload_n, pZ_5_394, pZ_5_395, stp_iload_n, pZ_5_396, stp_iconst, ic_1, pZ_5_397, stp_iadd, pZ_5_398, stp_iaload, pZ_5_399, pZ_5_400, pZ_5_401, ic_2, pZ_5_402, pZ_5_403, pZ_5_404, pZ_5_405, pZ_5_406, ic_3, pZ_5_407, pZ_5_408, pZ_5_409, pZ_5_410, pZ_5_411, ic_4, pZ_5_412, pZ_5_413, pZ_5_414, stp_invokevirtual, qmZ_37, cy_S_sort, pZ_5_417, pZ_5_418, pZ_5_419, pZ_5_420, pZ_5_421, pZ_5_422, pZ_5_423, pZ_5_424, pZ_5_425, pZ_5_426, pZ_5_427, pZ_5_428, pZ_5_429, pZ_5_430, pZ_5_431, pZ_5_432, pZ_5_433, pZ_5_434, pZ_5_435, pZ_5_436, pZ_5_437, pZ_5_438, qmZ_41, cy_M_sort, pZ_5_441, stp_if_icmp_eq, pZ_5_444, ic_0, pZ_5_445, stp_ireturn, wC0, wC13, v1, c1, v2, c2, v3, c3, v4, c4]
  refine ⟨n', 8, 100, by omega, h1, h2, call.up.mono fun rr w1 h' => ?_⟩
  obtain ⟨⟨v, rfl, ty, m', hm', sem⟩, hup⟩ := h'
  obtain ⟨y, rfl⟩ : ∃ y : Int32, v = .inl y := ty
  have wD13 : 0 < wC w1 13 := by have := hup 13; omega
  refine wpn_ok (M := mZ) (C := cenZ) (X := (alk [])) (tb := tZ_5) (st := [1264]) eoZ XOk_nil kZ_5 60 _ _ _ _ _ _ ?_
  simp only [reduceCtorEq, fv0, fv1, fv2, fv3, bI_0, bI_1, bft, MSh_sI_eq, fsP_T, inL_0, inL_s, pad_0, pad_n, pad_s, wpn_s, wp1_s, lg_0, lg_s, lset_0, lset_s, kil_0, kil_s, st1_s, st2_s, isL_i, isL_l, isL_r, isL_n, spl_0, spl_s, cll_n, cll_s, catS_0, catS_s, jmp_s, alk_0, alk_s, otl_n, otl_s, List.nil_append, List.cons_append, List.contains_cons, List.contains_nil, Nat.reduceBEq, Bool.or_false, Bool.false_or, Bool.or_self, Bool.false_eq_true, Bool.true_or, Bool.or_true, if_true, if_false, ite_true, ite_false, ↓reduceIte, List.length_cons, List.length_nil, Nat.reduceAdd, Nat.reduceLT, Nat.reduceLeDiff, Nat.reduceEqDiff, Int.reduceAdd, Int.reduceLE, Int.toNat_natCast, Int.reduceToNat, Int.cast_ofNat_Int, true_and, and_true, false_and, and_false, true_implies, forall_const, eq_self, and_self, or_true, true_or, or_self, false_or, or_false, yI_sI, yR_sI, yC_sI, yN_sI, yI_sR, yR_sR, yC_sR, yN_sR, not_true_eq_false, not_false_eq_true, false_implies, implies_true, Nat.zero_add, Nat.add_zero, Nat.le_refl, Nat.reduceSub, Int.reduceSub, Int.reduceLT, Int.sub_zero, Int.sub_self, List.getElem?_toArray, List.getElem?_cons_zero, List.getElem?_cons_succ, Int.toNat_zero, Int.toNat_one, Int.lt_irrefl, pZ_5_393, stp_aload_n, pZ_5_394, pZ_5_395, stp_iload_n, pZ_5_396, stp_iconst, ic_1, pZ_5_397, stp_iadd, pZ_5_398, stp_iaload, pZ_5_399, pZ_5_400, pZ_5_401, ic_2, pZ_5_402, pZ_5_403, pZ_5_404, pZ_5_405, pZ_5_406, ic_3, pZ_5_407, pZ_5_408, pZ_5_409, pZ_5_410, pZ_5_411, ic_4, pZ_5_412, pZ_5_413, pZ_5_414, stp_invokevirtual, qmZ_37, cy_S_sort, pZ_5_417, pZ_5_418, pZ_5_419, pZ_5_420, pZ_5_421, pZ_5_422, pZ_5_423, pZ_5_424, pZ_5_425, pZ_5_426, pZ_5_427, pZ_5_428, pZ_5_429, pZ_5_430, pZ_5_431, pZ_5_432, pZ_5_433, pZ_5_434, pZ_5_435, pZ_5_436, pZ_5_437, pZ_5_438, qmZ_41, cy_M_sort, pZ_5_441, stp_if_icmp_eq, pZ_5_444, ic_0, pZ_5_445, stp_ireturn, wD13, Option.toList_some, v1, c1, v2, c2, v3, c3, v4, c4]
  refine ⟨m', 0, 0, by omega, by omega, by omega, sem.mono fun rr w2 h' => ?_⟩
  obtain ⟨rfl, hI⟩ := h'
  refine wpn_ok (M := mZ) (C := cenZ) (X := (alk [])) (tb := tZ_5) (st := [1264]) eoZ XOk_nil kZ_5 60 _ _ _ _ _ _ ?_
  simp only [reduceCtorEq, fv0, fv1, fv2, fv3, bI_0, bI_1, bft, MSh_sI_eq, fsP_T, inL_0, inL_s, pad_0, pad_n, pad_s, wpn_s, wp1_s, lg_0, lg_s, lset_0, lset_s, kil_0, kil_s, st1_s, st2_s, isL_i, isL_l, isL_r, isL_n, spl_0, spl_s, cll_n, cll_s, catS_0, catS_s, jmp_s, alk_0, alk_s, otl_n, otl_s, List.nil_append, List.cons_append, List.contains_cons, List.contains_nil, Nat.reduceBEq, Bool.or_false, Bool.false_or, Bool.or_self, Bool.false_eq_true, Bool.true_or, Bool.or_true, if_true, if_false, ite_true, ite_false, ↓reduceIte, List.length_cons, List.length_nil, Nat.reduceAdd, Nat.reduceLT, Nat.reduceLeDiff, Nat.reduceEqDiff, Int.reduceAdd, Int.reduceLE, Int.toNat_natCast, Int.reduceToNat, Int.cast_ofNat_Int, true_and, and_true, false_and, and_false, true_implies, forall_const, eq_self, and_self, or_true, true_or, or_self, false_or, or_false, yI_sI, yR_sI, yC_sI, yN_sI, yI_sR, yR_sR, yC_sR, yN_sR, not_true_eq_false, not_false_eq_true, false_implies, implies_true, Nat.zero_add, Nat.add_zero, Nat.le_refl, Nat.reduceSub, Int.reduceSub, Int.reduceLT, Int.sub_zero, Int.sub_self, List.getElem?_toArray, List.getElem?_cons_zero, List.getElem?_cons_succ, Int.toNat_zero, Int.toNat_one, Int.lt_irrefl, pZ_5_393, stp_aload_n, pZ_5_394, pZ_5_395, stp_iload_n, pZ_5_396, stp_iconst, ic_1, pZ_5_397, stp_iadd, pZ_5_398, stp_iaload, pZ_5_399, pZ_5_400, pZ_5_401, ic_2, pZ_5_402, pZ_5_403, pZ_5_404, pZ_5_405, pZ_5_406, ic_3, pZ_5_407, pZ_5_408, pZ_5_409, pZ_5_410, pZ_5_411, ic_4, pZ_5_412, pZ_5_413, pZ_5_414, stp_invokevirtual, qmZ_37, cy_S_sort, pZ_5_417, pZ_5_418, pZ_5_419, pZ_5_420, pZ_5_421, pZ_5_422, pZ_5_423, pZ_5_424, pZ_5_425, pZ_5_426, pZ_5_427, pZ_5_428, pZ_5_429, pZ_5_430, pZ_5_431, pZ_5_432, pZ_5_433, pZ_5_434, pZ_5_435, pZ_5_436, pZ_5_437, pZ_5_438, qmZ_41, cy_M_sort, pZ_5_441, stp_if_icmp_eq, pZ_5_444, ic_0, pZ_5_445, stp_ireturn, Option.toList_some]
  exact ih _ _ _ (by omega) (by omega) hI
end
def tZ_6 : TB := [(446, .aload_n 1, 1), (447, .aload_n 0, 1), (448, .iload_n 3, 1), (449, .iconst 1, 1), (450, .iadd, 1), (451, .iaload, 1), (452, .aload_n 0, 1), (453, .iload_n 3, 1), (454, .iconst 2, 1), (455, .iadd, 1), (456, .iaload, 1), (457, .invokevirtual 42, 3), (460, .aload_n 2, 1), (461, .aload_n 0, 1), (462, .iload_n 3, 1), (463, .iconst 1, 1), (464, .iadd, 1), (465, .iaload, 1), (466, .aload_n 0, 1), (467, .iload_n 3, 1), (468, .iconst 2, 1), (469, .iadd, 1), (470, .iaload, 1), (471, .invokevirtual 45, 3), (474, .if_icmp .eq 790, 3), (477, .iconst 0, 1), (478, .ireturn, 1)]
set_option maxRecDepth 100000 in
theorem kZ_6 : tbOk (mB mZ) tZ_6 = true := by decide +kernel
theorem pZ_6_446 : alk tZ_6 446 = some (.aload_n 1, 1) := (rfl)
theorem pZ_6_447 : alk tZ_6 447 = some (.aload_n 0, 1) := (rfl)
theorem pZ_6_448 : alk tZ_6 448 = some (.iload_n 3, 1) := (rfl)
theorem pZ_6_449 : alk tZ_6 449 = some (.iconst 1, 1) := (rfl)
theorem pZ_6_450 : alk tZ_6 450 = some (.iadd, 1) := (rfl)
theorem pZ_6_451 : alk tZ_6 451 = some (.iaload, 1) := (rfl)
theorem pZ_6_452 : alk tZ_6 452 = some (.aload_n 0, 1) := (rfl)
theorem pZ_6_453 : alk tZ_6 453 = some (.iload_n 3, 1) := (rfl)
theorem pZ_6_454 : alk tZ_6 454 = some (.iconst 2, 1) := (rfl)
theorem pZ_6_455 : alk tZ_6 455 = some (.iadd, 1) := (rfl)
theorem pZ_6_456 : alk tZ_6 456 = some (.iaload, 1) := (rfl)
theorem pZ_6_457 : alk tZ_6 457 = some (.invokevirtual 42, 3) := (rfl)
theorem pZ_6_460 : alk tZ_6 460 = some (.aload_n 2, 1) := (rfl)
theorem pZ_6_461 : alk tZ_6 461 = some (.aload_n 0, 1) := (rfl)
theorem pZ_6_462 : alk tZ_6 462 = some (.iload_n 3, 1) := (rfl)
theorem pZ_6_463 : alk tZ_6 463 = some (.iconst 1, 1) := (rfl)
theorem pZ_6_464 : alk tZ_6 464 = some (.iadd, 1) := (rfl)
theorem pZ_6_465 : alk tZ_6 465 = some (.iaload, 1) := (rfl)
theorem pZ_6_466 : alk tZ_6 466 = some (.aload_n 0, 1) := (rfl)
theorem pZ_6_467 : alk tZ_6 467 = some (.iload_n 3, 1) := (rfl)
theorem pZ_6_468 : alk tZ_6 468 = some (.iconst 2, 1) := (rfl)
theorem pZ_6_469 : alk tZ_6 469 = some (.iadd, 1) := (rfl)
theorem pZ_6_470 : alk tZ_6 470 = some (.iaload, 1) := (rfl)
theorem pZ_6_471 : alk tZ_6 471 = some (.invokevirtual 45, 3) := (rfl)
theorem pZ_6_474 : alk tZ_6 474 = some (.if_icmp .eq 790, 3) := (rfl)
theorem pZ_6_477 : alk tZ_6 477 = some (.iconst 0, 1) := (rfl)
theorem pZ_6_478 : alk tZ_6 478 = some (.ireturn, 1) := (rfl)
section
variable {l : Launch} {G : Gc} {mc ms : Nat} {Q : Option AV → Wd → Prop} {w : Wd}
set_option maxRecDepth 100000 in
set_option maxHeartbeats 4000000 in
theorem lcZ_6 {c i cu su : Nat} (h : Inv c w) (hc : c < 1000) (hi : i + 6 ≤ gL G) (hL : gL G ≤ 3072) (h1 : cu + 8 ≤ mc) (h2 : su + 100 ≤ ms) (ih : ∀ w' cu' su', cu' ≤ cu + 8 → su' ≤ su + 100 → Inv (c + 1) w' → WP l G mZ 40 mc ms Q 1264 [some (.inr (.inr (some (901, 0)))), some (.inr (.inr (some (0, 0)))), some (.inr (.inr (some (13, 0)))), some (.inl (nI i))] [] w' cu' su') : WP l G mZ 40 mc ms Q 446 [some (.inr (.inr (some (901, 0)))), some (.inr (.inr (some (0, 0)))), some (.inr (.inr (some (13, 0)))), some (.inl (nI i))] [] w cu su := by
  have wC0 := ss_C0 (iv_S h)
  have wC13 : wC w 13 = 1 := (iv_M h).1.1
  have v1 : vp_in (nI i + 1) (gL G) := by rw [show nI i + 1 = nI (i + 1) from nI_add i 1]; exact vp_in_nI (by omega) (by omega)
  have c1 : (nI i + 1).toNatClampNeg = i + 1 := by rw [show nI i + 1 = nI (i + 1) from nI_add i 1]; exact nI_clamp (by omega)
  have v2 : vp_in (nI i + 2) (gL G) := by rw [show nI i + 2 = nI (i + 2) from nI_add i 2]; exact vp_in_nI (by omega) (by omega)
  have c2 : (nI i + 2).toNatClampNeg = i + 2 := by rw [show nI i + 2 = nI (i + 2) from nI_add i 2]; exact nI_clamp (by omega)
  obtain ⟨n', hn', call⟩ := ca_look (l := l) (G := G) h (gS G (i + 1)) (gS G (i + 2))
  refine wpn_ok (M := mZ) (C := cenZ) (X := (alk [])) (tb := tZ_6) (st := [1264]) eoZ XOk_nil kZ_6 60 _ _ _ _ _ _ ?_
  simp only [reduceCtorEq, fv0, fv1, fv2, fv3, bI_0, bI_1, bft, MSh_sI_eq, fsP_T, inL_0, inL_s, pad_0, pad_n, pad_s, wpn_s, wp1_s, lg_0, lg_s, lset_0, lset_s, kil_0, kil_s, st1_s, st2_s, isL_i, isL_l, isL_r, isL_n, spl_0, spl_s, cll_n, cll_s, catS_0, catS_s, jmp_s, alk_0, alk_s, otl_n, otl_s, List.nil_append, List.cons_append, List.contains_cons, List.contains_nil, Nat.reduceBEq, Bool.or_false, Bool.false_or, Bool.or_self, Bool.false_eq_true, Bool.true_or, Bool.or_true, if_true, if_false, ite_true, ite_false, ↓reduceIte, List.length_cons, List.length_nil, Nat.reduceAdd, Nat.reduceLT, Nat.reduceLeDiff, Nat.reduceEqDiff, Int.reduceAdd, Int.reduceLE, Int.toNat_natCast, Int.reduceToNat, Int.cast_ofNat_Int, true_and, and_true, false_and, and_false, true_implies, forall_const, eq_self, and_self, or_true, true_or, or_self, false_or, or_false, yI_sI, yR_sI, yC_sI, yN_sI, yI_sR, yR_sR, yC_sR, yN_sR, not_true_eq_false, not_false_eq_true, false_implies, implies_true, Nat.zero_add, Nat.add_zero, Nat.le_refl, Nat.reduceSub, Int.reduceSub, Int.reduceLT, Int.sub_zero, Int.sub_self, List.getElem?_toArray, List.getElem?_cons_zero, List.getElem?_cons_succ, Int.toNat_zero, Int.toNat_one, Int.lt_irrefl, pZ_6_446, stp_aload_n, pZ_6_447, pZ_6_448, stp_iload_n, pZ_6_449, stp_iconst, ic_1, pZ_6_450, stp_iadd, pZ_6_451, stp_iaload, pZ_6_452, pZ_6_453, pZ_6_454, ic_2, pZ_6_455, pZ_6_456, pZ_6_457, stp_invokevirtual, qmZ_42, cy_S_look, pZ_6_460, pZ_6_461, pZ_6_462, pZ_6_463, pZ_6_464, pZ_6_465, pZ_6_466, pZ_6_467, pZ_6_468, pZ_6_469, pZ_6_470, pZ_6_471, qmZ_45, cy_M_look, pZ_6_474, stp_if_icmp_eq, pZ_6_477, ic_0, pZ_6_478, stp_ireturn, wC0, wC13, v1, c1, v2, c2]
  refine ⟨n', 8, 100, by omega, h1, h2, call.up.mono fun rr w1 h' => ?_⟩
  obtain ⟨⟨v, rfl, ty, m', hm', sem⟩, hup⟩ := h'
  obtain ⟨y, rfl⟩ : ∃ y : Int32, v = .inl y := ty
  have wD13 : 0 < wC w1 13 := by have := hup 13; omega
  refine wpn_ok (M := mZ) (C := cenZ) (X := (alk [])) (tb := tZ_6) (st := [1264]) eoZ XOk_nil kZ_6 60 _ _ _ _ _ _ ?_
  simp only [reduceCtorEq, fv0, fv1, fv2, fv3, bI_0, bI_1, bft, MSh_sI_eq, fsP_T, inL_0, inL_s, pad_0, pad_n, pad_s, wpn_s, wp1_s, lg_0, lg_s, lset_0, lset_s, kil_0, kil_s, st1_s, st2_s, isL_i, isL_l, isL_r, isL_n, spl_0, spl_s, cll_n, cll_s, catS_0, catS_s, jmp_s, alk_0, alk_s, otl_n, otl_s, List.nil_append, List.cons_append, List.contains_cons, List.contains_nil, Nat.reduceBEq, Bool.or_false, Bool.false_or, Bool.or_self, Bool.false_eq_true, Bool.true_or, Bool.or_true, if_true, if_false, ite_true, ite_false, ↓reduceIte, List.length_cons, List.length_nil, Nat.reduceAdd, Nat.reduceLT, Nat.reduceLeDiff, Nat.reduceEqDiff, Int.reduceAdd, Int.reduceLE, Int.toNat_natCast, Int.reduceToNat, Int.cast_ofNat_Int, true_and, and_true, false_and, and_false, true_implies, forall_const, eq_self, and_self, or_true, true_or, or_self, false_or, or_false, yI_sI, yR_sI, yC_sI, yN_sI, yI_sR, yR_sR, yC_sR, yN_sR, not_true_eq_false, not_false_eq_true, false_implies, implies_true, Nat.zero_add, Nat.add_zero, Nat.le_refl, Nat.reduceSub, Int.reduceSub, Int.reduceLT, Int.sub_zero, Int.sub_self, List.getElem?_toArray, List.getElem?_cons_zero, List.getElem?_cons_succ, Int.toNat_zero, Int.toNat_one, Int.lt_irrefl, pZ_6_446, stp_aload_n, pZ_6_447, pZ_6_448, stp_iload_n, pZ_6_449, stp_iconst, ic_1, pZ_6_450, stp_iadd, pZ_6_451, stp_iaload, pZ_6_452, pZ_6_453, pZ_6_454, ic_2, pZ_6_455, pZ_6_456, pZ_6_457, stp_invokevirtual, qmZ_42, cy_S_look, pZ_6_460, pZ_6_461, pZ_6_462, pZ_6_463, pZ_6_464, pZ_6_465, pZ_6_466, pZ_6_467, pZ_6_468, pZ_6_469, pZ_6_470, pZ_6_471, qmZ_45, cy_M_look, pZ_6_474, stp_if_icmp_eq, pZ_6_477, ic_0, pZ_6_478, stp_ireturn, wD13, Option.toList_some, v1, c1, v2, c2]
  refine ⟨m', 0, 0, by omega, by omega, by omega, sem.mono fun rr w2 h' => ?_⟩
  obtain ⟨rfl, hI⟩ := h'
  refine wpn_ok (M := mZ) (C := cenZ) (X := (alk [])) (tb := tZ_6) (st := [1264]) eoZ XOk_nil kZ_6 60 _ _ _ _ _ _ ?_
  simp only [reduceCtorEq, fv0, fv1, fv2, fv3, bI_0, bI_1, bft, MSh_sI_eq, fsP_T, inL_0, inL_s, pad_0, pad_n, pad_s, wpn_s, wp1_s, lg_0, lg_s, lset_0, lset_s, kil_0, kil_s, st1_s, st2_s, isL_i, isL_l, isL_r, isL_n, spl_0, spl_s, cll_n, cll_s, catS_0, catS_s, jmp_s, alk_0, alk_s, otl_n, otl_s, List.nil_append, List.cons_append, List.contains_cons, List.contains_nil, Nat.reduceBEq, Bool.or_false, Bool.false_or, Bool.or_self, Bool.false_eq_true, Bool.true_or, Bool.or_true, if_true, if_false, ite_true, ite_false, ↓reduceIte, List.length_cons, List.length_nil, Nat.reduceAdd, Nat.reduceLT, Nat.reduceLeDiff, Nat.reduceEqDiff, Int.reduceAdd, Int.reduceLE, Int.toNat_natCast, Int.reduceToNat, Int.cast_ofNat_Int, true_and, and_true, false_and, and_false, true_implies, forall_const, eq_self, and_self, or_true, true_or, or_self, false_or, or_false, yI_sI, yR_sI, yC_sI, yN_sI, yI_sR, yR_sR, yC_sR, yN_sR, not_true_eq_false, not_false_eq_true, false_implies, implies_true, Nat.zero_add, Nat.add_zero, Nat.le_refl, Nat.reduceSub, Int.reduceSub, Int.reduceLT, Int.sub_zero, Int.sub_self, List.getElem?_toArray, List.getElem?_cons_zero, List.getElem?_cons_succ, Int.toNat_zero, Int.toNat_one, Int.lt_irrefl, pZ_6_446, stp_aload_n, pZ_6_447, pZ_6_448, stp_iload_n, pZ_6_449, stp_iconst, ic_1, pZ_6_450, stp_iadd, pZ_6_451, stp_iaload, pZ_6_452, pZ_6_453, pZ_6_454, ic_2, pZ_6_455, pZ_6_456, pZ_6_457, stp_invokevirtual, qmZ_42, cy_S_look, pZ_6_460, pZ_6_461, pZ_6_462, pZ_6_463, pZ_6_464, pZ_6_465, pZ_6_466, pZ_6_467, pZ_6_468, pZ_6_469, pZ_6_470, pZ_6_471, qmZ_45, cy_M_look, pZ_6_474, stp_if_icmp_eq, pZ_6_477, ic_0, pZ_6_478, stp_ireturn, Option.toList_some]
  exact ih _ _ _ (by omega) (by omega) hI
end
def tZ_7 : TB := [(479, .aload_n 1, 1), (480, .aload_n 0, 1), (481, .iload_n 3, 1), (482, .iconst 1, 1), (483, .iadd, 1), (484, .iaload, 1), (485, .aload_n 0, 1), (486, .iload_n 3, 1), (487, .iconst 2, 1), (488, .iadd, 1), (489, .iaload, 1), (490, .invokevirtual 46, 3), (493, .aload_n 2, 1), (494, .aload_n 0, 1), (495, .iload_n 3, 1), (496, .iconst 1, 1), (497, .iadd, 1), (498, .iaload, 1), (499, .aload_n 0, 1), (500, .iload_n 3, 1), (501, .iconst 2, 1), (502, .iadd, 1), (503, .iaload, 1), (504, .invokevirtual 49, 3), (507, .if_icmp .eq 757, 3), (510, .iconst 0, 1), (511, .ireturn, 1)]
set_option maxRecDepth 100000 in
theorem kZ_7 : tbOk (mB mZ) tZ_7 = true := by decide +kernel
theorem pZ_7_479 : alk tZ_7 479 = some (.aload_n 1, 1) := (rfl)
theorem pZ_7_480 : alk tZ_7 480 = some (.aload_n 0, 1) := (rfl)
theorem pZ_7_481 : alk tZ_7 481 = some (.iload_n 3, 1) := (rfl)
theorem pZ_7_482 : alk tZ_7 482 = some (.iconst 1, 1) := (rfl)
theorem pZ_7_483 : alk tZ_7 483 = some (.iadd, 1) := (rfl)
theorem pZ_7_484 : alk tZ_7 484 = some (.iaload, 1) := (rfl)
theorem pZ_7_485 : alk tZ_7 485 = some (.aload_n 0, 1) := (rfl)
theorem pZ_7_486 : alk tZ_7 486 = some (.iload_n 3, 1) := (rfl)
theorem pZ_7_487 : alk tZ_7 487 = some (.iconst 2, 1) := (rfl)
theorem pZ_7_488 : alk tZ_7 488 = some (.iadd, 1) := (rfl)
theorem pZ_7_489 : alk tZ_7 489 = some (.iaload, 1) := (rfl)
theorem pZ_7_490 : alk tZ_7 490 = some (.invokevirtual 46, 3) := (rfl)
theorem pZ_7_493 : alk tZ_7 493 = some (.aload_n 2, 1) := (rfl)
theorem pZ_7_494 : alk tZ_7 494 = some (.aload_n 0, 1) := (rfl)
theorem pZ_7_495 : alk tZ_7 495 = some (.iload_n 3, 1) := (rfl)
theorem pZ_7_496 : alk tZ_7 496 = some (.iconst 1, 1) := (rfl)
theorem pZ_7_497 : alk tZ_7 497 = some (.iadd, 1) := (rfl)
theorem pZ_7_498 : alk tZ_7 498 = some (.iaload, 1) := (rfl)
theorem pZ_7_499 : alk tZ_7 499 = some (.aload_n 0, 1) := (rfl)
theorem pZ_7_500 : alk tZ_7 500 = some (.iload_n 3, 1) := (rfl)
theorem pZ_7_501 : alk tZ_7 501 = some (.iconst 2, 1) := (rfl)
theorem pZ_7_502 : alk tZ_7 502 = some (.iadd, 1) := (rfl)
theorem pZ_7_503 : alk tZ_7 503 = some (.iaload, 1) := (rfl)
theorem pZ_7_504 : alk tZ_7 504 = some (.invokevirtual 49, 3) := (rfl)
theorem pZ_7_507 : alk tZ_7 507 = some (.if_icmp .eq 757, 3) := (rfl)
theorem pZ_7_510 : alk tZ_7 510 = some (.iconst 0, 1) := (rfl)
theorem pZ_7_511 : alk tZ_7 511 = some (.ireturn, 1) := (rfl)
section
variable {l : Launch} {G : Gc} {mc ms : Nat} {Q : Option AV → Wd → Prop} {w : Wd}
set_option maxRecDepth 100000 in
set_option maxHeartbeats 4000000 in
theorem lcZ_7 {c i cu su : Nat} (h : Inv c w) (hc : c < 1000) (hi : i + 6 ≤ gL G) (hL : gL G ≤ 3072) (h1 : cu + 8 ≤ mc) (h2 : su + 100 ≤ ms) (ih : ∀ w' cu' su', cu' ≤ cu + 8 → su' ≤ su + 100 → Inv (c + 1) w' → WP l G mZ 40 mc ms Q 1264 [some (.inr (.inr (some (901, 0)))), some (.inr (.inr (some (0, 0)))), some (.inr (.inr (some (13, 0)))), some (.inl (nI i))] [] w' cu' su') : WP l G mZ 40 mc ms Q 479 [some (.inr (.inr (some (901, 0)))), some (.inr (.inr (some (0, 0)))), some (.inr (.inr (some (13, 0)))), some (.inl (nI i))] [] w cu su := by
  have wC0 := ss_C0 (iv_S h)
  have wC13 : wC w 13 = 1 := (iv_M h).1.1
  have v1 : vp_in (nI i + 1) (gL G) := by rw [show nI i + 1 = nI (i + 1) from nI_add i 1]; exact vp_in_nI (by omega) (by omega)
  have c1 : (nI i + 1).toNatClampNeg = i + 1 := by rw [show nI i + 1 = nI (i + 1) from nI_add i 1]; exact nI_clamp (by omega)
  have v2 : vp_in (nI i + 2) (gL G) := by rw [show nI i + 2 = nI (i + 2) from nI_add i 2]; exact vp_in_nI (by omega) (by omega)
  have c2 : (nI i + 2).toNatClampNeg = i + 2 := by rw [show nI i + 2 = nI (i + 2) from nI_add i 2]; exact nI_clamp (by omega)
  obtain ⟨n', hn', call⟩ := ca_drive (l := l) (G := G) h hc (gS G (i + 1)) (gS G (i + 2))
  refine wpn_ok (M := mZ) (C := cenZ) (X := (alk [])) (tb := tZ_7) (st := [1264]) eoZ XOk_nil kZ_7 60 _ _ _ _ _ _ ?_
  simp only [reduceCtorEq, fv0, fv1, fv2, fv3, bI_0, bI_1, bft, MSh_sI_eq, fsP_T, inL_0, inL_s, pad_0, pad_n, pad_s, wpn_s, wp1_s, lg_0, lg_s, lset_0, lset_s, kil_0, kil_s, st1_s, st2_s, isL_i, isL_l, isL_r, isL_n, spl_0, spl_s, cll_n, cll_s, catS_0, catS_s, jmp_s, alk_0, alk_s, otl_n, otl_s, List.nil_append, List.cons_append, List.contains_cons, List.contains_nil, Nat.reduceBEq, Bool.or_false, Bool.false_or, Bool.or_self, Bool.false_eq_true, Bool.true_or, Bool.or_true, if_true, if_false, ite_true, ite_false, ↓reduceIte, List.length_cons, List.length_nil, Nat.reduceAdd, Nat.reduceLT, Nat.reduceLeDiff, Nat.reduceEqDiff, Int.reduceAdd, Int.reduceLE, Int.toNat_natCast, Int.reduceToNat, Int.cast_ofNat_Int, true_and, and_true, false_and, and_false, true_implies, forall_const, eq_self, and_self, or_true, true_or, or_self, false_or, or_false, yI_sI, yR_sI, yC_sI, yN_sI, yI_sR, yR_sR, yC_sR, yN_sR, not_true_eq_false, not_false_eq_true, false_implies, implies_true, Nat.zero_add, Nat.add_zero, Nat.le_refl, Nat.reduceSub, Int.reduceSub, Int.reduceLT, Int.sub_zero, Int.sub_self, List.getElem?_toArray, List.getElem?_cons_zero, List.getElem?_cons_succ, Int.toNat_zero, Int.toNat_one, Int.lt_irrefl, pZ_7_479, stp_aload_n, pZ_7_480, pZ_7_481, stp_iload_n, pZ_7_482, stp_iconst, ic_1, pZ_7_483, stp_iadd, pZ_7_484, stp_iaload, pZ_7_485, pZ_7_486, pZ_7_487, ic_2, pZ_7_488, pZ_7_489, pZ_7_490, stp_invokevirtual, qmZ_46, cy_S_drive, pZ_7_493, pZ_7_494, pZ_7_495, pZ_7_496, pZ_7_497, pZ_7_498, pZ_7_499, pZ_7_500, pZ_7_501, pZ_7_502, pZ_7_503, pZ_7_504, qmZ_49, cy_M_drive, pZ_7_507, stp_if_icmp_eq, pZ_7_510, ic_0, pZ_7_511, stp_ireturn, wC0, wC13, v1, c1, v2, c2]
  refine ⟨n', 8, 100, by omega, h1, h2, call.up.mono fun rr w1 h' => ?_⟩
  obtain ⟨⟨v, rfl, ty, m', hm', sem⟩, hup⟩ := h'
  obtain ⟨y, rfl⟩ : ∃ y : Int32, v = .inl y := ty
  have wD13 : 0 < wC w1 13 := by have := hup 13; omega
  refine wpn_ok (M := mZ) (C := cenZ) (X := (alk [])) (tb := tZ_7) (st := [1264]) eoZ XOk_nil kZ_7 60 _ _ _ _ _ _ ?_
  simp only [reduceCtorEq, fv0, fv1, fv2, fv3, bI_0, bI_1, bft, MSh_sI_eq, fsP_T, inL_0, inL_s, pad_0, pad_n, pad_s, wpn_s, wp1_s, lg_0, lg_s, lset_0, lset_s, kil_0, kil_s, st1_s, st2_s, isL_i, isL_l, isL_r, isL_n, spl_0, spl_s, cll_n, cll_s, catS_0, catS_s, jmp_s, alk_0, alk_s, otl_n, otl_s, List.nil_append, List.cons_append, List.contains_cons, List.contains_nil, Nat.reduceBEq, Bool.or_false, Bool.false_or, Bool.or_self, Bool.false_eq_true, Bool.true_or, Bool.or_true, if_true, if_false, ite_true, ite_false, ↓reduceIte, List.length_cons, List.length_nil, Nat.reduceAdd, Nat.reduceLT, Nat.reduceLeDiff, Nat.reduceEqDiff, Int.reduceAdd, Int.reduceLE, Int.toNat_natCast, Int.reduceToNat, Int.cast_ofNat_Int, true_and, and_true, false_and, and_false, true_implies, forall_const, eq_self, and_self, or_true, true_or, or_self, false_or, or_false, yI_sI, yR_sI, yC_sI, yN_sI, yI_sR, yR_sR, yC_sR, yN_sR, not_true_eq_false, not_false_eq_true, false_implies, implies_true, Nat.zero_add, Nat.add_zero, Nat.le_refl, Nat.reduceSub, Int.reduceSub, Int.reduceLT, Int.sub_zero, Int.sub_self, List.getElem?_toArray, List.getElem?_cons_zero, List.getElem?_cons_succ, Int.toNat_zero, Int.toNat_one, Int.lt_irrefl, pZ_7_479, stp_aload_n, pZ_7_480, pZ_7_481, stp_iload_n, pZ_7_482, stp_iconst, ic_1, pZ_7_483, stp_iadd, pZ_7_484, stp_iaload, pZ_7_485, pZ_7_486, pZ_7_487, ic_2, pZ_7_488, pZ_7_489, pZ_7_490, stp_invokevirtual, qmZ_46, cy_S_drive, pZ_7_493, pZ_7_494, pZ_7_495, pZ_7_496, pZ_7_497, pZ_7_498, pZ_7_499, pZ_7_500, pZ_7_501, pZ_7_502, pZ_7_503, pZ_7_504, qmZ_49, cy_M_drive, pZ_7_507, stp_if_icmp_eq, pZ_7_510, ic_0, pZ_7_511, stp_ireturn, wD13, Option.toList_some, v1, c1, v2, c2]
  refine ⟨m', 0, 0, by omega, by omega, by omega, sem.mono fun rr w2 h' => ?_⟩
  obtain ⟨rfl, hI⟩ := h'
  refine wpn_ok (M := mZ) (C := cenZ) (X := (alk [])) (tb := tZ_7) (st := [1264]) eoZ XOk_nil kZ_7 60 _ _ _ _ _ _ ?_
  simp only [reduceCtorEq, fv0, fv1, fv2, fv3, bI_0, bI_1, bft, MSh_sI_eq, fsP_T, inL_0, inL_s, pad_0, pad_n, pad_s, wpn_s, wp1_s, lg_0, lg_s, lset_0, lset_s, kil_0, kil_s, st1_s, st2_s, isL_i, isL_l, isL_r, isL_n, spl_0, spl_s, cll_n, cll_s, catS_0, catS_s, jmp_s, alk_0, alk_s, otl_n, otl_s, List.nil_append, List.cons_append, List.contains_cons, List.contains_nil, Nat.reduceBEq, Bool.or_false, Bool.false_or, Bool.or_self, Bool.false_eq_true, Bool.true_or, Bool.or_true, if_true, if_false, ite_true, ite_false, ↓reduceIte, List.length_cons, List.length_nil, Nat.reduceAdd, Nat.reduceLT, Nat.reduceLeDiff, Nat.reduceEqDiff, Int.reduceAdd, Int.reduceLE, Int.toNat_natCast, Int.reduceToNat, Int.cast_ofNat_Int, true_and, and_true, false_and, and_false, true_implies, forall_const, eq_self, and_self, or_true, true_or, or_self, false_or, or_false, yI_sI, yR_sI, yC_sI, yN_sI, yI_sR, yR_sR, yC_sR, yN_sR, not_true_eq_false, not_false_eq_true, false_implies, implies_true, Nat.zero_add, Nat.add_zero, Nat.le_refl, Nat.reduceSub, Int.reduceSub, Int.reduceLT, Int.sub_zero, Int.sub_self, List.getElem?_toArray, List.getElem?_cons_zero, List.getElem?_cons_succ, Int.toNat_zero, Int.toNat_one, Int.lt_irrefl, pZ_7_479, stp_aload_n, pZ_7_480, pZ_7_481, stp_iload_n, pZ_7_482, stp_iconst, ic_1, pZ_7_483, stp_iadd, pZ_7_484, stp_iaload, pZ_7_485, pZ_7_486, pZ_7_487, ic_2, pZ_7_488, pZ_7_489, pZ_7_490, stp_invokevirtual, qmZ_46, cy_S_drive, pZ_7_493, pZ_7_494, pZ_7_495, pZ_7_496, pZ_7_497, pZ_7_498, pZ_7_499, pZ_7_500, pZ_7_501, pZ_7_502, pZ_7_503, pZ_7_504, qmZ_49, cy_M_drive, pZ_7_507, stp_if_icmp_eq, pZ_7_510, ic_0, pZ_7_511, stp_ireturn, Option.toList_some]
  exact ih _ _ _ (by omega) (by omega) hI
end
def tZ_8 : TB := [(512, .aload_n 1, 1), (513, .aload_n 0, 1), (514, .iload_n 3, 1), (515, .iconst 1, 1), (516, .iadd, 1), (517, .iaload, 1), (518, .invokevirtual 50, 3), (521, .aload_n 2, 1), (522, .aload_n 0, 1), (523, .iload_n 3, 1), (524, .iconst 1, 1), (525, .iadd, 1), (526, .iaload, 1), (527, .invokevirtual 53, 3), (530, .if_icmp .eq 734, 3), (533, .iconst 0, 1), (534, .ireturn, 1)]
set_option maxRecDepth 100000 in
theorem kZ_8 : tbOk (mB mZ) tZ_8 = true := by decide +kernel
theorem pZ_8_512 : alk tZ_8 512 = some (.aload_n 1, 1) := (rfl)
theorem pZ_8_513 : alk tZ_8 513 = some (.aload_n 0, 1) := (rfl)
theorem pZ_8_514 : alk tZ_8 514 = some (.iload_n 3, 1) := (rfl)
theorem pZ_8_515 : alk tZ_8 515 = some (.iconst 1, 1) := (rfl)
theorem pZ_8_516 : alk tZ_8 516 = some (.iadd, 1) := (rfl)
theorem pZ_8_517 : alk tZ_8 517 = some (.iaload, 1) := (rfl)
theorem pZ_8_518 : alk tZ_8 518 = some (.invokevirtual 50, 3) := (rfl)
theorem pZ_8_521 : alk tZ_8 521 = some (.aload_n 2, 1) := (rfl)
theorem pZ_8_522 : alk tZ_8 522 = some (.aload_n 0, 1) := (rfl)
theorem pZ_8_523 : alk tZ_8 523 = some (.iload_n 3, 1) := (rfl)
theorem pZ_8_524 : alk tZ_8 524 = some (.iconst 1, 1) := (rfl)
theorem pZ_8_525 : alk tZ_8 525 = some (.iadd, 1) := (rfl)
theorem pZ_8_526 : alk tZ_8 526 = some (.iaload, 1) := (rfl)
theorem pZ_8_527 : alk tZ_8 527 = some (.invokevirtual 53, 3) := (rfl)
theorem pZ_8_530 : alk tZ_8 530 = some (.if_icmp .eq 734, 3) := (rfl)
theorem pZ_8_533 : alk tZ_8 533 = some (.iconst 0, 1) := (rfl)
theorem pZ_8_534 : alk tZ_8 534 = some (.ireturn, 1) := (rfl)
section
variable {l : Launch} {G : Gc} {mc ms : Nat} {Q : Option AV → Wd → Prop} {w : Wd}
set_option maxRecDepth 100000 in
set_option maxHeartbeats 4000000 in
theorem lcZ_8 {c i cu su : Nat} (h : Inv c w) (hc : c < 1000) (hi : i + 6 ≤ gL G) (hL : gL G ≤ 3072) (h1 : cu + 8 ≤ mc) (h2 : su + 100 ≤ ms) (ih : ∀ w' cu' su', cu' ≤ cu + 8 → su' ≤ su + 100 → Inv (c + 1) w' → WP l G mZ 40 mc ms Q 1264 [some (.inr (.inr (some (901, 0)))), some (.inr (.inr (some (0, 0)))), some (.inr (.inr (some (13, 0)))), some (.inl (nI i))] [] w' cu' su') : WP l G mZ 40 mc ms Q 512 [some (.inr (.inr (some (901, 0)))), some (.inr (.inr (some (0, 0)))), some (.inr (.inr (some (13, 0)))), some (.inl (nI i))] [] w cu su := by
  have wC0 := ss_C0 (iv_S h)
  have wC13 : wC w 13 = 1 := (iv_M h).1.1
  have v1 : vp_in (nI i + 1) (gL G) := by rw [show nI i + 1 = nI (i + 1) from nI_add i 1]; exact vp_in_nI (by omega) (by omega)
  have c1 : (nI i + 1).toNatClampNeg = i + 1 := by rw [show nI i + 1 = nI (i + 1) from nI_add i 1]; exact nI_clamp (by omega)
  obtain ⟨n', hn', call⟩ := ca_water (l := l) (G := G) h hc (gS G (i + 1))
  refine wpn_ok (M := mZ) (C := cenZ) (X := (alk [])) (tb := tZ_8) (st := [1264]) eoZ XOk_nil kZ_8 60 _ _ _ _ _ _ ?_
  simp only [reduceCtorEq, fv0, fv1, fv2, fv3, bI_0, bI_1, bft, MSh_sI_eq, fsP_T, inL_0, inL_s, pad_0, pad_n, pad_s, wpn_s, wp1_s, lg_0, lg_s, lset_0, lset_s, kil_0, kil_s, st1_s, st2_s, isL_i, isL_l, isL_r, isL_n, spl_0, spl_s, cll_n, cll_s, catS_0, catS_s, jmp_s, alk_0, alk_s, otl_n, otl_s, List.nil_append, List.cons_append, List.contains_cons, List.contains_nil, Nat.reduceBEq, Bool.or_false, Bool.false_or, Bool.or_self, Bool.false_eq_true, Bool.true_or, Bool.or_true, if_true, if_false, ite_true, ite_false, ↓reduceIte, List.length_cons, List.length_nil, Nat.reduceAdd, Nat.reduceLT, Nat.reduceLeDiff, Nat.reduceEqDiff, Int.reduceAdd, Int.reduceLE, Int.toNat_natCast, Int.reduceToNat, Int.cast_ofNat_Int, true_and, and_true, false_and, and_false, true_implies, forall_const, eq_self, and_self, or_true, true_or, or_self, false_or, or_false, yI_sI, yR_sI, yC_sI, yN_sI, yI_sR, yR_sR, yC_sR, yN_sR, not_true_eq_false, not_false_eq_true, false_implies, implies_true, Nat.zero_add, Nat.add_zero, Nat.le_refl, Nat.reduceSub, Int.reduceSub, Int.reduceLT, Int.sub_zero, Int.sub_self, List.getElem?_toArray, List.getElem?_cons_zero, List.getElem?_cons_succ, Int.toNat_zero, Int.toNat_one, Int.lt_irrefl, pZ_8_512, stp_aload_n, pZ_8_513, pZ_8_514, stp_iload_n, pZ_8_515, stp_iconst, ic_1, pZ_8_516, stp_iadd, pZ_8_517, stp_iaload, pZ_8_518, stp_invokevirtual, qmZ_50, cy_S_water, pZ_8_521, pZ_8_522, pZ_8_523, pZ_8_524, pZ_8_525, pZ_8_526, pZ_8_527, qmZ_53, cy_M_water, pZ_8_530, stp_if_icmp_eq, pZ_8_533, ic_0, pZ_8_534, stp_ireturn, wC0, wC13, v1, c1]
  refine ⟨n', 8, 100, by omega, h1, h2, call.up.mono fun rr w1 h' => ?_⟩
  obtain ⟨⟨v, rfl, ty, m', hm', sem⟩, hup⟩ := h'
  obtain ⟨y, rfl⟩ : ∃ y : Int32, v = .inl y := ty
  have wD13 : 0 < wC w1 13 := by have := hup 13; omega
  refine wpn_ok (M := mZ) (C := cenZ) (X := (alk [])) (tb := tZ_8) (st := [1264]) eoZ XOk_nil kZ_8 60 _ _ _ _ _ _ ?_
  simp only [reduceCtorEq, fv0, fv1, fv2, fv3, bI_0, bI_1, bft, MSh_sI_eq, fsP_T, inL_0, inL_s, pad_0, pad_n, pad_s, wpn_s, wp1_s, lg_0, lg_s, lset_0, lset_s, kil_0, kil_s, st1_s, st2_s, isL_i, isL_l, isL_r, isL_n, spl_0, spl_s, cll_n, cll_s, catS_0, catS_s, jmp_s, alk_0, alk_s, otl_n, otl_s, List.nil_append, List.cons_append, List.contains_cons, List.contains_nil, Nat.reduceBEq, Bool.or_false, Bool.false_or, Bool.or_self, Bool.false_eq_true, Bool.true_or, Bool.or_true, if_true, if_false, ite_true, ite_false, ↓reduceIte, List.length_cons, List.length_nil, Nat.reduceAdd, Nat.reduceLT, Nat.reduceLeDiff, Nat.reduceEqDiff, Int.reduceAdd, Int.reduceLE, Int.toNat_natCast, Int.reduceToNat, Int.cast_ofNat_Int, true_and, and_true, false_and, and_false, true_implies, forall_const, eq_self, and_self, or_true, true_or, or_self, false_or, or_false, yI_sI, yR_sI, yC_sI, yN_sI, yI_sR, yR_sR, yC_sR, yN_sR, not_true_eq_false, not_false_eq_true, false_implies, implies_true, Nat.zero_add, Nat.add_zero, Nat.le_refl, Nat.reduceSub, Int.reduceSub, Int.reduceLT, Int.sub_zero, Int.sub_self, List.getElem?_toArray, List.getElem?_cons_zero, List.getElem?_cons_succ, Int.toNat_zero, Int.toNat_one, Int.lt_irrefl, pZ_8_512, stp_aload_n, pZ_8_513, pZ_8_514, stp_iload_n, pZ_8_515, stp_iconst, ic_1, pZ_8_516, stp_iadd, pZ_8_517, stp_iaload, pZ_8_518, stp_invokevirtual, qmZ_50, cy_S_water, pZ_8_521, pZ_8_522, pZ_8_523, pZ_8_524, pZ_8_525, pZ_8_526, pZ_8_527, qmZ_53, cy_M_water, pZ_8_530, stp_if_icmp_eq, pZ_8_533, ic_0, pZ_8_534, stp_ireturn, wD13, Option.toList_some, v1, c1]
  refine ⟨m', 0, 0, by omega, by omega, by omega, sem.mono fun rr w2 h' => ?_⟩
  obtain ⟨rfl, hI⟩ := h'
  refine wpn_ok (M := mZ) (C := cenZ) (X := (alk [])) (tb := tZ_8) (st := [1264]) eoZ XOk_nil kZ_8 60 _ _ _ _ _ _ ?_
  simp only [reduceCtorEq, fv0, fv1, fv2, fv3, bI_0, bI_1, bft, MSh_sI_eq, fsP_T, inL_0, inL_s, pad_0, pad_n, pad_s, wpn_s, wp1_s, lg_0, lg_s, lset_0, lset_s, kil_0, kil_s, st1_s, st2_s, isL_i, isL_l, isL_r, isL_n, spl_0, spl_s, cll_n, cll_s, catS_0, catS_s, jmp_s, alk_0, alk_s, otl_n, otl_s, List.nil_append, List.cons_append, List.contains_cons, List.contains_nil, Nat.reduceBEq, Bool.or_false, Bool.false_or, Bool.or_self, Bool.false_eq_true, Bool.true_or, Bool.or_true, if_true, if_false, ite_true, ite_false, ↓reduceIte, List.length_cons, List.length_nil, Nat.reduceAdd, Nat.reduceLT, Nat.reduceLeDiff, Nat.reduceEqDiff, Int.reduceAdd, Int.reduceLE, Int.toNat_natCast, Int.reduceToNat, Int.cast_ofNat_Int, true_and, and_true, false_and, and_false, true_implies, forall_const, eq_self, and_self, or_true, true_or, or_self, false_or, or_false, yI_sI, yR_sI, yC_sI, yN_sI, yI_sR, yR_sR, yC_sR, yN_sR, not_true_eq_false, not_false_eq_true, false_implies, implies_true, Nat.zero_add, Nat.add_zero, Nat.le_refl, Nat.reduceSub, Int.reduceSub, Int.reduceLT, Int.sub_zero, Int.sub_self, List.getElem?_toArray, List.getElem?_cons_zero, List.getElem?_cons_succ, Int.toNat_zero, Int.toNat_one, Int.lt_irrefl, pZ_8_512, stp_aload_n, pZ_8_513, pZ_8_514, stp_iload_n, pZ_8_515, stp_iconst, ic_1, pZ_8_516, stp_iadd, pZ_8_517, stp_iaload, pZ_8_518, stp_invokevirtual, qmZ_50, cy_S_water, pZ_8_521, pZ_8_522, pZ_8_523, pZ_8_524, pZ_8_525, pZ_8_526, pZ_8_527, qmZ_53, cy_M_water, pZ_8_530, stp_if_icmp_eq, pZ_8_533, ic_0, pZ_8_534, stp_ireturn, Option.toList_some]
  exact ih _ _ _ (by omega) (by omega) hI
end
def tZ_9 : TB := [(535, .aload_n 1, 1), (536, .aload_n 0, 1), (537, .iload_n 3, 1), (538, .iconst 1, 1), (539, .iadd, 1), (540, .iaload, 1), (541, .aload_n 0, 1), (542, .iload_n 3, 1), (543, .iconst 2, 1), (544, .iadd, 1), (545, .iaload, 1), (546, .invokevirtual 54, 3), (549, .aload_n 2, 1), (550, .aload_n 0, 1), (551, .iload_n 3, 1), (552, .iconst 1, 1), (553, .iadd, 1), (554, .iaload, 1), (555, .aload_n 0, 1), (556, .iload_n 3, 1), (557, .iconst 2, 1), (558, .iadd, 1), (559, .iaload, 1), (560, .invokevirtual 57, 3), (563, .if_icmp .eq 701, 3), (566, .iconst 0, 1), (567, .ireturn, 1)]
set_option maxRecDepth 100000 in
theorem kZ_9 : tbOk (mB mZ) tZ_9 = true := by decide +kernel
theorem pZ_9_535 : alk tZ_9 535 = some (.aload_n 1, 1) := (rfl)
theorem pZ_9_536 : alk tZ_9 536 = some (.aload_n 0, 1) := (rfl)
theorem pZ_9_537 : alk tZ_9 537 = some (.iload_n 3, 1) := (rfl)
theorem pZ_9_538 : alk tZ_9 538 = some (.iconst 1, 1) := (rfl)
theorem pZ_9_539 : alk tZ_9 539 = some (.iadd, 1) := (rfl)
theorem pZ_9_540 : alk tZ_9 540 = some (.iaload, 1) := (rfl)
theorem pZ_9_541 : alk tZ_9 541 = some (.aload_n 0, 1) := (rfl)
theorem pZ_9_542 : alk tZ_9 542 = some (.iload_n 3, 1) := (rfl)
theorem pZ_9_543 : alk tZ_9 543 = some (.iconst 2, 1) := (rfl)
theorem pZ_9_544 : alk tZ_9 544 = some (.iadd, 1) := (rfl)
theorem pZ_9_545 : alk tZ_9 545 = some (.iaload, 1) := (rfl)
theorem pZ_9_546 : alk tZ_9 546 = some (.invokevirtual 54, 3) := (rfl)
theorem pZ_9_549 : alk tZ_9 549 = some (.aload_n 2, 1) := (rfl)
theorem pZ_9_550 : alk tZ_9 550 = some (.aload_n 0, 1) := (rfl)
theorem pZ_9_551 : alk tZ_9 551 = some (.iload_n 3, 1) := (rfl)
theorem pZ_9_552 : alk tZ_9 552 = some (.iconst 1, 1) := (rfl)
theorem pZ_9_553 : alk tZ_9 553 = some (.iadd, 1) := (rfl)
theorem pZ_9_554 : alk tZ_9 554 = some (.iaload, 1) := (rfl)
theorem pZ_9_555 : alk tZ_9 555 = some (.aload_n 0, 1) := (rfl)
theorem pZ_9_556 : alk tZ_9 556 = some (.iload_n 3, 1) := (rfl)
theorem pZ_9_557 : alk tZ_9 557 = some (.iconst 2, 1) := (rfl)
theorem pZ_9_558 : alk tZ_9 558 = some (.iadd, 1) := (rfl)
theorem pZ_9_559 : alk tZ_9 559 = some (.iaload, 1) := (rfl)
theorem pZ_9_560 : alk tZ_9 560 = some (.invokevirtual 57, 3) := (rfl)
theorem pZ_9_563 : alk tZ_9 563 = some (.if_icmp .eq 701, 3) := (rfl)
theorem pZ_9_566 : alk tZ_9 566 = some (.iconst 0, 1) := (rfl)
theorem pZ_9_567 : alk tZ_9 567 = some (.ireturn, 1) := (rfl)
section
variable {l : Launch} {G : Gc} {mc ms : Nat} {Q : Option AV → Wd → Prop} {w : Wd}
set_option maxRecDepth 100000 in
set_option maxHeartbeats 4000000 in
theorem lcZ_9 {c i cu su : Nat} (h : Inv c w) (hc : c < 1000) (hi : i + 6 ≤ gL G) (hL : gL G ≤ 3072) (h1 : cu + 8 ≤ mc) (h2 : su + 100 ≤ ms) (ih : ∀ w' cu' su', cu' ≤ cu + 8 → su' ≤ su + 100 → Inv (c + 1) w' → WP l G mZ 40 mc ms Q 1264 [some (.inr (.inr (some (901, 0)))), some (.inr (.inr (some (0, 0)))), some (.inr (.inr (some (13, 0)))), some (.inl (nI i))] [] w' cu' su') : WP l G mZ 40 mc ms Q 535 [some (.inr (.inr (some (901, 0)))), some (.inr (.inr (some (0, 0)))), some (.inr (.inr (some (13, 0)))), some (.inl (nI i))] [] w cu su := by
  have wC0 := ss_C0 (iv_S h)
  have wC13 : wC w 13 = 1 := (iv_M h).1.1
  have v1 : vp_in (nI i + 1) (gL G) := by rw [show nI i + 1 = nI (i + 1) from nI_add i 1]; exact vp_in_nI (by omega) (by omega)
  have c1 : (nI i + 1).toNatClampNeg = i + 1 := by rw [show nI i + 1 = nI (i + 1) from nI_add i 1]; exact nI_clamp (by omega)
  have v2 : vp_in (nI i + 2) (gL G) := by rw [show nI i + 2 = nI (i + 2) from nI_add i 2]; exact vp_in_nI (by omega) (by omega)
  have c2 : (nI i + 2).toNatClampNeg = i + 2 := by rw [show nI i + 2 = nI (i + 2) from nI_add i 2]; exact nI_clamp (by omega)
  obtain ⟨n', hn', call⟩ := ca_hold (l := l) (G := G) h hc (gS G (i + 1)) (gS G (i + 2))
  refine wpn_ok (M := mZ) (C := cenZ) (X := (alk [])) (tb := tZ_9) (st := [1264]) eoZ XOk_nil kZ_9 60 _ _ _ _ _ _ ?_
  simp only [reduceCtorEq, fv0, fv1, fv2, fv3, bI_0, bI_1, bft, MSh_sI_eq, fsP_T, inL_0, inL_s, pad_0, pad_n, pad_s, wpn_s, wp1_s, lg_0, lg_s, lset_0, lset_s, kil_0, kil_s, st1_s, st2_s, isL_i, isL_l, isL_r, isL_n, spl_0, spl_s, cll_n, cll_s, catS_0, catS_s, jmp_s, alk_0, alk_s, otl_n, otl_s, List.nil_append, List.cons_append, List.contains_cons, List.contains_nil, Nat.reduceBEq, Bool.or_false, Bool.false_or, Bool.or_self, Bool.false_eq_true, Bool.true_or, Bool.or_true, if_true, if_false, ite_true, ite_false, ↓reduceIte, List.length_cons, List.length_nil, Nat.reduceAdd, Nat.reduceLT, Nat.reduceLeDiff, Nat.reduceEqDiff, Int.reduceAdd, Int.reduceLE, Int.toNat_natCast, Int.reduceToNat, Int.cast_ofNat_Int, true_and, and_true, false_and, and_false, true_implies, forall_const, eq_self, and_self, or_true, true_or, or_self, false_or, or_false, yI_sI, yR_sI, yC_sI, yN_sI, yI_sR, yR_sR, yC_sR, yN_sR, not_true_eq_false, not_false_eq_true, false_implies, implies_true, Nat.zero_add, Nat.add_zero, Nat.le_refl, Nat.reduceSub, Int.reduceSub, Int.reduceLT, Int.sub_zero, Int.sub_self, List.getElem?_toArray, List.getElem?_cons_zero, List.getElem?_cons_succ, Int.toNat_zero, Int.toNat_one, Int.lt_irrefl, pZ_9_535, stp_aload_n, pZ_9_536, pZ_9_537, stp_iload_n, pZ_9_538, stp_iconst, ic_1, pZ_9_539, stp_iadd, pZ_9_540, stp_iaload, pZ_9_541, pZ_9_542, pZ_9_543, ic_2, pZ_9_544, pZ_9_545, pZ_9_546, stp_invokevirtual, qmZ_54, cy_S_hold, pZ_9_549, pZ_9_550, pZ_9_551, pZ_9_552, pZ_9_553, pZ_9_554, pZ_9_555, pZ_9_556, pZ_9_557, pZ_9_558, pZ_9_559, pZ_9_560, qmZ_57, cy_M_hold, pZ_9_563, stp_if_icmp_eq, pZ_9_566, ic_0, pZ_9_567, stp_ireturn, wC0, wC13, v1, c1, v2, c2]
  refine ⟨n', 8, 100, by omega, h1, h2, call.up.mono fun rr w1 h' => ?_⟩
  obtain ⟨⟨v, rfl, ty, m', hm', sem⟩, hup⟩ := h'
  obtain ⟨y, rfl⟩ : ∃ y : Int32, v = .inl y := ty
  have wD13 : 0 < wC w1 13 := by have := hup 13; omega
  refine wpn_ok (M := mZ) (C := cenZ) (X := (alk [])) (tb := tZ_9) (st := [1264]) eoZ XOk_nil kZ_9 60 _ _ _ _ _ _ ?_
  simp only [reduceCtorEq, fv0, fv1, fv2, fv3, bI_0, bI_1, bft, MSh_sI_eq, fsP_T, inL_0, inL_s, pad_0, pad_n, pad_s, wpn_s, wp1_s, lg_0, lg_s, lset_0, lset_s, kil_0, kil_s, st1_s, st2_s, isL_i, isL_l, isL_r, isL_n, spl_0, spl_s, cll_n, cll_s, catS_0, catS_s, jmp_s, alk_0, alk_s, otl_n, otl_s, List.nil_append, List.cons_append, List.contains_cons, List.contains_nil, Nat.reduceBEq, Bool.or_false, Bool.false_or, Bool.or_self, Bool.false_eq_true, Bool.true_or, Bool.or_true, if_true, if_false, ite_true, ite_false, ↓reduceIte, List.length_cons, List.length_nil, Nat.reduceAdd, Nat.reduceLT, Nat.reduceLeDiff, Nat.reduceEqDiff, Int.reduceAdd, Int.reduceLE, Int.toNat_natCast, Int.reduceToNat, Int.cast_ofNat_Int, true_and, and_true, false_and, and_false, true_implies, forall_const, eq_self, and_self, or_true, true_or, or_self, false_or, or_false, yI_sI, yR_sI, yC_sI, yN_sI, yI_sR, yR_sR, yC_sR, yN_sR, not_true_eq_false, not_false_eq_true, false_implies, implies_true, Nat.zero_add, Nat.add_zero, Nat.le_refl, Nat.reduceSub, Int.reduceSub, Int.reduceLT, Int.sub_zero, Int.sub_self, List.getElem?_toArray, List.getElem?_cons_zero, List.getElem?_cons_succ, Int.toNat_zero, Int.toNat_one, Int.lt_irrefl, pZ_9_535, stp_aload_n, pZ_9_536, pZ_9_537, stp_iload_n, pZ_9_538, stp_iconst, ic_1, pZ_9_539, stp_iadd, pZ_9_540, stp_iaload, pZ_9_541, pZ_9_542, pZ_9_543, ic_2, pZ_9_544, pZ_9_545, pZ_9_546, stp_invokevirtual, qmZ_54, cy_S_hold, pZ_9_549, pZ_9_550, pZ_9_551, pZ_9_552, pZ_9_553, pZ_9_554, pZ_9_555, pZ_9_556, pZ_9_557, pZ_9_558, pZ_9_559, pZ_9_560, qmZ_57, cy_M_hold, pZ_9_563, stp_if_icmp_eq, pZ_9_566, ic_0, pZ_9_567, stp_ireturn, wD13, Option.toList_some, v1, c1, v2, c2]
  refine ⟨m', 0, 0, by omega, by omega, by omega, sem.mono fun rr w2 h' => ?_⟩
  obtain ⟨rfl, hI⟩ := h'
  refine wpn_ok (M := mZ) (C := cenZ) (X := (alk [])) (tb := tZ_9) (st := [1264]) eoZ XOk_nil kZ_9 60 _ _ _ _ _ _ ?_
  simp only [reduceCtorEq, fv0, fv1, fv2, fv3, bI_0, bI_1, bft, MSh_sI_eq, fsP_T, inL_0, inL_s, pad_0, pad_n, pad_s, wpn_s, wp1_s, lg_0, lg_s, lset_0, lset_s, kil_0, kil_s, st1_s, st2_s, isL_i, isL_l, isL_r, isL_n, spl_0, spl_s, cll_n, cll_s, catS_0, catS_s, jmp_s, alk_0, alk_s, otl_n, otl_s, List.nil_append, List.cons_append, List.contains_cons, List.contains_nil, Nat.reduceBEq, Bool.or_false, Bool.false_or, Bool.or_self, Bool.false_eq_true, Bool.true_or, Bool.or_true, if_true, if_false, ite_true, ite_false, ↓reduceIte, List.length_cons, List.length_nil, Nat.reduceAdd, Nat.reduceLT, Nat.reduceLeDiff, Nat.reduceEqDiff, Int.reduceAdd, Int.reduceLE, Int.toNat_natCast, Int.reduceToNat, Int.cast_ofNat_Int, true_and, and_true, false_and, and_false, true_implies, forall_const, eq_self, and_self, or_true, true_or, or_self, false_or, or_false, yI_sI, yR_sI, yC_sI, yN_sI, yI_sR, yR_sR, yC_sR, yN_sR, not_true_eq_false, not_false_eq_true, false_implies, implies_true, Nat.zero_add, Nat.add_zero, Nat.le_refl, Nat.reduceSub, Int.reduceSub, Int.reduceLT, Int.sub_zero, Int.sub_self, List.getElem?_toArray, List.getElem?_cons_zero, List.getElem?_cons_succ, Int.toNat_zero, Int.toNat_one, Int.lt_irrefl, pZ_9_535, stp_aload_n, pZ_9_536, pZ_9_537, stp_iload_n, pZ_9_538, stp_iconst, ic_1, pZ_9_539, stp_iadd, pZ_9_540, stp_iaload, pZ_9_541, pZ_9_542, pZ_9_543, ic_2, pZ_9_544, pZ_9_545, pZ_9_546, stp_invokevirtual, qmZ_54, cy_S_hold, pZ_9_549, pZ_9_550, pZ_9_551, pZ_9_552, pZ_9_553, pZ_9_554, pZ_9_555, pZ_9_556, pZ_9_557, pZ_9_558, pZ_9_559, pZ_9_560, qmZ_57, cy_M_hold, pZ_9_563, stp_if_icmp_eq, pZ_9_566, ic_0, pZ_9_567, stp_ireturn, Option.toList_some]
  exact ih _ _ _ (by omega) (by omega) hI
end
def tZ_10 : TB := [(568, .aload_n 1, 1), (569, .aload_n 0, 1), (570, .iload_n 3, 1), (571, .iconst 1, 1), (572, .iadd, 1), (573, .iaload, 1), (574, .aload_n 0, 1), (575, .iload_n 3, 1), (576, .iconst 2, 1), (577, .iadd, 1), (578, .iaload, 1), (579, .invokevirtual 58, 3), (582, .aload_n 2, 1), (583, .aload_n 0, 1), (584, .iload_n 3, 1), (585, .iconst 1, 1), (586, .iadd, 1), (587, .iaload, 1), (588, .aload_n 0, 1), (589, .iload_n 3, 1), (590, .iconst 2, 1), (591, .iadd, 1), (592, .iaload, 1), (593, .invokevirtual 61, 3), (596, .if_icmp .eq 668, 3), (599, .iconst 0, 1), (600, .ireturn, 1)]
set_option maxRecDepth 100000 in
theorem kZ_10 : tbOk (mB mZ) tZ_10 = true := by decide +kernel
theorem pZ_10_568 : alk tZ_10 568 = some (.aload_n 1, 1) := (rfl)
theorem pZ_10_569 : alk tZ_10 569 = some (.aload_n 0, 1) := (rfl)
theorem pZ_10_570 : alk tZ_10 570 = some (.iload_n 3, 1) := (rfl)
theorem pZ_10_571 : alk tZ_10 571 = some (.iconst 1, 1) := (rfl)
theorem pZ_10_572 : alk tZ_10 572 = some (.iadd, 1) := (rfl)
theorem pZ_10_573 : alk tZ_10 573 = some (.iaload, 1) := (rfl)
theorem pZ_10_574 : alk tZ_10 574 = some (.aload_n 0, 1) := (rfl)
theorem pZ_10_575 : alk tZ_10 575 = some (.iload_n 3, 1) := (rfl)
theorem pZ_10_576 : alk tZ_10 576 = some (.iconst 2, 1) := (rfl)
theorem pZ_10_577 : alk tZ_10 577 = some (.iadd, 1) := (rfl)
theorem pZ_10_578 : alk tZ_10 578 = some (.iaload, 1) := (rfl)
theorem pZ_10_579 : alk tZ_10 579 = some (.invokevirtual 58, 3) := (rfl)
theorem pZ_10_582 : alk tZ_10 582 = some (.aload_n 2, 1) := (rfl)
theorem pZ_10_583 : alk tZ_10 583 = some (.aload_n 0, 1) := (rfl)
theorem pZ_10_584 : alk tZ_10 584 = some (.iload_n 3, 1) := (rfl)
theorem pZ_10_585 : alk tZ_10 585 = some (.iconst 1, 1) := (rfl)
theorem pZ_10_586 : alk tZ_10 586 = some (.iadd, 1) := (rfl)
theorem pZ_10_587 : alk tZ_10 587 = some (.iaload, 1) := (rfl)
theorem pZ_10_588 : alk tZ_10 588 = some (.aload_n 0, 1) := (rfl)
theorem pZ_10_589 : alk tZ_10 589 = some (.iload_n 3, 1) := (rfl)
theorem pZ_10_590 : alk tZ_10 590 = some (.iconst 2, 1) := (rfl)
theorem pZ_10_591 : alk tZ_10 591 = some (.iadd, 1) := (rfl)
theorem pZ_10_592 : alk tZ_10 592 = some (.iaload, 1) := (rfl)
theorem pZ_10_593 : alk tZ_10 593 = some (.invokevirtual 61, 3) := (rfl)
theorem pZ_10_596 : alk tZ_10 596 = some (.if_icmp .eq 668, 3) := (rfl)
theorem pZ_10_599 : alk tZ_10 599 = some (.iconst 0, 1) := (rfl)
theorem pZ_10_600 : alk tZ_10 600 = some (.ireturn, 1) := (rfl)
section
variable {l : Launch} {G : Gc} {mc ms : Nat} {Q : Option AV → Wd → Prop} {w : Wd}
set_option maxRecDepth 100000 in
set_option maxHeartbeats 4000000 in
theorem lcZ_10 {c i cu su : Nat} (h : Inv c w) (hc : c < 1000) (hi : i + 6 ≤ gL G) (hL : gL G ≤ 3072) (h1 : cu + 8 ≤ mc) (h2 : su + 100 ≤ ms) (ih : ∀ w' cu' su', cu' ≤ cu + 8 → su' ≤ su + 100 → Inv (c + 1) w' → WP l G mZ 40 mc ms Q 1264 [some (.inr (.inr (some (901, 0)))), some (.inr (.inr (some (0, 0)))), some (.inr (.inr (some (13, 0)))), some (.inl (nI i))] [] w' cu' su') : WP l G mZ 40 mc ms Q 568 [some (.inr (.inr (some (901, 0)))), some (.inr (.inr (some (0, 0)))), some (.inr (.inr (some (13, 0)))), some (.inl (nI i))] [] w cu su := by
  have wC0 := ss_C0 (iv_S h)
  have wC13 : wC w 13 = 1 := (iv_M h).1.1
  have v1 : vp_in (nI i + 1) (gL G) := by rw [show nI i + 1 = nI (i + 1) from nI_add i 1]; exact vp_in_nI (by omega) (by omega)
  have c1 : (nI i + 1).toNatClampNeg = i + 1 := by rw [show nI i + 1 = nI (i + 1) from nI_add i 1]; exact nI_clamp (by omega)
  have v2 : vp_in (nI i + 2) (gL G) := by rw [show nI i + 2 = nI (i + 2) from nI_add i 2]; exact vp_in_nI (by omega) (by omega)
  have c2 : (nI i + 2).toNatClampNeg = i + 2 := by rw [show nI i + 2 = nI (i + 2) from nI_add i 2]; exact nI_clamp (by omega)
  obtain ⟨n', hn', call⟩ := ca_plan (l := l) (G := G) h hc (gS G (i + 1)) (gS G (i + 2))
  refine wpn_ok (M := mZ) (C := cenZ) (X := (alk [])) (tb := tZ_10) (st := [1264]) eoZ XOk_nil kZ_10 60 _ _ _ _ _ _ ?_
  simp only [reduceCtorEq, fv0, fv1, fv2, fv3, bI_0, bI_1, bft, MSh_sI_eq, fsP_T, inL_0, inL_s, pad_0, pad_n, pad_s, wpn_s, wp1_s, lg_0, lg_s, lset_0, lset_s, kil_0, kil_s, st1_s, st2_s, isL_i, isL_l, isL_r, isL_n, spl_0, spl_s, cll_n, cll_s, catS_0, catS_s, jmp_s, alk_0, alk_s, otl_n, otl_s, List.nil_append, List.cons_append, List.contains_cons, List.contains_nil, Nat.reduceBEq, Bool.or_false, Bool.false_or, Bool.or_self, Bool.false_eq_true, Bool.true_or, Bool.or_true, if_true, if_false, ite_true, ite_false, ↓reduceIte, List.length_cons, List.length_nil, Nat.reduceAdd, Nat.reduceLT, Nat.reduceLeDiff, Nat.reduceEqDiff, Int.reduceAdd, Int.reduceLE, Int.toNat_natCast, Int.reduceToNat, Int.cast_ofNat_Int, true_and, and_true, false_and, and_false, true_implies, forall_const, eq_self, and_self, or_true, true_or, or_self, false_or, or_false, yI_sI, yR_sI, yC_sI, yN_sI, yI_sR, yR_sR, yC_sR, yN_sR, not_true_eq_false, not_false_eq_true, false_implies, implies_true, Nat.zero_add, Nat.add_zero, Nat.le_refl, Nat.reduceSub, Int.reduceSub, Int.reduceLT, Int.sub_zero, Int.sub_self, List.getElem?_toArray, List.getElem?_cons_zero, List.getElem?_cons_succ, Int.toNat_zero, Int.toNat_one, Int.lt_irrefl, pZ_10_568, stp_aload_n, pZ_10_569, pZ_10_570, stp_iload_n, pZ_10_571, stp_iconst, ic_1, pZ_10_572, stp_iadd, pZ_10_573, stp_iaload, pZ_10_574, pZ_10_575, pZ_10_576, ic_2, pZ_10_577, pZ_10_578, pZ_10_579, stp_invokevirtual, qmZ_58, cy_S_plan, pZ_10_582, pZ_10_583, pZ_10_584, pZ_10_585, pZ_10_586, pZ_10_587, pZ_10_588, pZ_10_589, pZ_10_590, pZ_10_591, pZ_10_592, pZ_10_593, qmZ_61, cy_M_plan, pZ_10_596, stp_if_icmp_eq, pZ_10_599, ic_0, pZ_10_600, stp_ireturn, wC0, wC13, v1, c1, v2, c2]
  refine ⟨n', 8, 100, by omega, h1, h2, call.up.mono fun rr w1 h' => ?_⟩
  obtain ⟨⟨v, rfl, ty, m', hm', sem⟩, hup⟩ := h'
  obtain ⟨y, rfl⟩ : ∃ y : Int32, v = .inl y := ty
  have wD13 : 0 < wC w1 13 := by have := hup 13; omega
  refine wpn_ok (M := mZ) (C := cenZ) (X := (alk [])) (tb := tZ_10) (st := [1264]) eoZ XOk_nil kZ_10 60 _ _ _ _ _ _ ?_
  simp only [reduceCtorEq, fv0, fv1, fv2, fv3, bI_0, bI_1, bft, MSh_sI_eq, fsP_T, inL_0, inL_s, pad_0, pad_n, pad_s, wpn_s, wp1_s, lg_0, lg_s, lset_0, lset_s, kil_0, kil_s, st1_s, st2_s, isL_i, isL_l, isL_r, isL_n, spl_0, spl_s, cll_n, cll_s, catS_0, catS_s, jmp_s, alk_0, alk_s, otl_n, otl_s, List.nil_append, List.cons_append, List.contains_cons, List.contains_nil, Nat.reduceBEq, Bool.or_false, Bool.false_or, Bool.or_self, Bool.false_eq_true, Bool.true_or, Bool.or_true, if_true, if_false, ite_true, ite_false, ↓reduceIte, List.length_cons, List.length_nil, Nat.reduceAdd, Nat.reduceLT, Nat.reduceLeDiff, Nat.reduceEqDiff, Int.reduceAdd, Int.reduceLE, Int.toNat_natCast, Int.reduceToNat, Int.cast_ofNat_Int, true_and, and_true, false_and, and_false, true_implies, forall_const, eq_self, and_self, or_true, true_or, or_self, false_or, or_false, yI_sI, yR_sI, yC_sI, yN_sI, yI_sR, yR_sR, yC_sR, yN_sR, not_true_eq_false, not_false_eq_true, false_implies, implies_true, Nat.zero_add, Nat.add_zero, Nat.le_refl, Nat.reduceSub, Int.reduceSub, Int.reduceLT, Int.sub_zero, Int.sub_self, List.getElem?_toArray, List.getElem?_cons_zero, List.getElem?_cons_succ, Int.toNat_zero, Int.toNat_one, Int.lt_irrefl, pZ_10_568, stp_aload_n, pZ_10_569, pZ_10_570, stp_iload_n, pZ_10_571, stp_iconst, ic_1, pZ_10_572, stp_iadd, pZ_10_573, stp_iaload, pZ_10_574, pZ_10_575, pZ_10_576, ic_2, pZ_10_577, pZ_10_578, pZ_10_579, stp_invokevirtual, qmZ_58, cy_S_plan, pZ_10_582, pZ_10_583, pZ_10_584, pZ_10_585, pZ_10_586, pZ_10_587, pZ_10_588, pZ_10_589, pZ_10_590, pZ_10_591, pZ_10_592, pZ_10_593, qmZ_61, cy_M_plan, pZ_10_596, stp_if_icmp_eq, pZ_10_599, ic_0, pZ_10_600, stp_ireturn, wD13, Option.toList_some, v1, c1, v2, c2]
  refine ⟨m', 0, 0, by omega, by omega, by omega, sem.mono fun rr w2 h' => ?_⟩
  obtain ⟨rfl, hI⟩ := h'
  refine wpn_ok (M := mZ) (C := cenZ) (X := (alk [])) (tb := tZ_10) (st := [1264]) eoZ XOk_nil kZ_10 60 _ _ _ _ _ _ ?_
  simp only [reduceCtorEq, fv0, fv1, fv2, fv3, bI_0, bI_1, bft, MSh_sI_eq, fsP_T, inL_0, inL_s, pad_0, pad_n, pad_s, wpn_s, wp1_s, lg_0, lg_s, lset_0, lset_s, kil_0, kil_s, st1_s, st2_s, isL_i, isL_l, isL_r, isL_n, spl_0, spl_s, cll_n, cll_s, catS_0, catS_s, jmp_s, alk_0, alk_s, otl_n, otl_s, List.nil_append, List.cons_append, List.contains_cons, List.contains_nil, Nat.reduceBEq, Bool.or_false, Bool.false_or, Bool.or_self, Bool.false_eq_true, Bool.true_or, Bool.or_true, if_true, if_false, ite_true, ite_false, ↓reduceIte, List.length_cons, List.length_nil, Nat.reduceAdd, Nat.reduceLT, Nat.reduceLeDiff, Nat.reduceEqDiff, Int.reduceAdd, Int.reduceLE, Int.toNat_natCast, Int.reduceToNat, Int.cast_ofNat_Int, true_and, and_true, false_and, and_false, true_implies, forall_const, eq_self, and_self, or_true, true_or, or_self, false_or, or_false, yI_sI, yR_sI, yC_sI, yN_sI, yI_sR, yR_sR, yC_sR, yN_sR, not_true_eq_false, not_false_eq_true, false_implies, implies_true, Nat.zero_add, Nat.add_zero, Nat.le_refl, Nat.reduceSub, Int.reduceSub, Int.reduceLT, Int.sub_zero, Int.sub_self, List.getElem?_toArray, List.getElem?_cons_zero, List.getElem?_cons_succ, Int.toNat_zero, Int.toNat_one, Int.lt_irrefl, pZ_10_568, stp_aload_n, pZ_10_569, pZ_10_570, stp_iload_n, pZ_10_571, stp_iconst, ic_1, pZ_10_572, stp_iadd, pZ_10_573, stp_iaload, pZ_10_574, pZ_10_575, pZ_10_576, ic_2, pZ_10_577, pZ_10_578, pZ_10_579, stp_invokevirtual, qmZ_58, cy_S_plan, pZ_10_582, pZ_10_583, pZ_10_584, pZ_10_585, pZ_10_586, pZ_10_587, pZ_10_588, pZ_10_589, pZ_10_590, pZ_10_591, pZ_10_592, pZ_10_593, qmZ_61, cy_M_plan, pZ_10_596, stp_if_icmp_eq, pZ_10_599, ic_0, pZ_10_600, stp_ireturn, Option.toList_some]
  exact ih _ _ _ (by omega) (by omega) hI
end
def tZ_11 : TB := [(601, .aload_n 1, 1), (602, .aload_n 0, 1), (603, .iload_n 3, 1), (604, .iconst 1, 1), (605, .iadd, 1), (606, .iaload, 1), (607, .aload_n 0, 1), (608, .iload_n 3, 1), (609, .iconst 2, 1), (610, .iadd, 1), (611, .iaload, 1), (612, .invokevirtual 62, 3), (615, .aload_n 2, 1), (616, .aload_n 0, 1), (617, .iload_n 3, 1), (618, .iconst 1, 1), (619, .iadd, 1), (620, .iaload, 1), (621, .aload_n 0, 1), (622, .iload_n 3, 1), (623, .iconst 2, 1), (624, .iadd, 1), (625, .iaload, 1), (626, .invokevirtual 65, 3), (629, .if_icmp .eq 635, 3), (632, .iconst 0, 1), (633, .ireturn, 1)]
set_option maxRecDepth 100000 in
theorem kZ_11 : tbOk (mB mZ) tZ_11 = true := by decide +kernel
theorem pZ_11_601 : alk tZ_11 601 = some (.aload_n 1, 1) := (rfl)
theorem pZ_11_602 : alk tZ_11 602 = some (.aload_n 0, 1) := (rfl)
theorem pZ_11_603 : alk tZ_11 603 = some (.iload_n 3, 1) := (rfl)
theorem pZ_11_604 : alk tZ_11 604 = some (.iconst 1, 1) := (rfl)
theorem pZ_11_605 : alk tZ_11 605 = some (.iadd, 1) := (rfl)
theorem pZ_11_606 : alk tZ_11 606 = some (.iaload, 1) := (rfl)
theorem pZ_11_607 : alk tZ_11 607 = some (.aload_n 0, 1) := (rfl)
theorem pZ_11_608 : alk tZ_11 608 = some (.iload_n 3, 1) := (rfl)
theorem pZ_11_609 : alk tZ_11 609 = some (.iconst 2, 1) := (rfl)
theorem pZ_11_610 : alk tZ_11 610 = some (.iadd, 1) := (rfl)
theorem pZ_11_611 : alk tZ_11 611 = some (.iaload, 1) := (rfl)
theorem pZ_11_612 : alk tZ_11 612 = some (.invokevirtual 62, 3) := (rfl)
theorem pZ_11_615 : alk tZ_11 615 = some (.aload_n 2, 1) := (rfl)
theorem pZ_11_616 : alk tZ_11 616 = some (.aload_n 0, 1) := (rfl)
theorem pZ_11_617 : alk tZ_11 617 = some (.iload_n 3, 1) := (rfl)
theorem pZ_11_618 : alk tZ_11 618 = some (.iconst 1, 1) := (rfl)
theorem pZ_11_619 : alk tZ_11 619 = some (.iadd, 1) := (rfl)
theorem pZ_11_620 : alk tZ_11 620 = some (.iaload, 1) := (rfl)
theorem pZ_11_621 : alk tZ_11 621 = some (.aload_n 0, 1) := (rfl)
theorem pZ_11_622 : alk tZ_11 622 = some (.iload_n 3, 1) := (rfl)
theorem pZ_11_623 : alk tZ_11 623 = some (.iconst 2, 1) := (rfl)
theorem pZ_11_624 : alk tZ_11 624 = some (.iadd, 1) := (rfl)
theorem pZ_11_625 : alk tZ_11 625 = some (.iaload, 1) := (rfl)
theorem pZ_11_626 : alk tZ_11 626 = some (.invokevirtual 65, 3) := (rfl)
theorem pZ_11_629 : alk tZ_11 629 = some (.if_icmp .eq 635, 3) := (rfl)
theorem pZ_11_632 : alk tZ_11 632 = some (.iconst 0, 1) := (rfl)
theorem pZ_11_633 : alk tZ_11 633 = some (.ireturn, 1) := (rfl)
section
variable {l : Launch} {G : Gc} {mc ms : Nat} {Q : Option AV → Wd → Prop} {w : Wd}
set_option maxRecDepth 100000 in
set_option maxHeartbeats 4000000 in
theorem lcZ_11 {c i cu su : Nat} (h : Inv c w) (hc : c < 1000) (hi : i + 6 ≤ gL G) (hL : gL G ≤ 3072) (h1 : cu + 8 ≤ mc) (h2 : su + 100 ≤ ms) (ih : ∀ w' cu' su', cu' ≤ cu + 8 → su' ≤ su + 100 → Inv (c + 1) w' → WP l G mZ 40 mc ms Q 1264 [some (.inr (.inr (some (901, 0)))), some (.inr (.inr (some (0, 0)))), some (.inr (.inr (some (13, 0)))), some (.inl (nI i))] [] w' cu' su') : WP l G mZ 40 mc ms Q 601 [some (.inr (.inr (some (901, 0)))), some (.inr (.inr (some (0, 0)))), some (.inr (.inr (some (13, 0)))), some (.inl (nI i))] [] w cu su := by
  have wC0 := ss_C0 (iv_S h)
  have wC13 : wC w 13 = 1 := (iv_M h).1.1
  have v1 : vp_in (nI i + 1) (gL G) := by rw [show nI i + 1 = nI (i + 1) from nI_add i 1]; exact vp_in_nI (by omega) (by omega)
  have c1 : (nI i + 1).toNatClampNeg = i + 1 := by rw [show nI i + 1 = nI (i + 1) from nI_add i 1]; exact nI_clamp (by omega)
  have v2 : vp_in (nI i + 2) (gL G) := by rw [show nI i + 2 = nI (i + 2) from nI_add i 2]; exact vp_in_nI (by omega) (by omega)
  have c2 : (nI i + 2).toNatClampNeg = i + 2 := by rw [show nI i + 2 = nI (i + 2) from nI_add i 2]; exact nI_clamp (by omega)
  obtain ⟨n', hn', call⟩ := ca_planned (l := l) (G := G) h (gS G (i + 1)) (gS G (i + 2))
  refine wpn_ok (M := mZ) (C := cenZ) (X := (alk [])) (tb := tZ_11) (st := [1264]) eoZ XOk_nil kZ_11 60 _ _ _ _ _ _ ?_
  simp only [reduceCtorEq, fv0, fv1, fv2, fv3, bI_0, bI_1, bft, MSh_sI_eq, fsP_T, inL_0, inL_s, pad_0, pad_n, pad_s, wpn_s, wp1_s, lg_0, lg_s, lset_0, lset_s, kil_0, kil_s, st1_s, st2_s, isL_i, isL_l, isL_r, isL_n, spl_0, spl_s, cll_n, cll_s, catS_0, catS_s, jmp_s, alk_0, alk_s, otl_n, otl_s, List.nil_append, List.cons_append, List.contains_cons, List.contains_nil, Nat.reduceBEq, Bool.or_false, Bool.false_or, Bool.or_self, Bool.false_eq_true, Bool.true_or, Bool.or_true, if_true, if_false, ite_true, ite_false, ↓reduceIte, List.length_cons, List.length_nil, Nat.reduceAdd, Nat.reduceLT, Nat.reduceLeDiff, Nat.reduceEqDiff, Int.reduceAdd, Int.reduceLE, Int.toNat_natCast, Int.reduceToNat, Int.cast_ofNat_Int, true_and, and_true, false_and, and_false, true_implies, forall_const, eq_self, and_self, or_true, true_or, or_self, false_or, or_false, yI_sI, yR_sI, yC_sI, yN_sI, yI_sR, yR_sR, yC_sR, yN_sR, not_true_eq_false, not_false_eq_true, false_implies, implies_true, Nat.zero_add, Nat.add_zero, Nat.le_refl, Nat.reduceSub, Int.reduceSub, Int.reduceLT, Int.sub_zero, Int.sub_self, List.getElem?_toArray, List.getElem?_cons_zero, List.getElem?_cons_succ, Int.toNat_zero, Int.toNat_one, Int.lt_irrefl, pZ_11_601, stp_aload_n, pZ_11_602, pZ_11_603, stp_iload_n, pZ_11_604, stp_iconst, ic_1, pZ_11_605, stp_iadd, pZ_11_606, stp_iaload, pZ_11_607, pZ_11_608, pZ_11_609, ic_2, pZ_11_610, pZ_11_611, pZ_11_612, stp_invokevirtual, qmZ_62, cy_S_planned, pZ_11_615, pZ_11_616, pZ_11_617, pZ_11_618, pZ_11_619, pZ_11_620, pZ_11_621, pZ_11_622, pZ_11_623, pZ_11_624, pZ_11_625, pZ_11_626, qmZ_65, cy_M_planned, pZ_11_629, stp_if_icmp_eq, pZ_11_632, ic_0, pZ_11_633, stp_ireturn, wC0, wC13, v1, c1, v2, c2]
  refine ⟨n', 8, 100, by omega, h1, h2, call.up.mono fun rr w1 h' => ?_⟩
  obtain ⟨⟨v, rfl, ty, m', hm', sem⟩, hup⟩ := h'
  obtain ⟨y, rfl⟩ : ∃ y : Int32, v = .inl y := ty
  have wD13 : 0 < wC w1 13 := by have := hup 13; omega
  refine wpn_ok (M := mZ) (C := cenZ) (X := (alk [])) (tb := tZ_11) (st := [1264]) eoZ XOk_nil kZ_11 60 _ _ _ _ _ _ ?_
  simp only [reduceCtorEq, fv0, fv1, fv2, fv3, bI_0, bI_1, bft, MSh_sI_eq, fsP_T, inL_0, inL_s, pad_0, pad_n, pad_s, wpn_s, wp1_s, lg_0, lg_s, lset_0, lset_s, kil_0, kil_s, st1_s, st2_s, isL_i, isL_l, isL_r, isL_n, spl_0, spl_s, cll_n, cll_s, catS_0, catS_s, jmp_s, alk_0, alk_s, otl_n, otl_s, List.nil_append, List.cons_append, List.contains_cons, List.contains_nil, Nat.reduceBEq, Bool.or_false, Bool.false_or, Bool.or_self, Bool.false_eq_true, Bool.true_or, Bool.or_true, if_true, if_false, ite_true, ite_false, ↓reduceIte, List.length_cons, List.length_nil, Nat.reduceAdd, Nat.reduceLT, Nat.reduceLeDiff, Nat.reduceEqDiff, Int.reduceAdd, Int.reduceLE, Int.toNat_natCast, Int.reduceToNat, Int.cast_ofNat_Int, true_and, and_true, false_and, and_false, true_implies, forall_const, eq_self, and_self, or_true, true_or, or_self, false_or, or_false, yI_sI, yR_sI, yC_sI, yN_sI, yI_sR, yR_sR, yC_sR, yN_sR, not_true_eq_false, not_false_eq_true, false_implies, implies_true, Nat.zero_add, Nat.add_zero, Nat.le_refl, Nat.reduceSub, Int.reduceSub, Int.reduceLT, Int.sub_zero, Int.sub_self, List.getElem?_toArray, List.getElem?_cons_zero, List.getElem?_cons_succ, Int.toNat_zero, Int.toNat_one, Int.lt_irrefl, pZ_11_601, stp_aload_n, pZ_11_602, pZ_11_603, stp_iload_n, pZ_11_604, stp_iconst, ic_1, pZ_11_605, stp_iadd, pZ_11_606, stp_iaload, pZ_11_607, pZ_11_608, pZ_11_609, ic_2, pZ_11_610, pZ_11_611, pZ_11_612, stp_invokevirtual, qmZ_62, cy_S_planned, pZ_11_615, pZ_11_616, pZ_11_617, pZ_11_618, pZ_11_619, pZ_11_620, pZ_11_621, pZ_11_622, pZ_11_623, pZ_11_624, pZ_11_625, pZ_11_626, qmZ_65, cy_M_planned, pZ_11_629, stp_if_icmp_eq, pZ_11_632, ic_0, pZ_11_633, stp_ireturn, wD13, Option.toList_some, v1, c1, v2, c2]
  refine ⟨m', 0, 0, by omega, by omega, by omega, sem.mono fun rr w2 h' => ?_⟩
  obtain ⟨rfl, hI⟩ := h'
  refine wpn_ok (M := mZ) (C := cenZ) (X := (alk [])) (tb := tZ_11) (st := [1264]) eoZ XOk_nil kZ_11 60 _ _ _ _ _ _ ?_
  simp only [reduceCtorEq, fv0, fv1, fv2, fv3, bI_0, bI_1, bft, MSh_sI_eq, fsP_T, inL_0, inL_s, pad_0, pad_n, pad_s, wpn_s, wp1_s, lg_0, lg_s, lset_0, lset_s, kil_0, kil_s, st1_s, st2_s, isL_i, isL_l, isL_r, isL_n, spl_0, spl_s, cll_n, cll_s, catS_0, catS_s, jmp_s, alk_0, alk_s, otl_n, otl_s, List.nil_append, List.cons_append, List.contains_cons, List.contains_nil, Nat.reduceBEq, Bool.or_false, Bool.false_or, Bool.or_self, Bool.false_eq_true, Bool.true_or, Bool.or_true, if_true, if_false, ite_true, ite_false, ↓reduceIte, List.length_cons, List.length_nil, Nat.reduceAdd, Nat.reduceLT, Nat.reduceLeDiff, Nat.reduceEqDiff, Int.reduceAdd, Int.reduceLE, Int.toNat_natCast, Int.reduceToNat, Int.cast_ofNat_Int, true_and, and_true, false_and, and_false, true_implies, forall_const, eq_self, and_self, or_true, true_or, or_self, false_or, or_false, yI_sI, yR_sI, yC_sI, yN_sI, yI_sR, yR_sR, yC_sR, yN_sR, not_true_eq_false, not_false_eq_true, false_implies, implies_true, Nat.zero_add, Nat.add_zero, Nat.le_refl, Nat.reduceSub, Int.reduceSub, Int.reduceLT, Int.sub_zero, Int.sub_self, List.getElem?_toArray, List.getElem?_cons_zero, List.getElem?_cons_succ, Int.toNat_zero, Int.toNat_one, Int.lt_irrefl, pZ_11_601, stp_aload_n, pZ_11_602, pZ_11_603, stp_iload_n, pZ_11_604, stp_iconst, ic_1, pZ_11_605, stp_iadd, pZ_11_606, stp_iaload, pZ_11_607, pZ_11_608, pZ_11_609, ic_2, pZ_11_610, pZ_11_611, pZ_11_612, stp_invokevirtual, qmZ_62, cy_S_planned, pZ_11_615, pZ_11_616, pZ_11_617, pZ_11_618, pZ_11_619, pZ_11_620, pZ_11_621, pZ_11_622, pZ_11_623, pZ_11_624, pZ_11_625, pZ_11_626, qmZ_65, cy_M_planned, pZ_11_629, stp_if_icmp_eq, pZ_11_632, ic_0, pZ_11_633, stp_ireturn, Option.toList_some]
  exact ih _ _ _ (by omega) (by omega) hI
end
def tZ_12 : TB := [(634, .aload_n 1, 1), (635, .aload_n 0, 1), (636, .iload_n 3, 1), (637, .iconst 1, 1), (638, .iadd, 1), (639, .iaload, 1), (640, .aload_n 0, 1), (641, .iload_n 3, 1), (642, .iconst 2, 1), (643, .iadd, 1), (644, .iaload, 1), (645, .invokevirtual 66, 3), (648, .aload_n 2, 1), (649, .aload_n 0, 1), (650, .iload_n 3, 1), (651, .iconst 1, 1), (652, .iadd, 1), (653, .iaload, 1), (654, .aload_n 0, 1), (655, .iload_n 3, 1), (656, .iconst 2, 1), (657, .iadd, 1), (658, .iaload, 1), (659, .invokevirtual 69, 3), (662, .if_icmp .eq 602, 3), (665, .iconst 0, 1), (666, .ireturn, 1)]
set_option maxRecDepth 100000 in
theorem kZ_12 : tbOk (mB mZ) tZ_12 = true := by decide +kernel
theorem pZ_12_634 : alk tZ_12 634 = some (.aload_n 1, 1) := (rfl)
theorem pZ_12_635 : alk tZ_12 635 = some (.aload_n 0, 1) := (rfl)
theorem pZ_12_636 : alk tZ_12 636 = some (.iload_n 3, 1) := (rfl)
theorem pZ_12_637 : alk tZ_12 637 = some (.iconst 1, 1) := (rfl)
theorem pZ_12_638 : alk tZ_12 638 = some (.iadd, 1) := (rfl)
theorem pZ_12_639 : alk tZ_12 639 = some (.iaload, 1) := (rfl)
theorem pZ_12_640 : alk tZ_12 640 = some (.aload_n 0, 1) := (rfl)
theorem pZ_12_641 : alk tZ_12 641 = some (.iload_n 3, 1) := (rfl)
theorem pZ_12_642 : alk tZ_12 642 = some (.iconst 2, 1) := (rfl)
theorem pZ_12_643 : alk tZ_12 643 = some (.iadd, 1) := (rfl)
theorem pZ_12_644 : alk tZ_12 644 = some (.iaload, 1) := (rfl)
theorem pZ_12_645 : alk tZ_12 645 = some (.invokevirtual 66, 3) := (rfl)
theorem pZ_12_648 : alk tZ_12 648 = some (.aload_n 2, 1) := (rfl)
theorem pZ_12_649 : alk tZ_12 649 = some (.aload_n 0, 1) := (rfl)
theorem pZ_12_650 : alk tZ_12 650 = some (.iload_n 3, 1) := (rfl)
theorem pZ_12_651 : alk tZ_12 651 = some (.iconst 1, 1) := (rfl)
theorem pZ_12_652 : alk tZ_12 652 = some (.iadd, 1) := (rfl)
theorem pZ_12_653 : alk tZ_12 653 = some (.iaload, 1) := (rfl)
theorem pZ_12_654 : alk tZ_12 654 = some (.aload_n 0, 1) := (rfl)
theorem pZ_12_655 : alk tZ_12 655 = some (.iload_n 3, 1) := (rfl)
theorem pZ_12_656 : alk tZ_12 656 = some (.iconst 2, 1) := (rfl)
theorem pZ_12_657 : alk tZ_12 657 = some (.iadd, 1) := (rfl)
theorem pZ_12_658 : alk tZ_12 658 = some (.iaload, 1) := (rfl)
theorem pZ_12_659 : alk tZ_12 659 = some (.invokevirtual 69, 3) := (rfl)
theorem pZ_12_662 : alk tZ_12 662 = some (.if_icmp .eq 602, 3) := (rfl)
theorem pZ_12_665 : alk tZ_12 665 = some (.iconst 0, 1) := (rfl)
theorem pZ_12_666 : alk tZ_12 666 = some (.ireturn, 1) := (rfl)
section
variable {l : Launch} {G : Gc} {mc ms : Nat} {Q : Option AV → Wd → Prop} {w : Wd}
set_option maxRecDepth 100000 in
set_option maxHeartbeats 4000000 in
theorem lcZ_12 {c i cu su : Nat} (h : Inv c w) (hc : c < 1000) (hi : i + 6 ≤ gL G) (hL : gL G ≤ 3072) (h1 : cu + 8 ≤ mc) (h2 : su + 100 ≤ ms) (ih : ∀ w' cu' su', cu' ≤ cu + 8 → su' ≤ su + 100 → Inv (c + 1) w' → WP l G mZ 40 mc ms Q 1264 [some (.inr (.inr (some (901, 0)))), some (.inr (.inr (some (0, 0)))), some (.inr (.inr (some (13, 0)))), some (.inl (nI i))] [] w' cu' su') : WP l G mZ 40 mc ms Q 634 [some (.inr (.inr (some (901, 0)))), some (.inr (.inr (some (0, 0)))), some (.inr (.inr (some (13, 0)))), some (.inl (nI i))] [] w cu su := by
  have wC0 := ss_C0 (iv_S h)
  have wC13 : wC w 13 = 1 := (iv_M h).1.1
  have v1 : vp_in (nI i + 1) (gL G) := by rw [show nI i + 1 = nI (i + 1) from nI_add i 1]; exact vp_in_nI (by omega) (by omega)
  have c1 : (nI i + 1).toNatClampNeg = i + 1 := by rw [show nI i + 1 = nI (i + 1) from nI_add i 1]; exact nI_clamp (by omega)
  have v2 : vp_in (nI i + 2) (gL G) := by rw [show nI i + 2 = nI (i + 2) from nI_add i 2]; exact vp_in_nI (by omega) (by omega)
  have c2 : (nI i + 2).toNatClampNeg = i + 2 := by rw [show nI i + 2 = nI (i + 2) from nI_add i 2]; exact nI_clamp (by omega)
  obtain ⟨n', hn', call⟩ := ca_feed (l := l) (G := G) h (gS G (i + 1)) (gS G (i + 2))
  refine wpn_ok (M := mZ) (C := cenZ) (X := (alk [])) (tb := tZ_12) (st := [1264]) eoZ XOk_nil kZ_12 60 _ _ _ _ _ _ ?_
  simp only [reduceCtorEq, fv0, fv1, fv2, fv3, bI_0, bI_1, bft, MSh_sI_eq, fsP_T, inL_0, inL_s, pad_0, pad_n, pad_s, wpn_s, wp1_s, lg_0, lg_s, lset_0, lset_s, kil_0, kil_s, st1_s, st2_s, isL_i, isL_l, isL_r, isL_n, spl_0, spl_s, cll_n, cll_s, catS_0, catS_s, jmp_s, alk_0, alk_s, otl_n, otl_s, List.nil_append, List.cons_append, List.contains_cons, List.contains_nil, Nat.reduceBEq, Bool.or_false, Bool.false_or, Bool.or_self, Bool.false_eq_true, Bool.true_or, Bool.or_true, if_true, if_false, ite_true, ite_false, ↓reduceIte, List.length_cons, List.length_nil, Nat.reduceAdd, Nat.reduceLT, Nat.reduceLeDiff, Nat.reduceEqDiff, Int.reduceAdd, Int.reduceLE, Int.toNat_natCast, Int.reduceToNat, Int.cast_ofNat_Int, true_and, and_true, false_and, and_false, true_implies, forall_const, eq_self, and_self, or_true, true_or, or_self, false_or, or_false, yI_sI, yR_sI, yC_sI, yN_sI, yI_sR, yR_sR, yC_sR, yN_sR, not_true_eq_false, not_false_eq_true, false_implies, implies_true, Nat.zero_add, Nat.add_zero, Nat.le_refl, Nat.reduceSub, Int.reduceSub, Int.reduceLT, Int.sub_zero, Int.sub_self, List.getElem?_toArray, List.getElem?_cons_zero, List.getElem?_cons_succ, Int.toNat_zero, Int.toNat_one, Int.lt_irrefl, pZ_12_634, stp_aload_n, pZ_12_635, pZ_12_636, stp_iload_n, pZ_12_637, stp_iconst, ic_1, pZ_12_638, stp_iadd, pZ_12_639, stp_iaload, pZ_12_640, pZ_12_641, pZ_12_642, ic_2, pZ_12_643, pZ_12_644, pZ_12_645, stp_invokevirtual, qmZ_66, cy_S_feed, pZ_12_648, pZ_12_649, pZ_12_650, pZ_12_651, pZ_12_652, pZ_12_653, pZ_12_654, pZ_12_655, pZ_12_656, pZ_12_657, pZ_12_658, pZ_12_659, qmZ_69, cy_M_feed, pZ_12_662, stp_if_icmp_eq, pZ_12_665, ic_0, pZ_12_666, stp_ireturn, wC0, wC13, v1, c1, v2, c2]
  refine ⟨n', 8, 100, by omega, h1, h2, call.up.mono fun rr w1 h' => ?_⟩
  obtain ⟨⟨v, rfl, ty, m', hm', sem⟩, hup⟩ := h'
  obtain ⟨y, rfl⟩ : ∃ y : Int32, v = .inl y := ty
  have wD13 : 0 < wC w1 13 := by have := hup 13; omega
  refine wpn_ok (M := mZ) (C := cenZ) (X := (alk [])) (tb := tZ_12) (st := [1264]) eoZ XOk_nil kZ_12 60 _ _ _ _ _ _ ?_
  simp only [reduceCtorEq, fv0, fv1, fv2, fv3, bI_0, bI_1, bft, MSh_sI_eq, fsP_T, inL_0, inL_s, pad_0, pad_n, pad_s, wpn_s, wp1_s, lg_0, lg_s, lset_0, lset_s, kil_0, kil_s, st1_s, st2_s, isL_i, isL_l, isL_r, isL_n, spl_0, spl_s, cll_n, cll_s, catS_0, catS_s, jmp_s, alk_0, alk_s, otl_n, otl_s, List.nil_append, List.cons_append, List.contains_cons, List.contains_nil, Nat.reduceBEq, Bool.or_false, Bool.false_or, Bool.or_self, Bool.false_eq_true, Bool.true_or, Bool.or_true, if_true, if_false, ite_true, ite_false, ↓reduceIte, List.length_cons, List.length_nil, Nat.reduceAdd, Nat.reduceLT, Nat.reduceLeDiff, Nat.reduceEqDiff, Int.reduceAdd, Int.reduceLE, Int.toNat_natCast, Int.reduceToNat, Int.cast_ofNat_Int, true_and, and_true, false_and, and_false, true_implies, forall_const, eq_self, and_self, or_true, true_or, or_self, false_or, or_false, yI_sI, yR_sI, yC_sI, yN_sI, yI_sR, yR_sR, yC_sR, yN_sR, not_true_eq_false, not_false_eq_true, false_implies, implies_true, Nat.zero_add, Nat.add_zero, Nat.le_refl, Nat.reduceSub, Int.reduceSub, Int.reduceLT, Int.sub_zero, Int.sub_self, List.getElem?_toArray, List.getElem?_cons_zero, List.getElem?_cons_succ, Int.toNat_zero, Int.toNat_one, Int.lt_irrefl, pZ_12_634, stp_aload_n, pZ_12_635, pZ_12_636, stp_iload_n, pZ_12_637, stp_iconst, ic_1, pZ_12_638, stp_iadd, pZ_12_639, stp_iaload, pZ_12_640, pZ_12_641, pZ_12_642, ic_2, pZ_12_643, pZ_12_644, pZ_12_645, stp_invokevirtual, qmZ_66, cy_S_feed, pZ_12_648, pZ_12_649, pZ_12_650, pZ_12_651, pZ_12_652, pZ_12_653, pZ_12_654, pZ_12_655, pZ_12_656, pZ_12_657, pZ_12_658, pZ_12_659, qmZ_69, cy_M_feed, pZ_12_662, stp_if_icmp_eq, pZ_12_665, ic_0, pZ_12_666, stp_ireturn, wD13, Option.toList_some, v1, c1, v2, c2]
  refine ⟨m', 0, 0, by omega, by omega, by omega, sem.mono fun rr w2 h' => ?_⟩
  obtain ⟨rfl, hI⟩ := h'
  refine wpn_ok (M := mZ) (C := cenZ) (X := (alk [])) (tb := tZ_12) (st := [1264]) eoZ XOk_nil kZ_12 60 _ _ _ _ _ _ ?_
  simp only [reduceCtorEq, fv0, fv1, fv2, fv3, bI_0, bI_1, bft, MSh_sI_eq, fsP_T, inL_0, inL_s, pad_0, pad_n, pad_s, wpn_s, wp1_s, lg_0, lg_s, lset_0, lset_s, kil_0, kil_s, st1_s, st2_s, isL_i, isL_l, isL_r, isL_n, spl_0, spl_s, cll_n, cll_s, catS_0, catS_s, jmp_s, alk_0, alk_s, otl_n, otl_s, List.nil_append, List.cons_append, List.contains_cons, List.contains_nil, Nat.reduceBEq, Bool.or_false, Bool.false_or, Bool.or_self, Bool.false_eq_true, Bool.true_or, Bool.or_true, if_true, if_false, ite_true, ite_false, ↓reduceIte, List.length_cons, List.length_nil, Nat.reduceAdd, Nat.reduceLT, Nat.reduceLeDiff, Nat.reduceEqDiff, Int.reduceAdd, Int.reduceLE, Int.toNat_natCast, Int.reduceToNat, Int.cast_ofNat_Int, true_and, and_true, false_and, and_false, true_implies, forall_const, eq_self, and_self, or_true, true_or, or_self, false_or, or_false, yI_sI, yR_sI, yC_sI, yN_sI, yI_sR, yR_sR, yC_sR, yN_sR, not_true_eq_false, not_false_eq_true, false_implies, implies_true, Nat.zero_add, Nat.add_zero, Nat.le_refl, Nat.reduceSub, Int.reduceSub, Int.reduceLT, Int.sub_zero, Int.sub_self, List.getElem?_toArray, List.getElem?_cons_zero, List.getElem?_cons_succ, Int.toNat_zero, Int.toNat_one, Int.lt_irrefl, pZ_12_634, stp_aload_n, pZ_12_635, pZ_12_636, stp_iload_n, pZ_12_637, stp_iconst, ic_1, pZ_12_638, stp_iadd, pZ_12_639, stp_iaload, pZ_12_640, pZ_12_641, pZ_12_642, ic_2, pZ_12_643, pZ_12_644, pZ_12_645, stp_invokevirtual, qmZ_66, cy_S_feed, pZ_12_648, pZ_12_649, pZ_12_650, pZ_12_651, pZ_12_652, pZ_12_653, pZ_12_654, pZ_12_655, pZ_12_656, pZ_12_657, pZ_12_658, pZ_12_659, qmZ_69, cy_M_feed, pZ_12_662, stp_if_icmp_eq, pZ_12_665, ic_0, pZ_12_666, stp_ireturn, Option.toList_some]
  exact ih _ _ _ (by omega) (by omega) hI
end
def tZ_13 : TB := [(667, .aload_n 1, 1), (668, .invokevirtual 70, 3), (671, .aload_n 2, 1), (672, .invokevirtual 74, 3), (675, .if_icmp .eq 589, 3), (678, .iconst 0, 1), (679, .ireturn, 1)]
set_option maxRecDepth 100000 in
theorem kZ_13 : tbOk (mB mZ) tZ_13 = true := by decide +kernel
theorem pZ_13_667 : alk tZ_13 667 = some (.aload_n 1, 1) := (rfl)
theorem pZ_13_668 : alk tZ_13 668 = some (.invokevirtual 70, 3) := (rfl)
theorem pZ_13_671 : alk tZ_13 671 = some (.aload_n 2, 1) := (rfl)
theorem pZ_13_672 : alk tZ_13 672 = some (.invokevirtual 74, 3) := (rfl)
theorem pZ_13_675 : alk tZ_13 675 = some (.if_icmp .eq 589, 3) := (rfl)
theorem pZ_13_678 : alk tZ_13 678 = some (.iconst 0, 1) := (rfl)
theorem pZ_13_679 : alk tZ_13 679 = some (.ireturn, 1) := (rfl)
section
variable {l : Launch} {G : Gc} {mc ms : Nat} {Q : Option AV → Wd → Prop} {w : Wd}
set_option maxRecDepth 100000 in
set_option maxHeartbeats 4000000 in
theorem lcZ_13 {c i cu su : Nat} (h : Inv c w) (hc : c < 1000) (hi : i + 6 ≤ gL G) (hL : gL G ≤ 3072) (h1 : cu + 8 ≤ mc) (h2 : su + 100 ≤ ms) (ih : ∀ w' cu' su', cu' ≤ cu + 8 → su' ≤ su + 100 → Inv (c + 1) w' → WP l G mZ 40 mc ms Q 1264 [some (.inr (.inr (some (901, 0)))), some (.inr (.inr (some (0, 0)))), some (.inr (.inr (some (13, 0)))), some (.inl (nI i))] [] w' cu' su') : WP l G mZ 40 mc ms Q 667 [some (.inr (.inr (some (901, 0)))), some (.inr (.inr (some (0, 0)))), some (.inr (.inr (some (13, 0)))), some (.inl (nI i))] [] w cu su := by
  have wC0 := ss_C0 (iv_S h)
  have wC13 : wC w 13 = 1 := (iv_M h).1.1
  obtain ⟨n', hn', call⟩ := ca_wipe (l := l) (G := G) h 
  refine wpn_ok (M := mZ) (C := cenZ) (X := (alk [])) (tb := tZ_13) (st := [1264]) eoZ XOk_nil kZ_13 60 _ _ _ _ _ _ ?_
  simp only [reduceCtorEq, fv0, fv1, fv2, fv3, bI_0, bI_1, bft, MSh_sI_eq, fsP_T, inL_0, inL_s, pad_0, pad_n, pad_s, wpn_s, wp1_s, lg_0, lg_s, lset_0, lset_s, kil_0, kil_s, st1_s, st2_s, isL_i, isL_l, isL_r, isL_n, spl_0, spl_s, cll_n, cll_s, catS_0, catS_s, jmp_s, alk_0, alk_s, otl_n, otl_s, List.nil_append, List.cons_append, List.contains_cons, List.contains_nil, Nat.reduceBEq, Bool.or_false, Bool.false_or, Bool.or_self, Bool.false_eq_true, Bool.true_or, Bool.or_true, if_true, if_false, ite_true, ite_false, ↓reduceIte, List.length_cons, List.length_nil, Nat.reduceAdd, Nat.reduceLT, Nat.reduceLeDiff, Nat.reduceEqDiff, Int.reduceAdd, Int.reduceLE, Int.toNat_natCast, Int.reduceToNat, Int.cast_ofNat_Int, true_and, and_true, false_and, and_false, true_implies, forall_const, eq_self, and_self, or_true, true_or, or_self, false_or, or_false, yI_sI, yR_sI, yC_sI, yN_sI, yI_sR, yR_sR, yC_sR, yN_sR, not_true_eq_false, not_false_eq_true, false_implies, implies_true, Nat.zero_add, Nat.add_zero, Nat.le_refl, Nat.reduceSub, Int.reduceSub, Int.reduceLT, Int.sub_zero, Int.sub_self, List.getElem?_toArray, List.getElem?_cons_zero, List.getElem?_cons_succ, Int.toNat_zero, Int.toNat_one, Int.lt_irrefl, pZ_13_667, stp_aload_n, pZ_13_668, stp_invokevirtual, qmZ_70, cy_S_wipe, pZ_13_671, pZ_13_672, qmZ_74, cy_M_wipe, pZ_13_675, stp_if_icmp_eq, pZ_13_678, stp_iconst, ic_0, pZ_13_679, stp_ireturn, wC0, wC13]
  refine ⟨n', 8, 100, by omega, h1, h2, call.up.mono fun rr w1 h' => ?_⟩
  obtain ⟨⟨v, rfl, ty, m', hm', sem⟩, hup⟩ := h'
  obtain ⟨y, rfl⟩ : ∃ y : Int32, v = .inl y := ty
  have wD13 : 0 < wC w1 13 := by have := hup 13; omega
  refine wpn_ok (M := mZ) (C := cenZ) (X := (alk [])) (tb := tZ_13) (st := [1264]) eoZ XOk_nil kZ_13 60 _ _ _ _ _ _ ?_
  simp only [reduceCtorEq, fv0, fv1, fv2, fv3, bI_0, bI_1, bft, MSh_sI_eq, fsP_T, inL_0, inL_s, pad_0, pad_n, pad_s, wpn_s, wp1_s, lg_0, lg_s, lset_0, lset_s, kil_0, kil_s, st1_s, st2_s, isL_i, isL_l, isL_r, isL_n, spl_0, spl_s, cll_n, cll_s, catS_0, catS_s, jmp_s, alk_0, alk_s, otl_n, otl_s, List.nil_append, List.cons_append, List.contains_cons, List.contains_nil, Nat.reduceBEq, Bool.or_false, Bool.false_or, Bool.or_self, Bool.false_eq_true, Bool.true_or, Bool.or_true, if_true, if_false, ite_true, ite_false, ↓reduceIte, List.length_cons, List.length_nil, Nat.reduceAdd, Nat.reduceLT, Nat.reduceLeDiff, Nat.reduceEqDiff, Int.reduceAdd, Int.reduceLE, Int.toNat_natCast, Int.reduceToNat, Int.cast_ofNat_Int, true_and, and_true, false_and, and_false, true_implies, forall_const, eq_self, and_self, or_true, true_or, or_self, false_or, or_false, yI_sI, yR_sI, yC_sI, yN_sI, yI_sR, yR_sR, yC_sR, yN_sR, not_true_eq_false, not_false_eq_true, false_implies, implies_true, Nat.zero_add, Nat.add_zero, Nat.le_refl, Nat.reduceSub, Int.reduceSub, Int.reduceLT, Int.sub_zero, Int.sub_self, List.getElem?_toArray, List.getElem?_cons_zero, List.getElem?_cons_succ, Int.toNat_zero, Int.toNat_one, Int.lt_irrefl, pZ_13_667, stp_aload_n, pZ_13_668, stp_invokevirtual, qmZ_70, cy_S_wipe, pZ_13_671, pZ_13_672, qmZ_74, cy_M_wipe, pZ_13_675, stp_if_icmp_eq, pZ_13_678, stp_iconst, ic_0, pZ_13_679, stp_ireturn, wD13, Option.toList_some]
  refine ⟨m', 0, 0, by omega, by omega, by omega, sem.mono fun rr w2 h' => ?_⟩
  obtain ⟨rfl, hI⟩ := h'
  refine wpn_ok (M := mZ) (C := cenZ) (X := (alk [])) (tb := tZ_13) (st := [1264]) eoZ XOk_nil kZ_13 60 _ _ _ _ _ _ ?_
  simp only [reduceCtorEq, fv0, fv1, fv2, fv3, bI_0, bI_1, bft, MSh_sI_eq, fsP_T, inL_0, inL_s, pad_0, pad_n, pad_s, wpn_s, wp1_s, lg_0, lg_s, lset_0, lset_s, kil_0, kil_s, st1_s, st2_s, isL_i, isL_l, isL_r, isL_n, spl_0, spl_s, cll_n, cll_s, catS_0, catS_s, jmp_s, alk_0, alk_s, otl_n, otl_s, List.nil_append, List.cons_append, List.contains_cons, List.contains_nil, Nat.reduceBEq, Bool.or_false, Bool.false_or, Bool.or_self, Bool.false_eq_true, Bool.true_or, Bool.or_true, if_true, if_false, ite_true, ite_false, ↓reduceIte, List.length_cons, List.length_nil, Nat.reduceAdd, Nat.reduceLT, Nat.reduceLeDiff, Nat.reduceEqDiff, Int.reduceAdd, Int.reduceLE, Int.toNat_natCast, Int.reduceToNat, Int.cast_ofNat_Int, true_and, and_true, false_and, and_false, true_implies, forall_const, eq_self, and_self, or_true, true_or, or_self, false_or, or_false, yI_sI, yR_sI, yC_sI, yN_sI, yI_sR, yR_sR, yC_sR, yN_sR, not_true_eq_false, not_false_eq_true, false_implies, implies_true, Nat.zero_add, Nat.add_zero, Nat.le_refl, Nat.reduceSub, Int.reduceSub, Int.reduceLT, Int.sub_zero, Int.sub_self, List.getElem?_toArray, List.getElem?_cons_zero, List.getElem?_cons_succ, Int.toNat_zero, Int.toNat_one, Int.lt_irrefl, pZ_13_667, stp_aload_n, pZ_13_668, stp_invokevirtual, qmZ_70, cy_S_wipe, pZ_13_671, pZ_13_672, qmZ_74, cy_M_wipe, pZ_13_675, stp_if_icmp_eq, pZ_13_678, stp_iconst, ic_0, pZ_13_679, stp_ireturn, Option.toList_some]
  exact ih _ _ _ (by omega) (by omega) hI
end
def tZ_14 : TB := [(680, .aload_n 1, 1), (681, .aload_n 0, 1), (682, .iload_n 3, 1), (683, .iconst 1, 1), (684, .iadd, 1), (685, .iaload, 1), (686, .aload_n 0, 1), (687, .iload_n 3, 1), (688, .iconst 2, 1), (689, .iadd, 1), (690, .iaload, 1), (691, .invokevirtual 75, 3), (694, .aload_n 2, 1), (695, .aload_n 0, 1), (696, .iload_n 3, 1), (697, .iconst 1, 1), (698, .iadd, 1), (699, .iaload, 1), (700, .aload_n 0, 1), (701, .iload_n 3, 1), (702, .iconst 2, 1), (703, .iadd, 1), (704, .iaload, 1), (705, .invokevirtual 78, 3), (708, .if_icmp .eq 556, 3), (711, .iconst 0, 1), (712, .ireturn, 1)]
set_option maxRecDepth 100000 in
theorem kZ_14 : tbOk (mB mZ) tZ_14 = true := by decide +kernel
theorem pZ_14_680 : alk tZ_14 680 = some (.aload_n 1, 1) := (rfl)
theorem pZ_14_681 : alk tZ_14 681 = some (.aload_n 0, 1) := (rfl)
theorem pZ_14_682 : alk tZ_14 682 = some (.iload_n 3, 1) := (rfl)
theorem pZ_14_683 : alk tZ_14 683 = some (.iconst 1, 1) := (rfl)
theorem pZ_14_684 : alk tZ_14 684 = some (.iadd, 1) := (rfl)
theorem pZ_14_685 : alk tZ_14 685 = some (.iaload, 1) := (rfl)
theorem pZ_14_686 : alk tZ_14 686 = some (.aload_n 0, 1) := (rfl)
theorem pZ_14_687 : alk tZ_14 687 = some (.iload_n 3, 1) := (rfl)
theorem pZ_14_688 : alk tZ_14 688 = some (.iconst 2, 1) := (rfl)
theorem pZ_14_689 : alk tZ_14 689 = some (.iadd, 1) := (rfl)
theorem pZ_14_690 : alk tZ_14 690 = some (.iaload, 1) := (rfl)
theorem pZ_14_691 : alk tZ_14 691 = some (.invokevirtual 75, 3) := (rfl)
theorem pZ_14_694 : alk tZ_14 694 = some (.aload_n 2, 1) := (rfl)
theorem pZ_14_695 : alk tZ_14 695 = some (.aload_n 0, 1) := (rfl)
theorem pZ_14_696 : alk tZ_14 696 = some (.iload_n 3, 1) := (rfl)
theorem pZ_14_697 : alk tZ_14 697 = some (.iconst 1, 1) := (rfl)
theorem pZ_14_698 : alk tZ_14 698 = some (.iadd, 1) := (rfl)
theorem pZ_14_699 : alk tZ_14 699 = some (.iaload, 1) := (rfl)
theorem pZ_14_700 : alk tZ_14 700 = some (.aload_n 0, 1) := (rfl)
theorem pZ_14_701 : alk tZ_14 701 = some (.iload_n 3, 1) := (rfl)
theorem pZ_14_702 : alk tZ_14 702 = some (.iconst 2, 1) := (rfl)
theorem pZ_14_703 : alk tZ_14 703 = some (.iadd, 1) := (rfl)
theorem pZ_14_704 : alk tZ_14 704 = some (.iaload, 1) := (rfl)
theorem pZ_14_705 : alk tZ_14 705 = some (.invokevirtual 78, 3) := (rfl)
theorem pZ_14_708 : alk tZ_14 708 = some (.if_icmp .eq 556, 3) := (rfl)
theorem pZ_14_711 : alk tZ_14 711 = some (.iconst 0, 1) := (rfl)
theorem pZ_14_712 : alk tZ_14 712 = some (.ireturn, 1) := (rfl)
section
variable {l : Launch} {G : Gc} {mc ms : Nat} {Q : Option AV → Wd → Prop} {w : Wd}
set_option maxRecDepth 100000 in
set_option maxHeartbeats 4000000 in
theorem lcZ_14 {c i cu su : Nat} (h : Inv c w) (hc : c < 1000) (hi : i + 6 ≤ gL G) (hL : gL G ≤ 3072) (h1 : cu + 8 ≤ mc) (h2 : su + 100 ≤ ms) (ih : ∀ w' cu' su', cu' ≤ cu + 8 → su' ≤ su + 100 → Inv (c + 1) w' → WP l G mZ 40 mc ms Q 1264 [some (.inr (.inr (some (901, 0)))), some (.inr (.inr (some (0, 0)))), some (.inr (.inr (some (13, 0)))), some (.inl (nI i))] [] w' cu' su') : WP l G mZ 40 mc ms Q 680 [some (.inr (.inr (some (901, 0)))), some (.inr (.inr (some (0, 0)))), some (.inr (.inr (some (13, 0)))), some (.inl (nI i))] [] w cu su := by
  have wC0 := ss_C0 (iv_S h)
  have wC13 : wC w 13 = 1 := (iv_M h).1.1
  have v1 : vp_in (nI i + 1) (gL G) := by rw [show nI i + 1 = nI (i + 1) from nI_add i 1]; exact vp_in_nI (by omega) (by omega)
  have c1 : (nI i + 1).toNatClampNeg = i + 1 := by rw [show nI i + 1 = nI (i + 1) from nI_add i 1]; exact nI_clamp (by omega)
  have v2 : vp_in (nI i + 2) (gL G) := by rw [show nI i + 2 = nI (i + 2) from nI_add i 2]; exact vp_in_nI (by omega) (by omega)
  have c2 : (nI i + 2).toNatClampNeg = i + 2 := by rw [show nI i + 2 = nI (i + 2) from nI_add i 2]; exact nI_clamp (by omega)
  obtain ⟨n', hn', call⟩ := ca_rule (l := l) (G := G) h (gS G (i + 1)) (gS G (i + 2))
  refine wpn_ok (M := mZ) (C := cenZ) (X := (alk [])) (tb := tZ_14) (st := [1264]) eoZ XOk_nil kZ_14 60 _ _ _ _ _ _ ?_
  simp only [reduceCtorEq, fv0, fv1, fv2, fv3, bI_0, bI_1, bft, MSh_sI_eq, fsP_T, inL_0, inL_s, pad_0, pad_n, pad_s, wpn_s, wp1_s, lg_0, lg_s, lset_0, lset_s, kil_0, kil_s, st1_s, st2_s, isL_i, isL_l, isL_r, isL_n, spl_0, spl_s, cll_n, cll_s, catS_0, catS_s, jmp_s, alk_0, alk_s, otl_n, otl_s, List.nil_append, List.cons_append, List.contains_cons, List.contains_nil, Nat.reduceBEq, Bool.or_false, Bool.false_or, Bool.or_self, Bool.false_eq_true, Bool.true_or, Bool.or_true, if_true, if_false, ite_true, ite_false, ↓reduceIte, List.length_cons, List.length_nil, Nat.reduceAdd, Nat.reduceLT, Nat.reduceLeDiff, Nat.reduceEqDiff, Int.reduceAdd, Int.reduceLE, Int.toNat_natCast, Int.reduceToNat, Int.cast_ofNat_Int, true_and, and_true, false_and, and_false, true_implies, forall_const, eq_self, and_self, or_true, true_or, or_self, false_or, or_false, yI_sI, yR_sI, yC_sI, yN_sI, yI_sR, yR_sR, yC_sR, yN_sR, not_true_eq_false, not_false_eq_true, false_implies, implies_true, Nat.zero_add, Nat.add_zero, Nat.le_refl, Nat.reduceSub, Int.reduceSub, Int.reduceLT, Int.sub_zero, Int.sub_self, List.getElem?_toArray, List.getElem?_cons_zero, List.getElem?_cons_succ, Int.toNat_zero, Int.toNat_one, Int.lt_irrefl, pZ_14_680, stp_aload_n, pZ_14_681, pZ_14_682, stp_iload_n, pZ_14_683, stp_iconst, ic_1, pZ_14_684, stp_iadd, pZ_14_685, stp_iaload, pZ_14_686, pZ_14_687, pZ_14_688, ic_2, pZ_14_689, pZ_14_690, pZ_14_691, stp_invokevirtual, qmZ_75, cy_S_rule, pZ_14_694, pZ_14_695, pZ_14_696, pZ_14_697, pZ_14_698, pZ_14_699, pZ_14_700, pZ_14_701, pZ_14_702, pZ_14_703, pZ_14_704, pZ_14_705, qmZ_78, cy_M_rule, pZ_14_708, stp_if_icmp_eq, pZ_14_711, ic_0, pZ_14_712, stp_ireturn, wC0, wC13, v1, c1, v2, c2]
  refine ⟨n', 8, 100, by omega, h1, h2, call.up.mono fun rr w1 h' => ?_⟩
  obtain ⟨⟨v, rfl, ty, m', hm', sem⟩, hup⟩ := h'
  obtain ⟨y, rfl⟩ : ∃ y : Int32, v = .inl y := ty
  have wD13 : 0 < wC w1 13 := by have := hup 13; omega
  refine wpn_ok (M := mZ) (C := cenZ) (X := (alk [])) (tb := tZ_14) (st := [1264]) eoZ XOk_nil kZ_14 60 _ _ _ _ _ _ ?_
  simp only [reduceCtorEq, fv0, fv1, fv2, fv3, bI_0, bI_1, bft, MSh_sI_eq, fsP_T, inL_0, inL_s, pad_0, pad_n, pad_s, wpn_s, wp1_s, lg_0, lg_s, lset_0, lset_s, kil_0, kil_s, st1_s, st2_s, isL_i, isL_l, isL_r, isL_n, spl_0, spl_s, cll_n, cll_s, catS_0, catS_s, jmp_s, alk_0, alk_s, otl_n, otl_s, List.nil_append, List.cons_append, List.contains_cons, List.contains_nil, Nat.reduceBEq, Bool.or_false, Bool.false_or, Bool.or_self, Bool.false_eq_true, Bool.true_or, Bool.or_true, if_true, if_false, ite_true, ite_false, ↓reduceIte, List.length_cons, List.length_nil, Nat.reduceAdd, Nat.reduceLT, Nat.reduceLeDiff, Nat.reduceEqDiff, Int.reduceAdd, Int.reduceLE, Int.toNat_natCast, Int.reduceToNat, Int.cast_ofNat_Int, true_and, and_true, false_and, and_false, true_implies, forall_const, eq_self, and_self, or_true, true_or, or_self, false_or, or_false, yI_sI, yR_sI, yC_sI, yN_sI, yI_sR, yR_sR, yC_sR, yN_sR, not_true_eq_false, not_false_eq_true, false_implies, implies_true, Nat.zero_add, Nat.add_zero, Nat.le_refl, Nat.reduceSub, Int.reduceSub, Int.reduceLT, Int.sub_zero, Int.sub_self, List.getElem?_toArray, List.getElem?_cons_zero, List.getElem?_cons_succ, Int.toNat_zero, Int.toNat_one, Int.lt_irrefl, pZ_14_680, stp_aload_n, pZ_14_681, pZ_14_682, stp_iload_n, pZ_14_683, stp_iconst, ic_1, pZ_14_684, stp_iadd, pZ_14_685, stp_iaload, pZ_14_686, pZ_14_687, pZ_14_688, ic_2, pZ_14_689, pZ_14_690, pZ_14_691, stp_invokevirtual, qmZ_75, cy_S_rule, pZ_14_694, pZ_14_695, pZ_14_696, pZ_14_697, pZ_14_698, pZ_14_699, pZ_14_700, pZ_14_701, pZ_14_702, pZ_14_703, pZ_14_704, pZ_14_705, qmZ_78, cy_M_rule, pZ_14_708, stp_if_icmp_eq, pZ_14_711, ic_0, pZ_14_712, stp_ireturn, wD13, Option.toList_some, v1, c1, v2, c2]
  refine ⟨m', 0, 0, by omega, by omega, by omega, sem.mono fun rr w2 h' => ?_⟩
  obtain ⟨rfl, hI⟩ := h'
  refine wpn_ok (M := mZ) (C := cenZ) (X := (alk [])) (tb := tZ_14) (st := [1264]) eoZ XOk_nil kZ_14 60 _ _ _ _ _ _ ?_
  simp only [reduceCtorEq, fv0, fv1, fv2, fv3, bI_0, bI_1, bft, MSh_sI_eq, fsP_T, inL_0, inL_s, pad_0, pad_n, pad_s, wpn_s, wp1_s, lg_0, lg_s, lset_0, lset_s, kil_0, kil_s, st1_s, st2_s, isL_i, isL_l, isL_r, isL_n, spl_0, spl_s, cll_n, cll_s, catS_0, catS_s, jmp_s, alk_0, alk_s, otl_n, otl_s, List.nil_append, List.cons_append, List.contains_cons, List.contains_nil, Nat.reduceBEq, Bool.or_false, Bool.false_or, Bool.or_self, Bool.false_eq_true, Bool.true_or, Bool.or_true, if_true, if_false, ite_true, ite_false, ↓reduceIte, List.length_cons, List.length_nil, Nat.reduceAdd, Nat.reduceLT, Nat.reduceLeDiff, Nat.reduceEqDiff, Int.reduceAdd, Int.reduceLE, Int.toNat_natCast, Int.reduceToNat, Int.cast_ofNat_Int, true_and, and_true, false_and, and_false, true_implies, forall_const, eq_self, and_self, or_true, true_or, or_self, false_or, or_false, yI_sI, yR_sI, yC_sI, yN_sI, yI_sR, yR_sR, yC_sR, yN_sR, not_true_eq_false, not_false_eq_true, false_implies, implies_true, Nat.zero_add, Nat.add_zero, Nat.le_refl, Nat.reduceSub, Int.reduceSub, Int.reduceLT, Int.sub_zero, Int.sub_self, List.getElem?_toArray, List.getElem?_cons_zero, List.getElem?_cons_succ, Int.toNat_zero, Int.toNat_one, Int.lt_irrefl, pZ_14_680, stp_aload_n, pZ_14_681, pZ_14_682, stp_iload_n, pZ_14_683, stp_iconst, ic_1, pZ_14_684, stp_iadd, pZ_14_685, stp_iaload, pZ_14_686, pZ_14_687, pZ_14_688, ic_2, pZ_14_689, pZ_14_690, pZ_14_691, stp_invokevirtual, qmZ_75, cy_S_rule, pZ_14_694, pZ_14_695, pZ_14_696, pZ_14_697, pZ_14_698, pZ_14_699, pZ_14_700, pZ_14_701, pZ_14_702, pZ_14_703, pZ_14_704, pZ_14_705, qmZ_78, cy_M_rule, pZ_14_708, stp_if_icmp_eq, pZ_14_711, ic_0, pZ_14_712, stp_ireturn, Option.toList_some]
  exact ih _ _ _ (by omega) (by omega) hI
end
def tZ_15 : TB := [(713, .aload_n 1, 1), (714, .aload_n 0, 1), (715, .iload_n 3, 1), (716, .iconst 1, 1), (717, .iadd, 1), (718, .iaload, 1), (719, .aload_n 0, 1), (720, .iload_n 3, 1), (721, .iconst 2, 1), (722, .iadd, 1), (723, .iaload, 1), (724, .aload_n 0, 1), (725, .iload_n 3, 1), (726, .iconst 3, 1), (727, .iadd, 1), (728, .iaload, 1), (729, .invokevirtual 79, 3), (732, .aload_n 2, 1), (733, .aload_n 0, 1), (734, .iload_n 3, 1), (735, .iconst 1, 1), (736, .iadd, 1), (737, .iaload, 1), (738, .aload_n 0, 1), (739, .iload_n 3, 1), (740, .iconst 2, 1), (741, .iadd, 1), (742, .iaload, 1), (743, .aload_n 0, 1), (744, .iload_n 3, 1), (745, .iconst 3, 1), (746, .iadd, 1), (747, .iaload, 1), (748, .invokevirtual 82, 3), (751, .if_icmp .eq 513, 3), (754, .iconst 0, 1), (755, .ireturn, 1)]
set_option maxRecDepth 100000 in
theorem kZ_15 : tbOk (mB mZ) tZ_15 = true := by decide +kernel
theorem pZ_15_713 : alk tZ_15 713 = some (.aload_n 1, 1) := (rfl)
theorem pZ_15_714 : alk tZ_15 714 = some (.aload_n 0, 1) := (rfl)
theorem pZ_15_715 : alk tZ_15 715 = some (.iload_n 3, 1) := (rfl)
theorem pZ_15_716 : alk tZ_15 716 = some (.iconst 1, 1) := (rfl)
theorem pZ_15_717 : alk tZ_15 717 = some (.iadd, 1) := (rfl)
theorem pZ_15_718 : alk tZ_15 718 = some (.iaload, 1) := (rfl)
theorem pZ_15_719 : alk tZ_15 719 = some (.aload_n 0, 1) := (rfl)
theorem pZ_15_720 : alk tZ_15 720 = some (.iload_n 3, 1) := (rfl)
theorem pZ_15_721 : alk tZ_15 721 = some (.iconst 2, 1) := (rfl)
theorem pZ_15_722 : alk tZ_15 722 = some (.iadd, 1) := (rfl)
theorem pZ_15_723 : alk tZ_15 723 = some (.iaload, 1) := (rfl)
theorem pZ_15_724 : alk tZ_15 724 = some (.aload_n 0, 1) := (rfl)
theorem pZ_15_725 : alk tZ_15 725 = some (.iload_n 3, 1) := (rfl)
theorem pZ_15_726 : alk tZ_15 726 = some (.iconst 3, 1) := (rfl)
theorem pZ_15_727 : alk tZ_15 727 = some (.iadd, 1) := (rfl)
theorem pZ_15_728 : alk tZ_15 728 = some (.iaload, 1) := (rfl)
theorem pZ_15_729 : alk tZ_15 729 = some (.invokevirtual 79, 3) := (rfl)
theorem pZ_15_732 : alk tZ_15 732 = some (.aload_n 2, 1) := (rfl)
theorem pZ_15_733 : alk tZ_15 733 = some (.aload_n 0, 1) := (rfl)
theorem pZ_15_734 : alk tZ_15 734 = some (.iload_n 3, 1) := (rfl)
theorem pZ_15_735 : alk tZ_15 735 = some (.iconst 1, 1) := (rfl)
theorem pZ_15_736 : alk tZ_15 736 = some (.iadd, 1) := (rfl)
theorem pZ_15_737 : alk tZ_15 737 = some (.iaload, 1) := (rfl)
theorem pZ_15_738 : alk tZ_15 738 = some (.aload_n 0, 1) := (rfl)
theorem pZ_15_739 : alk tZ_15 739 = some (.iload_n 3, 1) := (rfl)
theorem pZ_15_740 : alk tZ_15 740 = some (.iconst 2, 1) := (rfl)
theorem pZ_15_741 : alk tZ_15 741 = some (.iadd, 1) := (rfl)
theorem pZ_15_742 : alk tZ_15 742 = some (.iaload, 1) := (rfl)
theorem pZ_15_743 : alk tZ_15 743 = some (.aload_n 0, 1) := (rfl)
theorem pZ_15_744 : alk tZ_15 744 = some (.iload_n 3, 1) := (rfl)
theorem pZ_15_745 : alk tZ_15 745 = some (.iconst 3, 1) := (rfl)
theorem pZ_15_746 : alk tZ_15 746 = some (.iadd, 1) := (rfl)
theorem pZ_15_747 : alk tZ_15 747 = some (.iaload, 1) := (rfl)
theorem pZ_15_748 : alk tZ_15 748 = some (.invokevirtual 82, 3) := (rfl)
theorem pZ_15_751 : alk tZ_15 751 = some (.if_icmp .eq 513, 3) := (rfl)
theorem pZ_15_754 : alk tZ_15 754 = some (.iconst 0, 1) := (rfl)
theorem pZ_15_755 : alk tZ_15 755 = some (.ireturn, 1) := (rfl)
section
variable {l : Launch} {G : Gc} {mc ms : Nat} {Q : Option AV → Wd → Prop} {w : Wd}
set_option maxRecDepth 100000 in
set_option maxHeartbeats 4000000 in
theorem lcZ_15 {c i cu su : Nat} (h : Inv c w) (hc : c < 1000) (hi : i + 6 ≤ gL G) (hL : gL G ≤ 3072) (h1 : cu + 8 ≤ mc) (h2 : su + 100 ≤ ms) (ih : ∀ w' cu' su', cu' ≤ cu + 8 → su' ≤ su + 100 → Inv (c + 1) w' → WP l G mZ 40 mc ms Q 1264 [some (.inr (.inr (some (901, 0)))), some (.inr (.inr (some (0, 0)))), some (.inr (.inr (some (13, 0)))), some (.inl (nI i))] [] w' cu' su') : WP l G mZ 40 mc ms Q 713 [some (.inr (.inr (some (901, 0)))), some (.inr (.inr (some (0, 0)))), some (.inr (.inr (some (13, 0)))), some (.inl (nI i))] [] w cu su := by
  have wC0 := ss_C0 (iv_S h)
  have wC13 : wC w 13 = 1 := (iv_M h).1.1
  have v1 : vp_in (nI i + 1) (gL G) := by rw [show nI i + 1 = nI (i + 1) from nI_add i 1]; exact vp_in_nI (by omega) (by omega)
  have c1 : (nI i + 1).toNatClampNeg = i + 1 := by rw [show nI i + 1 = nI (i + 1) from nI_add i 1]; exact nI_clamp (by omega)
  have v2 : vp_in (nI i + 2) (gL G) := by rw [show nI i + 2 = nI (i + 2) from nI_add i 2]; exact vp_in_nI (by omega) (by omega)
  have c2 : (nI i + 2).toNatClampNeg = i + 2 := by rw [show nI i + 2 = nI (i + 2) from nI_add i 2]; exact nI_clamp (by omega)
  have v3 : vp_in (nI i + 3) (gL G) := by rw [show nI i + 3 = nI (i + 3) from nI_add i 3]; exact vp_in_nI (by omega) (by omega)
  have c3 : (nI i + 3).toNatClampNeg = i + 3 := by rw [show nI i + 3 = nI (i + 3) from nI_add i 3]; exact nI_clamp (by omega)
  obtain ⟨n', hn', call⟩ := ca_holds (l := l) (G := G) h hc (gS G (i + 1)) (gS G (i + 2)) (gS G (i + 3))
  refine wpn_ok (M := mZ) (C := cenZ) (X := (alk [])) (tb := tZ_15) (st := [1264]) eoZ XOk_nil kZ_15 60 _ _ _ _ _ _ ?_
  simp only [reduceCtorEq, fv0, fv1, fv2, fv3, bI_0, bI_1, bft, MSh_sI_eq, fsP_T, inL_0, inL_s, pad_0, pad_n, pad_s, wpn_s, wp1_s, lg_0, lg_s, lset_0, lset_s, kil_0, kil_s, st1_s, st2_s, isL_i, isL_l, isL_r, isL_n, spl_0, spl_s, cll_n, cll_s, catS_0, catS_s, jmp_s, alk_0, alk_s, otl_n, otl_s, List.nil_append, List.cons_append, List.contains_cons, List.contains_nil, Nat.reduceBEq, Bool.or_false, Bool.false_or, Bool.or_self, Bool.false_eq_true, Bool.true_or, Bool.or_true, if_true, if_false, ite_true, ite_false, ↓reduceIte, List.length_cons, List.length_nil, Nat.reduceAdd, Nat.reduceLT, Nat.reduceLeDiff, Nat.reduceEqDiff, Int.reduceAdd, Int.reduceLE, Int.toNat_natCast, Int.reduceToNat, Int.cast_ofNat_Int, true_and, and_true, false_and, and_false, true_implies, forall_const, eq_self, and_self, or_true, true_or, or_self, false_or, or_false, yI_sI, yR_sI, yC_sI, yN_sI, yI_sR, yR_sR, yC_sR, yN_sR, not_true_eq_false, not_false_eq_true, false_implies, implies_true, Nat.zero_add, Nat.add_zero, Nat.le_refl, Nat.reduceSub, Int.reduceSub, Int.reduceLT, Int.sub_zero, Int.sub_self, List.getElem?_toArray, List.getElem?_cons_zero, List.getElem?_cons_succ, Int.toNat_zero, Int.toNat_one, Int.lt_irrefl, pZ_15_713, stp_aload_n, pZ_15_714, pZ_15_715, stp_iload_n, pZ_15_716, stp_iconst, ic_1, pZ_15_717, stp_iadd, pZ_15_718, stp_iaload, pZ_15_719, pZ_15_720, pZ_15_721, ic_2, pZ_15_722, pZ_15_723, pZ_15_724, pZ_15_725, pZ_15_726, ic_3, pZ_15_727, pZ_15_728, pZ_15_729, stp_invokevirtual, qmZ_79, cy_S_holds, pZ_15_732, pZ_15_733, pZ_15_734, pZ_15_735, pZ_15_736, pZ_15_737, pZ_15_738, pZ_15_739, pZ_15_740, pZ_15_741, pZ_15_742, pZ_15_743, pZ_15_744, pZ_15_745, pZ_15_746, pZ_15_747, pZ_15_748, qmZ_82, cy_M_holds, pZ_15_751, stp_if_icmp_eq, pZ_15_754, ic_0, pZ_15_755, stp_ireturn, wC0, wC13, v1, c1, v2, c2, v3, c3]
  refine ⟨n', 8, 100, by omega, h1, h2, call.up.mono fun rr w1 h' => ?_⟩
  obtain ⟨⟨v, rfl, ty, m', hm', sem⟩, hup⟩ := h'
  obtain ⟨y, rfl⟩ : ∃ y : Int32, v = .inl y := ty
  have wD13 : 0 < wC w1 13 := by have := hup 13; omega
  refine wpn_ok (M := mZ) (C := cenZ) (X := (alk [])) (tb := tZ_15) (st := [1264]) eoZ XOk_nil kZ_15 60 _ _ _ _ _ _ ?_
  simp only [reduceCtorEq, fv0, fv1, fv2, fv3, bI_0, bI_1, bft, MSh_sI_eq, fsP_T, inL_0, inL_s, pad_0, pad_n, pad_s, wpn_s, wp1_s, lg_0, lg_s, lset_0, lset_s, kil_0, kil_s, st1_s, st2_s, isL_i, isL_l, isL_r, isL_n, spl_0, spl_s, cll_n, cll_s, catS_0, catS_s, jmp_s, alk_0, alk_s, otl_n, otl_s, List.nil_append, List.cons_append, List.contains_cons, List.contains_nil, Nat.reduceBEq, Bool.or_false, Bool.false_or, Bool.or_self, Bool.false_eq_true, Bool.true_or, Bool.or_true, if_true, if_false, ite_true, ite_false, ↓reduceIte, List.length_cons, List.length_nil, Nat.reduceAdd, Nat.reduceLT, Nat.reduceLeDiff, Nat.reduceEqDiff, Int.reduceAdd, Int.reduceLE, Int.toNat_natCast, Int.reduceToNat, Int.cast_ofNat_Int, true_and, and_true, false_and, and_false, true_implies, forall_const, eq_self, and_self, or_true, true_or, or_self, false_or, or_false, yI_sI, yR_sI, yC_sI, yN_sI, yI_sR, yR_sR, yC_sR, yN_sR, not_true_eq_false, not_false_eq_true, false_implies, implies_true, Nat.zero_add, Nat.add_zero, Nat.le_refl, Nat.reduceSub, Int.reduceSub, Int.reduceLT, Int.sub_zero, Int.sub_self, List.getElem?_toArray, List.getElem?_cons_zero, List.getElem?_cons_succ, Int.toNat_zero, Int.toNat_one, Int.lt_irrefl, pZ_15_713, stp_aload_n, pZ_15_714, pZ_15_715, stp_iload_n, pZ_15_716, stp_iconst, ic_1, pZ_15_717, stp_iadd, pZ_15_718, stp_iaload, pZ_15_719, pZ_15_720, pZ_15_721, ic_2, pZ_15_722, pZ_15_723, pZ_15_724, pZ_15_725, pZ_15_726, ic_3, pZ_15_727, pZ_15_728, pZ_15_729, stp_invokevirtual, qmZ_79, cy_S_holds, pZ_15_732, pZ_15_733, pZ_15_734, pZ_15_735, pZ_15_736, pZ_15_737, pZ_15_738, pZ_15_739, pZ_15_740, pZ_15_741, pZ_15_742, pZ_15_743, pZ_15_744, pZ_15_745, pZ_15_746, pZ_15_747, pZ_15_748, qmZ_82, cy_M_holds, pZ_15_751, stp_if_icmp_eq, pZ_15_754, ic_0, pZ_15_755, stp_ireturn, wD13, Option.toList_some, v1, c1, v2, c2, v3, c3]
  refine ⟨m', 0, 0, by omega, by omega, by omega, sem.mono fun rr w2 h' => ?_⟩
  obtain ⟨rfl, hI⟩ := h'
  refine wpn_ok (M := mZ) (C := cenZ) (X := (alk [])) (tb := tZ_15) (st := [1264]) eoZ XOk_nil kZ_15 60 _ _ _ _ _ _ ?_
  simp only [reduceCtorEq, fv0, fv1, fv2, fv3, bI_0, bI_1, bft, MSh_sI_eq, fsP_T, inL_0, inL_s, pad_0, pad_n, pad_s, wpn_s, wp1_s, lg_0, lg_s, lset_0, lset_s, kil_0, kil_s, st1_s, st2_s, isL_i, isL_l, isL_r, isL_n, spl_0, spl_s, cll_n, cll_s, catS_0, catS_s, jmp_s, alk_0, alk_s, otl_n, otl_s, List.nil_append, List.cons_append, List.contains_cons, List.contains_nil, Nat.reduceBEq, Bool.or_false, Bool.false_or, Bool.or_self, Bool.false_eq_true, Bool.true_or, Bool.or_true, if_true, if_false, ite_true, ite_false, ↓reduceIte, List.length_cons, List.length_nil, Nat.reduceAdd, Nat.reduceLT, Nat.reduceLeDiff, Nat.reduceEqDiff, Int.reduceAdd, Int.reduceLE, Int.toNat_natCast, Int.reduceToNat, Int.cast_ofNat_Int, true_and, and_true, false_and, and_false, true_implies, forall_const, eq_self, and_self, or_true, true_or, or_self, false_or, or_false, yI_sI, yR_sI, yC_sI, yN_sI, yI_sR, yR_sR, yC_sR, yN_sR, not_true_eq_false, not_false_eq_true, false_implies, implies_true, Nat.zero_add, Nat.add_zero, Nat.le_refl, Nat.reduceSub, Int.reduceSub, Int.reduceLT, Int.sub_zero, Int.sub_self, List.getElem?_toArray, List.getElem?_cons_zero, List.getElem?_cons_succ, Int.toNat_zero, Int.toNat_one, Int.lt_irrefl, pZ_15_713, stp_aload_n, pZ_15_714, pZ_15_715, stp_iload_n, pZ_15_716, stp_iconst, ic_1, pZ_15_717, stp_iadd, pZ_15_718, stp_iaload, pZ_15_719, pZ_15_720, pZ_15_721, ic_2, pZ_15_722, pZ_15_723, pZ_15_724, pZ_15_725, pZ_15_726, ic_3, pZ_15_727, pZ_15_728, pZ_15_729, stp_invokevirtual, qmZ_79, cy_S_holds, pZ_15_732, pZ_15_733, pZ_15_734, pZ_15_735, pZ_15_736, pZ_15_737, pZ_15_738, pZ_15_739, pZ_15_740, pZ_15_741, pZ_15_742, pZ_15_743, pZ_15_744, pZ_15_745, pZ_15_746, pZ_15_747, pZ_15_748, qmZ_82, cy_M_holds, pZ_15_751, stp_if_icmp_eq, pZ_15_754, ic_0, pZ_15_755, stp_ireturn, Option.toList_some]
  exact ih _ _ _ (by omega) (by omega) hI
end
def tZ_16 : TB := [(756, .aload_n 1, 1), (757, .aload_n 0, 1), (758, .iload_n 3, 1), (759, .iconst 1, 1), (760, .iadd, 1), (761, .iaload, 1), (762, .aload_n 0, 1), (763, .iload_n 3, 1), (764, .iconst 2, 1), (765, .iadd, 1), (766, .iaload, 1), (767, .invokevirtual 83, 3), (770, .aload_n 2, 1), (771, .aload_n 0, 1), (772, .iload_n 3, 1), (773, .iconst 1, 1), (774, .iadd, 1), (775, .iaload, 1), (776, .aload_n 0, 1), (777, .iload_n 3, 1), (778, .iconst 2, 1), (779, .iadd, 1), (780, .iaload, 1), (781, .invokevirtual 86, 3), (784, .if_icmp .eq 480, 3), (787, .iconst 0, 1), (788, .ireturn, 1)]
set_option maxRecDepth 100000 in
theorem kZ_16 : tbOk (mB mZ) tZ_16 = true := by decide +kernel
theorem pZ_16_756 : alk tZ_16 756 = some (.aload_n 1, 1) := (rfl)
theorem pZ_16_757 : alk tZ_16 757 = some (.aload_n 0, 1) := (rfl)
theorem pZ_16_758 : alk tZ_16 758 = some (.iload_n 3, 1) := (rfl)
theorem pZ_16_759 : alk tZ_16 759 = some (.iconst 1, 1) := (rfl)
theorem pZ_16_760 : alk tZ_16 760 = some (.iadd, 1) := (rfl)
theorem pZ_16_761 : alk tZ_16 761 = some (.iaload, 1) := (rfl)
theorem pZ_16_762 : alk tZ_16 762 = some (.aload_n 0, 1) := (rfl)
theorem pZ_16_763 : alk tZ_16 763 = some (.iload_n 3, 1) := (rfl)
theorem pZ_16_764 : alk tZ_16 764 = some (.iconst 2, 1) := (rfl)
theorem pZ_16_765 : alk tZ_16 765 = some (.iadd, 1) := (rfl)
theorem pZ_16_766 : alk tZ_16 766 = some (.iaload, 1) := (rfl)
theorem pZ_16_767 : alk tZ_16 767 = some (.invokevirtual 83, 3) := (rfl)
theorem pZ_16_770 : alk tZ_16 770 = some (.aload_n 2, 1) := (rfl)
theorem pZ_16_771 : alk tZ_16 771 = some (.aload_n 0, 1) := (rfl)
theorem pZ_16_772 : alk tZ_16 772 = some (.iload_n 3, 1) := (rfl)
theorem pZ_16_773 : alk tZ_16 773 = some (.iconst 1, 1) := (rfl)
theorem pZ_16_774 : alk tZ_16 774 = some (.iadd, 1) := (rfl)
theorem pZ_16_775 : alk tZ_16 775 = some (.iaload, 1) := (rfl)
theorem pZ_16_776 : alk tZ_16 776 = some (.aload_n 0, 1) := (rfl)
theorem pZ_16_777 : alk tZ_16 777 = some (.iload_n 3, 1) := (rfl)
theorem pZ_16_778 : alk tZ_16 778 = some (.iconst 2, 1) := (rfl)
theorem pZ_16_779 : alk tZ_16 779 = some (.iadd, 1) := (rfl)
theorem pZ_16_780 : alk tZ_16 780 = some (.iaload, 1) := (rfl)
theorem pZ_16_781 : alk tZ_16 781 = some (.invokevirtual 86, 3) := (rfl)
theorem pZ_16_784 : alk tZ_16 784 = some (.if_icmp .eq 480, 3) := (rfl)
theorem pZ_16_787 : alk tZ_16 787 = some (.iconst 0, 1) := (rfl)
theorem pZ_16_788 : alk tZ_16 788 = some (.ireturn, 1) := (rfl)
section
variable {l : Launch} {G : Gc} {mc ms : Nat} {Q : Option AV → Wd → Prop} {w : Wd}
set_option maxRecDepth 100000 in
set_option maxHeartbeats 4000000 in
theorem lcZ_16 {c i cu su : Nat} (h : Inv c w) (hc : c < 1000) (hi : i + 6 ≤ gL G) (hL : gL G ≤ 3072) (h1 : cu + 8 ≤ mc) (h2 : su + 100 ≤ ms) (ih : ∀ w' cu' su', cu' ≤ cu + 8 → su' ≤ su + 100 → Inv (c + 1) w' → WP l G mZ 40 mc ms Q 1264 [some (.inr (.inr (some (901, 0)))), some (.inr (.inr (some (0, 0)))), some (.inr (.inr (some (13, 0)))), some (.inl (nI i))] [] w' cu' su') : WP l G mZ 40 mc ms Q 756 [some (.inr (.inr (some (901, 0)))), some (.inr (.inr (some (0, 0)))), some (.inr (.inr (some (13, 0)))), some (.inl (nI i))] [] w cu su := by
  have wC0 := ss_C0 (iv_S h)
  have wC13 : wC w 13 = 1 := (iv_M h).1.1
  have v1 : vp_in (nI i + 1) (gL G) := by rw [show nI i + 1 = nI (i + 1) from nI_add i 1]; exact vp_in_nI (by omega) (by omega)
  have c1 : (nI i + 1).toNatClampNeg = i + 1 := by rw [show nI i + 1 = nI (i + 1) from nI_add i 1]; exact nI_clamp (by omega)
  have v2 : vp_in (nI i + 2) (gL G) := by rw [show nI i + 2 = nI (i + 2) from nI_add i 2]; exact vp_in_nI (by omega) (by omega)
  have c2 : (nI i + 2).toNatClampNeg = i + 2 := by rw [show nI i + 2 = nI (i + 2) from nI_add i 2]; exact nI_clamp (by omega)
  obtain ⟨n', hn', call⟩ := ca_said (l := l) (G := G) h hc (gS G (i + 1)) (gS G (i + 2))
  refine wpn_ok (M := mZ) (C := cenZ) (X := (alk [])) (tb := tZ_16) (st := [1264]) eoZ XOk_nil kZ_16 60 _ _ _ _ _ _ ?_
  simp only [reduceCtorEq, fv0, fv1, fv2, fv3, bI_0, bI_1, bft, MSh_sI_eq, fsP_T, inL_0, inL_s, pad_0, pad_n, pad_s, wpn_s, wp1_s, lg_0, lg_s, lset_0, lset_s, kil_0, kil_s, st1_s, st2_s, isL_i, isL_l, isL_r, isL_n, spl_0, spl_s, cll_n, cll_s, catS_0, catS_s, jmp_s, alk_0, alk_s, otl_n, otl_s, List.nil_append, List.cons_append, List.contains_cons, List.contains_nil, Nat.reduceBEq, Bool.or_false, Bool.false_or, Bool.or_self, Bool.false_eq_true, Bool.true_or, Bool.or_true, if_true, if_false, ite_true, ite_false, ↓reduceIte, List.length_cons, List.length_nil, Nat.reduceAdd, Nat.reduceLT, Nat.reduceLeDiff, Nat.reduceEqDiff, Int.reduceAdd, Int.reduceLE, Int.toNat_natCast, Int.reduceToNat, Int.cast_ofNat_Int, true_and, and_true, false_and, and_false, true_implies, forall_const, eq_self, and_self, or_true, true_or, or_self, false_or, or_false, yI_sI, yR_sI, yC_sI, yN_sI, yI_sR, yR_sR, yC_sR, yN_sR, not_true_eq_false, not_false_eq_true, false_implies, implies_true, Nat.zero_add, Nat.add_zero, Nat.le_refl, Nat.reduceSub, Int.reduceSub, Int.reduceLT, Int.sub_zero, Int.sub_self, List.getElem?_toArray, List.getElem?_cons_zero, List.getElem?_cons_succ, Int.toNat_zero, Int.toNat_one, Int.lt_irrefl, pZ_16_756, stp_aload_n, pZ_16_757, pZ_16_758, stp_iload_n, pZ_16_759, stp_iconst, ic_1, pZ_16_760, stp_iadd, pZ_16_761, stp_iaload, pZ_16_762, pZ_16_763, pZ_16_764, ic_2, pZ_16_765, pZ_16_766, pZ_16_767, stp_invokevirtual, qmZ_83, cy_S_said, pZ_16_770, pZ_16_771, pZ_16_772, pZ_16_773, pZ_16_774, pZ_16_775, pZ_16_776, pZ_16_777, pZ_16_778, pZ_16_779, pZ_16_780, pZ_16_781, qmZ_86, cy_M_said, pZ_16_784, stp_if_icmp_eq, pZ_16_787, ic_0, pZ_16_788, stp_ireturn, wC0, wC13, v1, c1, v2, c2]
  refine ⟨n', 8, 100, by omega, h1, h2, call.up.mono fun rr w1 h' => ?_⟩
  obtain ⟨⟨v, rfl, ty, m', hm', sem⟩, hup⟩ := h'
  obtain ⟨y, rfl⟩ : ∃ y : Int32, v = .inl y := ty
  have wD13 : 0 < wC w1 13 := by have := hup 13; omega
  refine wpn_ok (M := mZ) (C := cenZ) (X := (alk [])) (tb := tZ_16) (st := [1264]) eoZ XOk_nil kZ_16 60 _ _ _ _ _ _ ?_
  simp only [reduceCtorEq, fv0, fv1, fv2, fv3, bI_0, bI_1, bft, MSh_sI_eq, fsP_T, inL_0, inL_s, pad_0, pad_n, pad_s, wpn_s, wp1_s, lg_0, lg_s, lset_0, lset_s, kil_0, kil_s, st1_s, st2_s, isL_i, isL_l, isL_r, isL_n, spl_0, spl_s, cll_n, cll_s, catS_0, catS_s, jmp_s, alk_0, alk_s, otl_n, otl_s, List.nil_append, List.cons_append, List.contains_cons, List.contains_nil, Nat.reduceBEq, Bool.or_false, Bool.false_or, Bool.or_self, Bool.false_eq_true, Bool.true_or, Bool.or_true, if_true, if_false, ite_true, ite_false, ↓reduceIte, List.length_cons, List.length_nil, Nat.reduceAdd, Nat.reduceLT, Nat.reduceLeDiff, Nat.reduceEqDiff, Int.reduceAdd, Int.reduceLE, Int.toNat_natCast, Int.reduceToNat, Int.cast_ofNat_Int, true_and, and_true, false_and, and_false, true_implies, forall_const, eq_self, and_self, or_true, true_or, or_self, false_or, or_false, yI_sI, yR_sI, yC_sI, yN_sI, yI_sR, yR_sR, yC_sR, yN_sR, not_true_eq_false, not_false_eq_true, false_implies, implies_true, Nat.zero_add, Nat.add_zero, Nat.le_refl, Nat.reduceSub, Int.reduceSub, Int.reduceLT, Int.sub_zero, Int.sub_self, List.getElem?_toArray, List.getElem?_cons_zero, List.getElem?_cons_succ, Int.toNat_zero, Int.toNat_one, Int.lt_irrefl, pZ_16_756, stp_aload_n, pZ_16_757, pZ_16_758, stp_iload_n, pZ_16_759, stp_iconst, ic_1, pZ_16_760, stp_iadd, pZ_16_761, stp_iaload, pZ_16_762, pZ_16_763, pZ_16_764, ic_2, pZ_16_765, pZ_16_766, pZ_16_767, stp_invokevirtual, qmZ_83, cy_S_said, pZ_16_770, pZ_16_771, pZ_16_772, pZ_16_773, pZ_16_774, pZ_16_775, pZ_16_776, pZ_16_777, pZ_16_778, pZ_16_779, pZ_16_780, pZ_16_781, qmZ_86, cy_M_said, pZ_16_784, stp_if_icmp_eq, pZ_16_787, ic_0, pZ_16_788, stp_ireturn, wD13, Option.toList_some, v1, c1, v2, c2]
  refine ⟨m', 0, 0, by omega, by omega, by omega, sem.mono fun rr w2 h' => ?_⟩
  obtain ⟨rfl, hI⟩ := h'
  refine wpn_ok (M := mZ) (C := cenZ) (X := (alk [])) (tb := tZ_16) (st := [1264]) eoZ XOk_nil kZ_16 60 _ _ _ _ _ _ ?_
  simp only [reduceCtorEq, fv0, fv1, fv2, fv3, bI_0, bI_1, bft, MSh_sI_eq, fsP_T, inL_0, inL_s, pad_0, pad_n, pad_s, wpn_s, wp1_s, lg_0, lg_s, lset_0, lset_s, kil_0, kil_s, st1_s, st2_s, isL_i, isL_l, isL_r, isL_n, spl_0, spl_s, cll_n, cll_s, catS_0, catS_s, jmp_s, alk_0, alk_s, otl_n, otl_s, List.nil_append, List.cons_append, List.contains_cons, List.contains_nil, Nat.reduceBEq, Bool.or_false, Bool.false_or, Bool.or_self, Bool.false_eq_true, Bool.true_or, Bool.or_true, if_true, if_false, ite_true, ite_false, ↓reduceIte, List.length_cons, List.length_nil, Nat.reduceAdd, Nat.reduceLT, Nat.reduceLeDiff, Nat.reduceEqDiff, Int.reduceAdd, Int.reduceLE, Int.toNat_natCast, Int.reduceToNat, Int.cast_ofNat_Int, true_and, and_true, false_and, and_false, true_implies, forall_const, eq_self, and_self, or_true, true_or, or_self, false_or, or_false, yI_sI, yR_sI, yC_sI, yN_sI, yI_sR, yR_sR, yC_sR, yN_sR, not_true_eq_false, not_false_eq_true, false_implies, implies_true, Nat.zero_add, Nat.add_zero, Nat.le_refl, Nat.reduceSub, Int.reduceSub, Int.reduceLT, Int.sub_zero, Int.sub_self, List.getElem?_toArray, List.getElem?_cons_zero, List.getElem?_cons_succ, Int.toNat_zero, Int.toNat_one, Int.lt_irrefl, pZ_16_756, stp_aload_n, pZ_16_757, pZ_16_758, stp_iload_n, pZ_16_759, stp_iconst, ic_1, pZ_16_760, stp_iadd, pZ_16_761, stp_iaload, pZ_16_762, pZ_16_763, pZ_16_764, ic_2, pZ_16_765, pZ_16_766, pZ_16_767, stp_invokevirtual, qmZ_83, cy_S_said, pZ_16_770, pZ_16_771, pZ_16_772, pZ_16_773, pZ_16_774, pZ_16_775, pZ_16_776, pZ_16_777, pZ_16_778, pZ_16_779, pZ_16_780, pZ_16_781, qmZ_86, cy_M_said, pZ_16_784, stp_if_icmp_eq, pZ_16_787, ic_0, pZ_16_788, stp_ireturn, Option.toList_some]
  exact ih _ _ _ (by omega) (by omega) hI
end
def tZ_17 : TB := [(789, .aload_n 1, 1), (790, .aload_n 0, 1), (791, .iload_n 3, 1), (792, .iconst 1, 1), (793, .iadd, 1), (794, .iaload, 1), (795, .aload_n 0, 1), (796, .iload_n 3, 1), (797, .iconst 2, 1), (798, .iadd, 1), (799, .iaload, 1), (800, .invokevirtual 87, 3), (803, .aload_n 2, 1), (804, .aload_n 0, 1), (805, .iload_n 3, 1), (806, .iconst 1, 1), (807, .iadd, 1), (808, .iaload, 1), (809, .aload_n 0, 1), (810, .iload_n 3, 1), (811, .iconst 2, 1), (812, .iadd, 1), (813, .iaload, 1), (814, .invokevirtual 90, 3), (817, .if_icmp .eq 447, 3), (820, .iconst 0, 1), (821, .ireturn, 1)]
set_option maxRecDepth 100000 in
theorem kZ_17 : tbOk (mB mZ) tZ_17 = true := by decide +kernel
theorem pZ_17_789 : alk tZ_17 789 = some (.aload_n 1, 1) := (rfl)
theorem pZ_17_790 : alk tZ_17 790 = some (.aload_n 0, 1) := (rfl)
theorem pZ_17_791 : alk tZ_17 791 = some (.iload_n 3, 1) := (rfl)
theorem pZ_17_792 : alk tZ_17 792 = some (.iconst 1, 1) := (rfl)
theorem pZ_17_793 : alk tZ_17 793 = some (.iadd, 1) := (rfl)
theorem pZ_17_794 : alk tZ_17 794 = some (.iaload, 1) := (rfl)
theorem pZ_17_795 : alk tZ_17 795 = some (.aload_n 0, 1) := (rfl)
theorem pZ_17_796 : alk tZ_17 796 = some (.iload_n 3, 1) := (rfl)
theorem pZ_17_797 : alk tZ_17 797 = some (.iconst 2, 1) := (rfl)
theorem pZ_17_798 : alk tZ_17 798 = some (.iadd, 1) := (rfl)
theorem pZ_17_799 : alk tZ_17 799 = some (.iaload, 1) := (rfl)
theorem pZ_17_800 : alk tZ_17 800 = some (.invokevirtual 87, 3) := (rfl)
theorem pZ_17_803 : alk tZ_17 803 = some (.aload_n 2, 1) := (rfl)
theorem pZ_17_804 : alk tZ_17 804 = some (.aload_n 0, 1) := (rfl)
theorem pZ_17_805 : alk tZ_17 805 = some (.iload_n 3, 1) := (rfl)
theorem pZ_17_806 : alk tZ_17 806 = some (.iconst 1, 1) := (rfl)
theorem pZ_17_807 : alk tZ_17 807 = some (.iadd, 1) := (rfl)
theorem pZ_17_808 : alk tZ_17 808 = some (.iaload, 1) := (rfl)
theorem pZ_17_809 : alk tZ_17 809 = some (.aload_n 0, 1) := (rfl)
theorem pZ_17_810 : alk tZ_17 810 = some (.iload_n 3, 1) := (rfl)
theorem pZ_17_811 : alk tZ_17 811 = some (.iconst 2, 1) := (rfl)
theorem pZ_17_812 : alk tZ_17 812 = some (.iadd, 1) := (rfl)
theorem pZ_17_813 : alk tZ_17 813 = some (.iaload, 1) := (rfl)
theorem pZ_17_814 : alk tZ_17 814 = some (.invokevirtual 90, 3) := (rfl)
theorem pZ_17_817 : alk tZ_17 817 = some (.if_icmp .eq 447, 3) := (rfl)
theorem pZ_17_820 : alk tZ_17 820 = some (.iconst 0, 1) := (rfl)
theorem pZ_17_821 : alk tZ_17 821 = some (.ireturn, 1) := (rfl)
section
variable {l : Launch} {G : Gc} {mc ms : Nat} {Q : Option AV → Wd → Prop} {w : Wd}
set_option maxRecDepth 100000 in
set_option maxHeartbeats 4000000 in
theorem lcZ_17 {c i cu su : Nat} (h : Inv c w) (hc : c < 1000) (hi : i + 6 ≤ gL G) (hL : gL G ≤ 3072) (h1 : cu + 8 ≤ mc) (h2 : su + 100 ≤ ms) (ih : ∀ w' cu' su', cu' ≤ cu + 8 → su' ≤ su + 100 → Inv (c + 1) w' → WP l G mZ 40 mc ms Q 1264 [some (.inr (.inr (some (901, 0)))), some (.inr (.inr (some (0, 0)))), some (.inr (.inr (some (13, 0)))), some (.inl (nI i))] [] w' cu' su') : WP l G mZ 40 mc ms Q 789 [some (.inr (.inr (some (901, 0)))), some (.inr (.inr (some (0, 0)))), some (.inr (.inr (some (13, 0)))), some (.inl (nI i))] [] w cu su := by
  have wC0 := ss_C0 (iv_S h)
  have wC13 : wC w 13 = 1 := (iv_M h).1.1
  have v1 : vp_in (nI i + 1) (gL G) := by rw [show nI i + 1 = nI (i + 1) from nI_add i 1]; exact vp_in_nI (by omega) (by omega)
  have c1 : (nI i + 1).toNatClampNeg = i + 1 := by rw [show nI i + 1 = nI (i + 1) from nI_add i 1]; exact nI_clamp (by omega)
  have v2 : vp_in (nI i + 2) (gL G) := by rw [show nI i + 2 = nI (i + 2) from nI_add i 2]; exact vp_in_nI (by omega) (by omega)
  have c2 : (nI i + 2).toNatClampNeg = i + 2 := by rw [show nI i + 2 = nI (i + 2) from nI_add i 2]; exact nI_clamp (by omega)
  obtain ⟨n', hn', call⟩ := ca_see (l := l) (G := G) h hc (gS G (i + 1)) (gS G (i + 2))
  refine wpn_ok (M := mZ) (C := cenZ) (X := (alk [])) (tb := tZ_17) (st := [1264]) eoZ XOk_nil kZ_17 60 _ _ _ _ _ _ ?_
  simp only [reduceCtorEq, fv0, fv1, fv2, fv3, bI_0, bI_1, bft, MSh_sI_eq, fsP_T, inL_0, inL_s, pad_0, pad_n, pad_s, wpn_s, wp1_s, lg_0, lg_s, lset_0, lset_s, kil_0, kil_s, st1_s, st2_s, isL_i, isL_l, isL_r, isL_n, spl_0, spl_s, cll_n, cll_s, catS_0, catS_s, jmp_s, alk_0, alk_s, otl_n, otl_s, List.nil_append, List.cons_append, List.contains_cons, List.contains_nil, Nat.reduceBEq, Bool.or_false, Bool.false_or, Bool.or_self, Bool.false_eq_true, Bool.true_or, Bool.or_true, if_true, if_false, ite_true, ite_false, ↓reduceIte, List.length_cons, List.length_nil, Nat.reduceAdd, Nat.reduceLT, Nat.reduceLeDiff, Nat.reduceEqDiff, Int.reduceAdd, Int.reduceLE, Int.toNat_natCast, Int.reduceToNat, Int.cast_ofNat_Int, true_and, and_true, false_and, and_false, true_implies, forall_const, eq_self, and_self, or_true, true_or, or_self, false_or, or_false, yI_sI, yR_sI, yC_sI, yN_sI, yI_sR, yR_sR, yC_sR, yN_sR, not_true_eq_false, not_false_eq_true, false_implies, implies_true, Nat.zero_add, Nat.add_zero, Nat.le_refl, Nat.reduceSub, Int.reduceSub, Int.reduceLT, Int.sub_zero, Int.sub_self, List.getElem?_toArray, List.getElem?_cons_zero, List.getElem?_cons_succ, Int.toNat_zero, Int.toNat_one, Int.lt_irrefl, pZ_17_789, stp_aload_n, pZ_17_790, pZ_17_791, stp_iload_n, pZ_17_792, stp_iconst, ic_1, pZ_17_793, stp_iadd, pZ_17_794, stp_iaload, pZ_17_795, pZ_17_796, pZ_17_797, ic_2, pZ_17_798, pZ_17_799, pZ_17_800, stp_invokevirtual, qmZ_87, cy_S_see, pZ_17_803, pZ_17_804, pZ_17_805, pZ_17_806, pZ_17_807, pZ_17_808, pZ_17_809, pZ_17_810, pZ_17_811, pZ_17_812, pZ_17_813, pZ_17_814, qmZ_90, cy_M_see, pZ_17_817, stp_if_icmp_eq, pZ_17_820, ic_0, pZ_17_821, stp_ireturn, wC0, wC13, v1, c1, v2, c2]
  refine ⟨n', 8, 100, by omega, h1, h2, call.up.mono fun rr w1 h' => ?_⟩
  obtain ⟨⟨v, rfl, ty, m', hm', sem⟩, hup⟩ := h'
  obtain ⟨y, rfl⟩ : ∃ y : Int32, v = .inl y := ty
  have wD13 : 0 < wC w1 13 := by have := hup 13; omega
  refine wpn_ok (M := mZ) (C := cenZ) (X := (alk [])) (tb := tZ_17) (st := [1264]) eoZ XOk_nil kZ_17 60 _ _ _ _ _ _ ?_
  simp only [reduceCtorEq, fv0, fv1, fv2, fv3, bI_0, bI_1, bft, MSh_sI_eq, fsP_T, inL_0, inL_s, pad_0, pad_n, pad_s, wpn_s, wp1_s, lg_0, lg_s, lset_0, lset_s, kil_0, kil_s, st1_s, st2_s, isL_i, isL_l, isL_r, isL_n, spl_0, spl_s, cll_n, cll_s, catS_0, catS_s, jmp_s, alk_0, alk_s, otl_n, otl_s, List.nil_append, List.cons_append, List.contains_cons, List.contains_nil, Nat.reduceBEq, Bool.or_false, Bool.false_or, Bool.or_self, Bool.false_eq_true, Bool.true_or, Bool.or_true, if_true, if_false, ite_true, ite_false, ↓reduceIte, List.length_cons, List.length_nil, Nat.reduceAdd, Nat.reduceLT, Nat.reduceLeDiff, Nat.reduceEqDiff, Int.reduceAdd, Int.reduceLE, Int.toNat_natCast, Int.reduceToNat, Int.cast_ofNat_Int, true_and, and_true, false_and, and_false, true_implies, forall_const, eq_self, and_self, or_true, true_or, or_self, false_or, or_false, yI_sI, yR_sI, yC_sI, yN_sI, yI_sR, yR_sR, yC_sR, yN_sR, not_true_eq_false, not_false_eq_true, false_implies, implies_true, Nat.zero_add, Nat.add_zero, Nat.le_refl, Nat.reduceSub, Int.reduceSub, Int.reduceLT, Int.sub_zero, Int.sub_self, List.getElem?_toArray, List.getElem?_cons_zero, List.getElem?_cons_succ, Int.toNat_zero, Int.toNat_one, Int.lt_irrefl, pZ_17_789, stp_aload_n, pZ_17_790, pZ_17_791, stp_iload_n, pZ_17_792, stp_iconst, ic_1, pZ_17_793, stp_iadd, pZ_17_794, stp_iaload, pZ_17_795, pZ_17_796, pZ_17_797, ic_2, pZ_17_798, pZ_17_799, pZ_17_800, stp_invokevirtual, qmZ_87, cy_S_see, pZ_17_803, pZ_17_804, pZ_17_805, pZ_17_806, pZ_17_807, pZ_17_808, pZ_17_809, pZ_17_810, pZ_17_811, pZ_17_812, pZ_17_813, pZ_17_814, qmZ_90, cy_M_see, pZ_17_817, stp_if_icmp_eq, pZ_17_820, ic_0, pZ_17_821, stp_ireturn, wD13, Option.toList_some, v1, c1, v2, c2]
  refine ⟨m', 0, 0, by omega, by omega, by omega, sem.mono fun rr w2 h' => ?_⟩
  obtain ⟨rfl, hI⟩ := h'
  refine wpn_ok (M := mZ) (C := cenZ) (X := (alk [])) (tb := tZ_17) (st := [1264]) eoZ XOk_nil kZ_17 60 _ _ _ _ _ _ ?_
  simp only [reduceCtorEq, fv0, fv1, fv2, fv3, bI_0, bI_1, bft, MSh_sI_eq, fsP_T, inL_0, inL_s, pad_0, pad_n, pad_s, wpn_s, wp1_s, lg_0, lg_s, lset_0, lset_s, kil_0, kil_s, st1_s, st2_s, isL_i, isL_l, isL_r, isL_n, spl_0, spl_s, cll_n, cll_s, catS_0, catS_s, jmp_s, alk_0, alk_s, otl_n, otl_s, List.nil_append, List.cons_append, List.contains_cons, List.contains_nil, Nat.reduceBEq, Bool.or_false, Bool.false_or, Bool.or_self, Bool.false_eq_true, Bool.true_or, Bool.or_true, if_true, if_false, ite_true, ite_false, ↓reduceIte, List.length_cons, List.length_nil, Nat.reduceAdd, Nat.reduceLT, Nat.reduceLeDiff, Nat.reduceEqDiff, Int.reduceAdd, Int.reduceLE, Int.toNat_natCast, Int.reduceToNat, Int.cast_ofNat_Int, true_and, and_true, false_and, and_false, true_implies, forall_const, eq_self, and_self, or_true, true_or, or_self, false_or, or_false, yI_sI, yR_sI, yC_sI, yN_sI, yI_sR, yR_sR, yC_sR, yN_sR, not_true_eq_false, not_false_eq_true, false_implies, implies_true, Nat.zero_add, Nat.add_zero, Nat.le_refl, Nat.reduceSub, Int.reduceSub, Int.reduceLT, Int.sub_zero, Int.sub_self, List.getElem?_toArray, List.getElem?_cons_zero, List.getElem?_cons_succ, Int.toNat_zero, Int.toNat_one, Int.lt_irrefl, pZ_17_789, stp_aload_n, pZ_17_790, pZ_17_791, stp_iload_n, pZ_17_792, stp_iconst, ic_1, pZ_17_793, stp_iadd, pZ_17_794, stp_iaload, pZ_17_795, pZ_17_796, pZ_17_797, ic_2, pZ_17_798, pZ_17_799, pZ_17_800, stp_invokevirtual, qmZ_87, cy_S_see, pZ_17_803, pZ_17_804, pZ_17_805, pZ_17_806, pZ_17_807, pZ_17_808, pZ_17_809, pZ_17_810, pZ_17_811, pZ_17_812, pZ_17_813, pZ_17_814, qmZ_90, cy_M_see, pZ_17_817, stp_if_icmp_eq, pZ_17_820, ic_0, pZ_17_821, stp_ireturn, Option.toList_some]
  exact ih _ _ _ (by omega) (by omega) hI
end
def tZ_18 : TB := [(822, .aload_n 1, 1), (823, .aload_n 0, 1), (824, .iload_n 3, 1), (825, .iconst 1, 1), (826, .iadd, 1), (827, .iaload, 1), (828, .aload_n 0, 1), (829, .iload_n 3, 1), (830, .iconst 2, 1), (831, .iadd, 1), (832, .iaload, 1), (833, .aload_n 0, 1), (834, .iload_n 3, 1), (835, .iconst 3, 1), (836, .iadd, 1), (837, .iaload, 1), (838, .invokevirtual 91, 3), (841, .aload_n 2, 1), (842, .aload_n 0, 1), (843, .iload_n 3, 1), (844, .iconst 1, 1), (845, .iadd, 1), (846, .iaload, 1), (847, .aload_n 0, 1), (848, .iload_n 3, 1), (849, .iconst 2, 1), (850, .iadd, 1), (851, .iaload, 1), (852, .aload_n 0, 1), (853, .iload_n 3, 1), (854, .iconst 3, 1), (855, .iadd, 1), (856, .iaload, 1), (857, .invokevirtual 94, 3), (860, .if_icmp .eq 404, 3), (863, .iconst 0, 1), (864, .ireturn, 1)]
set_option maxRecDepth 100000 in
theorem kZ_18 : tbOk (mB mZ) tZ_18 = true := by decide +kernel
theorem pZ_18_822 : alk tZ_18 822 = some (.aload_n 1, 1) := (rfl)
theorem pZ_18_823 : alk tZ_18 823 = some (.aload_n 0, 1) := (rfl)
theorem pZ_18_824 : alk tZ_18 824 = some (.iload_n 3, 1) := (rfl)
theorem pZ_18_825 : alk tZ_18 825 = some (.iconst 1, 1) := (rfl)
theorem pZ_18_826 : alk tZ_18 826 = some (.iadd, 1) := (rfl)
theorem pZ_18_827 : alk tZ_18 827 = some (.iaload, 1) := (rfl)
theorem pZ_18_828 : alk tZ_18 828 = some (.aload_n 0, 1) := (rfl)
theorem pZ_18_829 : alk tZ_18 829 = some (.iload_n 3, 1) := (rfl)
theorem pZ_18_830 : alk tZ_18 830 = some (.iconst 2, 1) := (rfl)
theorem pZ_18_831 : alk tZ_18 831 = some (.iadd, 1) := (rfl)
theorem pZ_18_832 : alk tZ_18 832 = some (.iaload, 1) := (rfl)
theorem pZ_18_833 : alk tZ_18 833 = some (.aload_n 0, 1) := (rfl)
theorem pZ_18_834 : alk tZ_18 834 = some (.iload_n 3, 1) := (rfl)
theorem pZ_18_835 : alk tZ_18 835 = some (.iconst 3, 1) := (rfl)
theorem pZ_18_836 : alk tZ_18 836 = some (.iadd, 1) := (rfl)
theorem pZ_18_837 : alk tZ_18 837 = some (.iaload, 1) := (rfl)
theorem pZ_18_838 : alk tZ_18 838 = some (.invokevirtual 91, 3) := (rfl)
theorem pZ_18_841 : alk tZ_18 841 = some (.aload_n 2, 1) := (rfl)
theorem pZ_18_842 : alk tZ_18 842 = some (.aload_n 0, 1) := (rfl)
theorem pZ_18_843 : alk tZ_18 843 = some (.iload_n 3, 1) := (rfl)
theorem pZ_18_844 : alk tZ_18 844 = some (.iconst 1, 1) := (rfl)
theorem pZ_18_845 : alk tZ_18 845 = some (.iadd, 1) := (rfl)
theorem pZ_18_846 : alk tZ_18 846 = some (.iaload, 1) := (rfl)
theorem pZ_18_847 : alk tZ_18 847 = some (.aload_n 0, 1) := (rfl)
theorem pZ_18_848 : alk tZ_18 848 = some (.iload_n 3, 1) := (rfl)
theorem pZ_18_849 : alk tZ_18 849 = some (.iconst 2, 1) := (rfl)
theorem pZ_18_850 : alk tZ_18 850 = some (.iadd, 1) := (rfl)
theorem pZ_18_851 : alk tZ_18 851 = some (.iaload, 1) := (rfl)
theorem pZ_18_852 : alk tZ_18 852 = some (.aload_n 0, 1) := (rfl)
theorem pZ_18_853 : alk tZ_18 853 = some (.iload_n 3, 1) := (rfl)
theorem pZ_18_854 : alk tZ_18 854 = some (.iconst 3, 1) := (rfl)
theorem pZ_18_855 : alk tZ_18 855 = some (.iadd, 1) := (rfl)
theorem pZ_18_856 : alk tZ_18 856 = some (.iaload, 1) := (rfl)
theorem pZ_18_857 : alk tZ_18 857 = some (.invokevirtual 94, 3) := (rfl)
theorem pZ_18_860 : alk tZ_18 860 = some (.if_icmp .eq 404, 3) := (rfl)
theorem pZ_18_863 : alk tZ_18 863 = some (.iconst 0, 1) := (rfl)
theorem pZ_18_864 : alk tZ_18 864 = some (.ireturn, 1) := (rfl)
section
variable {l : Launch} {G : Gc} {mc ms : Nat} {Q : Option AV → Wd → Prop} {w : Wd}
set_option maxRecDepth 100000 in
set_option maxHeartbeats 4000000 in
theorem lcZ_18 {c i cu su : Nat} (h : Inv c w) (hc : c < 1000) (hi : i + 6 ≤ gL G) (hL : gL G ≤ 3072) (h1 : cu + 8 ≤ mc) (h2 : su + 100 ≤ ms) (ih : ∀ w' cu' su', cu' ≤ cu + 8 → su' ≤ su + 100 → Inv (c + 1) w' → WP l G mZ 40 mc ms Q 1264 [some (.inr (.inr (some (901, 0)))), some (.inr (.inr (some (0, 0)))), some (.inr (.inr (some (13, 0)))), some (.inl (nI i))] [] w' cu' su') : WP l G mZ 40 mc ms Q 822 [some (.inr (.inr (some (901, 0)))), some (.inr (.inr (some (0, 0)))), some (.inr (.inr (some (13, 0)))), some (.inl (nI i))] [] w cu su := by
  have wC0 := ss_C0 (iv_S h)
  have wC13 : wC w 13 = 1 := (iv_M h).1.1
  have v1 : vp_in (nI i + 1) (gL G) := by rw [show nI i + 1 = nI (i + 1) from nI_add i 1]; exact vp_in_nI (by omega) (by omega)
  have c1 : (nI i + 1).toNatClampNeg = i + 1 := by rw [show nI i + 1 = nI (i + 1) from nI_add i 1]; exact nI_clamp (by omega)
  have v2 : vp_in (nI i + 2) (gL G) := by rw [show nI i + 2 = nI (i + 2) from nI_add i 2]; exact vp_in_nI (by omega) (by omega)
  have c2 : (nI i + 2).toNatClampNeg = i + 2 := by rw [show nI i + 2 = nI (i + 2) from nI_add i 2]; exact nI_clamp (by omega)
  have v3 : vp_in (nI i + 3) (gL G) := by rw [show nI i + 3 = nI (i + 3) from nI_add i 3]; exact vp_in_nI (by omega) (by omega)
  have c3 : (nI i + 3).toNatClampNeg = i + 3 := by rw [show nI i + 3 = nI (i + 3) from nI_add i 3]; exact nI_clamp (by omega)
  obtain ⟨n', hn', call⟩ := ca_bid (l := l) (G := G) h hc (gS G (i + 1)) (gS G (i + 2)) (gS G (i + 3))
  refine wpn_ok (M := mZ) (C := cenZ) (X := (alk [])) (tb := tZ_18) (st := [1264]) eoZ XOk_nil kZ_18 60 _ _ _ _ _ _ ?_
  simp only [reduceCtorEq, fv0, fv1, fv2, fv3, bI_0, bI_1, bft, MSh_sI_eq, fsP_T, inL_0, inL_s, pad_0, pad_n, pad_s, wpn_s, wp1_s, lg_0, lg_s, lset_0, lset_s, kil_0, kil_s, st1_s, st2_s, isL_i, isL_l, isL_r, isL_n, spl_0, spl_s, cll_n, cll_s, catS_0, catS_s, jmp_s, alk_0, alk_s, otl_n, otl_s, List.nil_append, List.cons_append, List.contains_cons, List.contains_nil, Nat.reduceBEq, Bool.or_false, Bool.false_or, Bool.or_self, Bool.false_eq_true, Bool.true_or, Bool.or_true, if_true, if_false, ite_true, ite_false, ↓reduceIte, List.length_cons, List.length_nil, Nat.reduceAdd, Nat.reduceLT, Nat.reduceLeDiff, Nat.reduceEqDiff, Int.reduceAdd, Int.reduceLE, Int.toNat_natCast, Int.reduceToNat, Int.cast_ofNat_Int, true_and, and_true, false_and, and_false, true_implies, forall_const, eq_self, and_self, or_true, true_or, or_self, false_or, or_false, yI_sI, yR_sI, yC_sI, yN_sI, yI_sR, yR_sR, yC_sR, yN_sR, not_true_eq_false, not_false_eq_true, false_implies, implies_true, Nat.zero_add, Nat.add_zero, Nat.le_refl, Nat.reduceSub, Int.reduceSub, Int.reduceLT, Int.sub_zero, Int.sub_self, List.getElem?_toArray, List.getElem?_cons_zero, List.getElem?_cons_succ, Int.toNat_zero, Int.toNat_one, Int.lt_irrefl, pZ_18_822, stp_aload_n, pZ_18_823, pZ_18_824, stp_iload_n, pZ_18_825, stp_iconst, ic_1, pZ_18_826, stp_iadd, pZ_18_827, stp_iaload, pZ_18_828, pZ_18_829, pZ_18_830, ic_2, pZ_18_831, pZ_18_832, pZ_18_833, pZ_18_834, pZ_18_835, ic_3, pZ_18_836, pZ_18_837, pZ_18_838, stp_invokevirtual, qmZ_91, cy_S_bid, pZ_18_841, pZ_18_842, pZ_18_843, pZ_18_844, pZ_18_845, pZ_18_846, pZ_18_847, pZ_18_848, pZ_18_849, pZ_18_850, pZ_18_851, pZ_18_852, pZ_18_853, pZ_18_854, pZ_18_855, pZ_18_856, pZ_18_857, qmZ_94, cy_M_bid, pZ_18_860, stp_if_icmp_eq, pZ_18_863, ic_0, pZ_18_864, stp_ireturn, wC0, wC13, v1, c1, v2, c2, v3, c3]
  refine ⟨n', 8, 100, by omega, h1, h2, call.up.mono fun rr w1 h' => ?_⟩
  obtain ⟨⟨v, rfl, ty, m', hm', sem⟩, hup⟩ := h'
  obtain ⟨y, rfl⟩ : ∃ y : Int32, v = .inl y := ty
  have wD13 : 0 < wC w1 13 := by have := hup 13; omega
  refine wpn_ok (M := mZ) (C := cenZ) (X := (alk [])) (tb := tZ_18) (st := [1264]) eoZ XOk_nil kZ_18 60 _ _ _ _ _ _ ?_
  simp only [reduceCtorEq, fv0, fv1, fv2, fv3, bI_0, bI_1, bft, MSh_sI_eq, fsP_T, inL_0, inL_s, pad_0, pad_n, pad_s, wpn_s, wp1_s, lg_0, lg_s, lset_0, lset_s, kil_0, kil_s, st1_s, st2_s, isL_i, isL_l, isL_r, isL_n, spl_0, spl_s, cll_n, cll_s, catS_0, catS_s, jmp_s, alk_0, alk_s, otl_n, otl_s, List.nil_append, List.cons_append, List.contains_cons, List.contains_nil, Nat.reduceBEq, Bool.or_false, Bool.false_or, Bool.or_self, Bool.false_eq_true, Bool.true_or, Bool.or_true, if_true, if_false, ite_true, ite_false, ↓reduceIte, List.length_cons, List.length_nil, Nat.reduceAdd, Nat.reduceLT, Nat.reduceLeDiff, Nat.reduceEqDiff, Int.reduceAdd, Int.reduceLE, Int.toNat_natCast, Int.reduceToNat, Int.cast_ofNat_Int, true_and, and_true, false_and, and_false, true_implies, forall_const, eq_self, and_self, or_true, true_or, or_self, false_or, or_false, yI_sI, yR_sI, yC_sI, yN_sI, yI_sR, yR_sR, yC_sR, yN_sR, not_true_eq_false, not_false_eq_true, false_implies, implies_true, Nat.zero_add, Nat.add_zero, Nat.le_refl, Nat.reduceSub, Int.reduceSub, Int.reduceLT, Int.sub_zero, Int.sub_self, List.getElem?_toArray, List.getElem?_cons_zero, List.getElem?_cons_succ, Int.toNat_zero, Int.toNat_one, Int.lt_irrefl, pZ_18_822, stp_aload_n, pZ_18_823, pZ_18_824, stp_iload_n, pZ_18_825, stp_iconst, ic_1, pZ_18_826, stp_iadd, pZ_18_827, stp_iaload, pZ_18_828, pZ_18_829, pZ_18_830, ic_2, pZ_18_831, pZ_18_832, pZ_18_833, pZ_18_834, pZ_18_835, ic_3, pZ_18_836, pZ_18_837, pZ_18_838, stp_invokevirtual, qmZ_91, cy_S_bid, pZ_18_841, pZ_18_842, pZ_18_843, pZ_18_844, pZ_18_845, pZ_18_846, pZ_18_847, pZ_18_848, pZ_18_849, pZ_18_850, pZ_18_851, pZ_18_852, pZ_18_853, pZ_18_854, pZ_18_855, pZ_18_856, pZ_18_857, qmZ_94, cy_M_bid, pZ_18_860, stp_if_icmp_eq, pZ_18_863, ic_0, pZ_18_864, stp_ireturn, wD13, Option.toList_some, v1, c1, v2, c2, v3, c3]
  refine ⟨m', 0, 0, by omega, by omega, by omega, sem.mono fun rr w2 h' => ?_⟩
  obtain ⟨rfl, hI⟩ := h'
  refine wpn_ok (M := mZ) (C := cenZ) (X := (alk [])) (tb := tZ_18) (st := [1264]) eoZ XOk_nil kZ_18 60 _ _ _ _ _ _ ?_
  simp only [reduceCtorEq, fv0, fv1, fv2, fv3, bI_0, bI_1, bft, MSh_sI_eq, fsP_T, inL_0, inL_s, pad_0, pad_n, pad_s, wpn_s, wp1_s, lg_0, lg_s, lset_0, lset_s, kil_0, kil_s, st1_s, st2_s, isL_i, isL_l, isL_r, isL_n, spl_0, spl_s, cll_n, cll_s, catS_0, catS_s, jmp_s, alk_0, alk_s, otl_n, otl_s, List.nil_append, List.cons_append, List.contains_cons, List.contains_nil, Nat.reduceBEq, Bool.or_false, Bool.false_or, Bool.or_self, Bool.false_eq_true, Bool.true_or, Bool.or_true, if_true, if_false, ite_true, ite_false, ↓reduceIte, List.length_cons, List.length_nil, Nat.reduceAdd, Nat.reduceLT, Nat.reduceLeDiff, Nat.reduceEqDiff, Int.reduceAdd, Int.reduceLE, Int.toNat_natCast, Int.reduceToNat, Int.cast_ofNat_Int, true_and, and_true, false_and, and_false, true_implies, forall_const, eq_self, and_self, or_true, true_or, or_self, false_or, or_false, yI_sI, yR_sI, yC_sI, yN_sI, yI_sR, yR_sR, yC_sR, yN_sR, not_true_eq_false, not_false_eq_true, false_implies, implies_true, Nat.zero_add, Nat.add_zero, Nat.le_refl, Nat.reduceSub, Int.reduceSub, Int.reduceLT, Int.sub_zero, Int.sub_self, List.getElem?_toArray, List.getElem?_cons_zero, List.getElem?_cons_succ, Int.toNat_zero, Int.toNat_one, Int.lt_irrefl, pZ_18_822, stp_aload_n, pZ_18_823, pZ_18_824, stp_iload_n, pZ_18_825, stp_iconst, ic_1, pZ_18_826, stp_iadd, pZ_18_827, stp_iaload, pZ_18_828, pZ_18_829, pZ_18_830, ic_2, pZ_18_831, pZ_18_832, pZ_18_833, pZ_18_834, pZ_18_835, ic_3, pZ_18_836, pZ_18_837, pZ_18_838, stp_invokevirtual, qmZ_91, cy_S_bid, pZ_18_841, pZ_18_842, pZ_18_843, pZ_18_844, pZ_18_845, pZ_18_846, pZ_18_847, pZ_18_848, pZ_18_849, pZ_18_850, pZ_18_851, pZ_18_852, pZ_18_853, pZ_18_854, pZ_18_855, pZ_18_856, pZ_18_857, qmZ_94, cy_M_bid, pZ_18_860, stp_if_icmp_eq, pZ_18_863, ic_0, pZ_18_864, stp_ireturn, Option.toList_some]
  exact ih _ _ _ (by omega) (by omega) hI
end
def tZ_19 : TB := [(865, .aload_n 1, 1), (866, .aload_n 0, 1), (867, .iload_n 3, 1), (868, .iconst 1, 1), (869, .iadd, 1), (870, .iaload, 1), (871, .invokevirtual 95, 3), (874, .aload_n 2, 1), (875, .aload_n 0, 1), (876, .iload_n 3, 1), (877, .iconst 1, 1), (878, .iadd, 1), (879, .iaload, 1), (880, .invokevirtual 98, 3), (883, .if_icmp .eq 381, 3), (886, .iconst 0, 1), (887, .ireturn, 1)]
set_option maxRecDepth 100000 in
theorem kZ_19 : tbOk (mB mZ) tZ_19 = true := by decide +kernel
theorem pZ_19_865 : alk tZ_19 865 = some (.aload_n 1, 1) := (rfl)
theorem pZ_19_866 : alk tZ_19 866 = some (.aload_n 0, 1) := (rfl)
theorem pZ_19_867 : alk tZ_19 867 = some (.iload_n 3, 1) := (rfl)
theorem pZ_19_868 : alk tZ_19 868 = some (.iconst 1, 1) := (rfl)
theorem pZ_19_869 : alk tZ_19 869 = some (.iadd, 1) := (rfl)
theorem pZ_19_870 : alk tZ_19 870 = some (.iaload, 1) := (rfl)
theorem pZ_19_871 : alk tZ_19 871 = some (.invokevirtual 95, 3) := (rfl)
theorem pZ_19_874 : alk tZ_19 874 = some (.aload_n 2, 1) := (rfl)
theorem pZ_19_875 : alk tZ_19 875 = some (.aload_n 0, 1) := (rfl)
theorem pZ_19_876 : alk tZ_19 876 = some (.iload_n 3, 1) := (rfl)
theorem pZ_19_877 : alk tZ_19 877 = some (.iconst 1, 1) := (rfl)
theorem pZ_19_878 : alk tZ_19 878 = some (.iadd, 1) := (rfl)
theorem pZ_19_879 : alk tZ_19 879 = some (.iaload, 1) := (rfl)
theorem pZ_19_880 : alk tZ_19 880 = some (.invokevirtual 98, 3) := (rfl)
theorem pZ_19_883 : alk tZ_19 883 = some (.if_icmp .eq 381, 3) := (rfl)
theorem pZ_19_886 : alk tZ_19 886 = some (.iconst 0, 1) := (rfl)
theorem pZ_19_887 : alk tZ_19 887 = some (.ireturn, 1) := (rfl)
section
variable {l : Launch} {G : Gc} {mc ms : Nat} {Q : Option AV → Wd → Prop} {w : Wd}
set_option maxRecDepth 100000 in
set_option maxHeartbeats 4000000 in
theorem lcZ_19 {c i cu su : Nat} (h : Inv c w) (hc : c < 1000) (hi : i + 6 ≤ gL G) (hL : gL G ≤ 3072) (h1 : cu + 8 ≤ mc) (h2 : su + 100 ≤ ms) (ih : ∀ w' cu' su', cu' ≤ cu + 8 → su' ≤ su + 100 → Inv (c + 1) w' → WP l G mZ 40 mc ms Q 1264 [some (.inr (.inr (some (901, 0)))), some (.inr (.inr (some (0, 0)))), some (.inr (.inr (some (13, 0)))), some (.inl (nI i))] [] w' cu' su') : WP l G mZ 40 mc ms Q 865 [some (.inr (.inr (some (901, 0)))), some (.inr (.inr (some (0, 0)))), some (.inr (.inr (some (13, 0)))), some (.inl (nI i))] [] w cu su := by
  have wC0 := ss_C0 (iv_S h)
  have wC13 : wC w 13 = 1 := (iv_M h).1.1
  have v1 : vp_in (nI i + 1) (gL G) := by rw [show nI i + 1 = nI (i + 1) from nI_add i 1]; exact vp_in_nI (by omega) (by omega)
  have c1 : (nI i + 1).toNatClampNeg = i + 1 := by rw [show nI i + 1 = nI (i + 1) from nI_add i 1]; exact nI_clamp (by omega)
  obtain ⟨n', hn', call⟩ := ca_sell (l := l) (G := G) h hc (gS G (i + 1))
  refine wpn_ok (M := mZ) (C := cenZ) (X := (alk [])) (tb := tZ_19) (st := [1264]) eoZ XOk_nil kZ_19 60 _ _ _ _ _ _ ?_
  simp only [reduceCtorEq, fv0, fv1, fv2, fv3, bI_0, bI_1, bft, MSh_sI_eq, fsP_T, inL_0, inL_s, pad_0, pad_n, pad_s, wpn_s, wp1_s, lg_0, lg_s, lset_0, lset_s, kil_0, kil_s, st1_s, st2_s, isL_i, isL_l, isL_r, isL_n, spl_0, spl_s, cll_n, cll_s, catS_0, catS_s, jmp_s, alk_0, alk_s, otl_n, otl_s, List.nil_append, List.cons_append, List.contains_cons, List.contains_nil, Nat.reduceBEq, Bool.or_false, Bool.false_or, Bool.or_self, Bool.false_eq_true, Bool.true_or, Bool.or_true, if_true, if_false, ite_true, ite_false, ↓reduceIte, List.length_cons, List.length_nil, Nat.reduceAdd, Nat.reduceLT, Nat.reduceLeDiff, Nat.reduceEqDiff, Int.reduceAdd, Int.reduceLE, Int.toNat_natCast, Int.reduceToNat, Int.cast_ofNat_Int, true_and, and_true, false_and, and_false, true_implies, forall_const, eq_self, and_self, or_true, true_or, or_self, false_or, or_false, yI_sI, yR_sI, yC_sI, yN_sI, yI_sR, yR_sR, yC_sR, yN_sR, not_true_eq_false, not_false_eq_true, false_implies, implies_true, Nat.zero_add, Nat.add_zero, Nat.le_refl, Nat.reduceSub, Int.reduceSub, Int.reduceLT, Int.sub_zero, Int.sub_self, List.getElem?_toArray, List.getElem?_cons_zero, List.getElem?_cons_succ, Int.toNat_zero, Int.toNat_one, Int.lt_irrefl, pZ_19_865, stp_aload_n, pZ_19_866, pZ_19_867, stp_iload_n, pZ_19_868, stp_iconst, ic_1, pZ_19_869, stp_iadd, pZ_19_870, stp_iaload, pZ_19_871, stp_invokevirtual, qmZ_95, cy_S_sell, pZ_19_874, pZ_19_875, pZ_19_876, pZ_19_877, pZ_19_878, pZ_19_879, pZ_19_880, qmZ_98, cy_M_sell, pZ_19_883, stp_if_icmp_eq, pZ_19_886, ic_0, pZ_19_887, stp_ireturn, wC0, wC13, v1, c1]
  refine ⟨n', 8, 100, by omega, h1, h2, call.up.mono fun rr w1 h' => ?_⟩
  obtain ⟨⟨v, rfl, ty, m', hm', sem⟩, hup⟩ := h'
  obtain ⟨y, rfl⟩ : ∃ y : Int32, v = .inl y := ty
  have wD13 : 0 < wC w1 13 := by have := hup 13; omega
  refine wpn_ok (M := mZ) (C := cenZ) (X := (alk [])) (tb := tZ_19) (st := [1264]) eoZ XOk_nil kZ_19 60 _ _ _ _ _ _ ?_
  simp only [reduceCtorEq, fv0, fv1, fv2, fv3, bI_0, bI_1, bft, MSh_sI_eq, fsP_T, inL_0, inL_s, pad_0, pad_n, pad_s, wpn_s, wp1_s, lg_0, lg_s, lset_0, lset_s, kil_0, kil_s, st1_s, st2_s, isL_i, isL_l, isL_r, isL_n, spl_0, spl_s, cll_n, cll_s, catS_0, catS_s, jmp_s, alk_0, alk_s, otl_n, otl_s, List.nil_append, List.cons_append, List.contains_cons, List.contains_nil, Nat.reduceBEq, Bool.or_false, Bool.false_or, Bool.or_self, Bool.false_eq_true, Bool.true_or, Bool.or_true, if_true, if_false, ite_true, ite_false, ↓reduceIte, List.length_cons, List.length_nil, Nat.reduceAdd, Nat.reduceLT, Nat.reduceLeDiff, Nat.reduceEqDiff, Int.reduceAdd, Int.reduceLE, Int.toNat_natCast, Int.reduceToNat, Int.cast_ofNat_Int, true_and, and_true, false_and, and_false, true_implies, forall_const, eq_self, and_self, or_true, true_or, or_self, false_or, or_false, yI_sI, yR_sI, yC_sI, yN_sI, yI_sR, yR_sR, yC_sR, yN_sR, not_true_eq_false, not_false_eq_true, false_implies, implies_true, Nat.zero_add, Nat.add_zero, Nat.le_refl, Nat.reduceSub, Int.reduceSub, Int.reduceLT, Int.sub_zero, Int.sub_self, List.getElem?_toArray, List.getElem?_cons_zero, List.getElem?_cons_succ, Int.toNat_zero, Int.toNat_one, Int.lt_irrefl, pZ_19_865, stp_aload_n, pZ_19_866, pZ_19_867, stp_iload_n, pZ_19_868, stp_iconst, ic_1, pZ_19_869, stp_iadd, pZ_19_870, stp_iaload, pZ_19_871, stp_invokevirtual, qmZ_95, cy_S_sell, pZ_19_874, pZ_19_875, pZ_19_876, pZ_19_877, pZ_19_878, pZ_19_879, pZ_19_880, qmZ_98, cy_M_sell, pZ_19_883, stp_if_icmp_eq, pZ_19_886, ic_0, pZ_19_887, stp_ireturn, wD13, Option.toList_some, v1, c1]
  refine ⟨m', 0, 0, by omega, by omega, by omega, sem.mono fun rr w2 h' => ?_⟩
  obtain ⟨rfl, hI⟩ := h'
  refine wpn_ok (M := mZ) (C := cenZ) (X := (alk [])) (tb := tZ_19) (st := [1264]) eoZ XOk_nil kZ_19 60 _ _ _ _ _ _ ?_
  simp only [reduceCtorEq, fv0, fv1, fv2, fv3, bI_0, bI_1, bft, MSh_sI_eq, fsP_T, inL_0, inL_s, pad_0, pad_n, pad_s, wpn_s, wp1_s, lg_0, lg_s, lset_0, lset_s, kil_0, kil_s, st1_s, st2_s, isL_i, isL_l, isL_r, isL_n, spl_0, spl_s, cll_n, cll_s, catS_0, catS_s, jmp_s, alk_0, alk_s, otl_n, otl_s, List.nil_append, List.cons_append, List.contains_cons, List.contains_nil, Nat.reduceBEq, Bool.or_false, Bool.false_or, Bool.or_self, Bool.false_eq_true, Bool.true_or, Bool.or_true, if_true, if_false, ite_true, ite_false, ↓reduceIte, List.length_cons, List.length_nil, Nat.reduceAdd, Nat.reduceLT, Nat.reduceLeDiff, Nat.reduceEqDiff, Int.reduceAdd, Int.reduceLE, Int.toNat_natCast, Int.reduceToNat, Int.cast_ofNat_Int, true_and, and_true, false_and, and_false, true_implies, forall_const, eq_self, and_self, or_true, true_or, or_self, false_or, or_false, yI_sI, yR_sI, yC_sI, yN_sI, yI_sR, yR_sR, yC_sR, yN_sR, not_true_eq_false, not_false_eq_true, false_implies, implies_true, Nat.zero_add, Nat.add_zero, Nat.le_refl, Nat.reduceSub, Int.reduceSub, Int.reduceLT, Int.sub_zero, Int.sub_self, List.getElem?_toArray, List.getElem?_cons_zero, List.getElem?_cons_succ, Int.toNat_zero, Int.toNat_one, Int.lt_irrefl, pZ_19_865, stp_aload_n, pZ_19_866, pZ_19_867, stp_iload_n, pZ_19_868, stp_iconst, ic_1, pZ_19_869, stp_iadd, pZ_19_870, stp_iaload, pZ_19_871, stp_invokevirtual, qmZ_95, cy_S_sell, pZ_19_874, pZ_19_875, pZ_19_876, pZ_19_877, pZ_19_878, pZ_19_879, pZ_19_880, qmZ_98, cy_M_sell, pZ_19_883, stp_if_icmp_eq, pZ_19_886, ic_0, pZ_19_887, stp_ireturn, Option.toList_some]
  exact ih _ _ _ (by omega) (by omega) hI
end
def tZ_20 : TB := [(888, .aload_n 1, 1), (889, .aload_n 0, 1), (890, .iload_n 3, 1), (891, .iconst 1, 1), (892, .iadd, 1), (893, .iaload, 1), (894, .invokevirtual 99, 3), (897, .aload_n 2, 1), (898, .aload_n 0, 1), (899, .iload_n 3, 1), (900, .iconst 1, 1), (901, .iadd, 1), (902, .iaload, 1), (903, .invokevirtual 102, 3), (906, .if_icmp .eq 358, 3), (909, .iconst 0, 1), (910, .ireturn, 1)]
set_option maxRecDepth 100000 in
theorem kZ_20 : tbOk (mB mZ) tZ_20 = true := by decide +kernel
theorem pZ_20_888 : alk tZ_20 888 = some (.aload_n 1, 1) := (rfl)
theorem pZ_20_889 : alk tZ_20 889 = some (.aload_n 0, 1) := (rfl)
theorem pZ_20_890 : alk tZ_20 890 = some (.iload_n 3, 1) := (rfl)
theorem pZ_20_891 : alk tZ_20 891 = some (.iconst 1, 1) := (rfl)
theorem pZ_20_892 : alk tZ_20 892 = some (.iadd, 1) := (rfl)
theorem pZ_20_893 : alk tZ_20 893 = some (.iaload, 1) := (rfl)
theorem pZ_20_894 : alk tZ_20 894 = some (.invokevirtual 99, 3) := (rfl)
theorem pZ_20_897 : alk tZ_20 897 = some (.aload_n 2, 1) := (rfl)
theorem pZ_20_898 : alk tZ_20 898 = some (.aload_n 0, 1) := (rfl)
theorem pZ_20_899 : alk tZ_20 899 = some (.iload_n 3, 1) := (rfl)
theorem pZ_20_900 : alk tZ_20 900 = some (.iconst 1, 1) := (rfl)
theorem pZ_20_901 : alk tZ_20 901 = some (.iadd, 1) := (rfl)
theorem pZ_20_902 : alk tZ_20 902 = some (.iaload, 1) := (rfl)
theorem pZ_20_903 : alk tZ_20 903 = some (.invokevirtual 102, 3) := (rfl)
theorem pZ_20_906 : alk tZ_20 906 = some (.if_icmp .eq 358, 3) := (rfl)
theorem pZ_20_909 : alk tZ_20 909 = some (.iconst 0, 1) := (rfl)
theorem pZ_20_910 : alk tZ_20 910 = some (.ireturn, 1) := (rfl)
section
variable {l : Launch} {G : Gc} {mc ms : Nat} {Q : Option AV → Wd → Prop} {w : Wd}
set_option maxRecDepth 100000 in
set_option maxHeartbeats 4000000 in
theorem lcZ_20 {c i cu su : Nat} (h : Inv c w) (hc : c < 1000) (hi : i + 6 ≤ gL G) (hL : gL G ≤ 3072) (h1 : cu + 8 ≤ mc) (h2 : su + 100 ≤ ms) (ih : ∀ w' cu' su', cu' ≤ cu + 8 → su' ≤ su + 100 → Inv (c + 1) w' → WP l G mZ 40 mc ms Q 1264 [some (.inr (.inr (some (901, 0)))), some (.inr (.inr (some (0, 0)))), some (.inr (.inr (some (13, 0)))), some (.inl (nI i))] [] w' cu' su') : WP l G mZ 40 mc ms Q 888 [some (.inr (.inr (some (901, 0)))), some (.inr (.inr (some (0, 0)))), some (.inr (.inr (some (13, 0)))), some (.inl (nI i))] [] w cu su := by
  have wC0 := ss_C0 (iv_S h)
  have wC13 : wC w 13 = 1 := (iv_M h).1.1
  have v1 : vp_in (nI i + 1) (gL G) := by rw [show nI i + 1 = nI (i + 1) from nI_add i 1]; exact vp_in_nI (by omega) (by omega)
  have c1 : (nI i + 1).toNatClampNeg = i + 1 := by rw [show nI i + 1 = nI (i + 1) from nI_add i 1]; exact nI_clamp (by omega)
  obtain ⟨n', hn', call⟩ := ca_weigh (l := l) (G := G) h hc (gS G (i + 1))
  refine wpn_ok (M := mZ) (C := cenZ) (X := (alk [])) (tb := tZ_20) (st := [1264]) eoZ XOk_nil kZ_20 60 _ _ _ _ _ _ ?_
  simp only [reduceCtorEq, fv0, fv1, fv2, fv3, bI_0, bI_1, bft, MSh_sI_eq, fsP_T, inL_0, inL_s, pad_0, pad_n, pad_s, wpn_s, wp1_s, lg_0, lg_s, lset_0, lset_s, kil_0, kil_s, st1_s, st2_s, isL_i, isL_l, isL_r, isL_n, spl_0, spl_s, cll_n, cll_s, catS_0, catS_s, jmp_s, alk_0, alk_s, otl_n, otl_s, List.nil_append, List.cons_append, List.contains_cons, List.contains_nil, Nat.reduceBEq, Bool.or_false, Bool.false_or, Bool.or_self, Bool.false_eq_true, Bool.true_or, Bool.or_true, if_true, if_false, ite_true, ite_false, ↓reduceIte, List.length_cons, List.length_nil, Nat.reduceAdd, Nat.reduceLT, Nat.reduceLeDiff, Nat.reduceEqDiff, Int.reduceAdd, Int.reduceLE, Int.toNat_natCast, Int.reduceToNat, Int.cast_ofNat_Int, true_and, and_true, false_and, and_false, true_implies, forall_const, eq_self, and_self, or_true, true_or, or_self, false_or, or_false, yI_sI, yR_sI, yC_sI, yN_sI, yI_sR, yR_sR, yC_sR, yN_sR, not_true_eq_false, not_false_eq_true, false_implies, implies_true, Nat.zero_add, Nat.add_zero, Nat.le_refl, Nat.reduceSub, Int.reduceSub, Int.reduceLT, Int.sub_zero, Int.sub_self, List.getElem?_toArray, List.getElem?_cons_zero, List.getElem?_cons_succ, Int.toNat_zero, Int.toNat_one, Int.lt_irrefl, pZ_20_888, stp_aload_n, pZ_20_889, pZ_20_890, stp_iload_n, pZ_20_891, stp_iconst, ic_1, pZ_20_892, stp_iadd, pZ_20_893, stp_iaload, pZ_20_894, stp_invokevirtual, qmZ_99, cy_S_weigh, pZ_20_897, pZ_20_898, pZ_20_899, pZ_20_900, pZ_20_901, pZ_20_902, pZ_20_903, qmZ_102, cy_M_weigh, pZ_20_906, stp_if_icmp_eq, pZ_20_909, ic_0, pZ_20_910, stp_ireturn, wC0, wC13, v1, c1]
  refine ⟨n', 8, 100, by omega, h1, h2, call.up.mono fun rr w1 h' => ?_⟩
  obtain ⟨⟨v, rfl, ty, m', hm', sem⟩, hup⟩ := h'
  obtain ⟨y, rfl⟩ : ∃ y : Int32, v = .inl y := ty
  have wD13 : 0 < wC w1 13 := by have := hup 13; omega
  refine wpn_ok (M := mZ) (C := cenZ) (X := (alk [])) (tb := tZ_20) (st := [1264]) eoZ XOk_nil kZ_20 60 _ _ _ _ _ _ ?_
  simp only [reduceCtorEq, fv0, fv1, fv2, fv3, bI_0, bI_1, bft, MSh_sI_eq, fsP_T, inL_0, inL_s, pad_0, pad_n, pad_s, wpn_s, wp1_s, lg_0, lg_s, lset_0, lset_s, kil_0, kil_s, st1_s, st2_s, isL_i, isL_l, isL_r, isL_n, spl_0, spl_s, cll_n, cll_s, catS_0, catS_s, jmp_s, alk_0, alk_s, otl_n, otl_s, List.nil_append, List.cons_append, List.contains_cons, List.contains_nil, Nat.reduceBEq, Bool.or_false, Bool.false_or, Bool.or_self, Bool.false_eq_true, Bool.true_or, Bool.or_true, if_true, if_false, ite_true, ite_false, ↓reduceIte, List.length_cons, List.length_nil, Nat.reduceAdd, Nat.reduceLT, Nat.reduceLeDiff, Nat.reduceEqDiff, Int.reduceAdd, Int.reduceLE, Int.toNat_natCast, Int.reduceToNat, Int.cast_ofNat_Int, true_and, and_true, false_and, and_false, true_implies, forall_const, eq_self, and_self, or_true, true_or, or_self, false_or, or_false, yI_sI, yR_sI, yC_sI, yN_sI, yI_sR, yR_sR, yC_sR, yN_sR, not_true_eq_false, not_false_eq_true, false_implies, implies_true, Nat.zero_add, Nat.add_zero, Nat.le_refl, Nat.reduceSub, Int.reduceSub, Int.reduceLT, Int.sub_zero, Int.sub_self, List.getElem?_toArray, List.getElem?_cons_zero, List.getElem?_cons_succ, Int.toNat_zero, Int.toNat_one, Int.lt_irrefl, pZ_20_888, stp_aload_n, pZ_20_889, pZ_20_890, stp_iload_n, pZ_20_891, stp_iconst, ic_1, pZ_20_892, stp_iadd, pZ_20_893, stp_iaload, pZ_20_894, stp_invokevirtual, qmZ_99, cy_S_weigh, pZ_20_897, pZ_20_898, pZ_20_899, pZ_20_900, pZ_20_901, pZ_20_902, pZ_20_903, qmZ_102, cy_M_weigh, pZ_20_906, stp_if_icmp_eq, pZ_20_909, ic_0, pZ_20_910, stp_ireturn, wD13, Option.toList_some, v1, c1]
  refine ⟨m', 0, 0, by omega, by omega, by omega, sem.mono fun rr w2 h' => ?_⟩
  obtain ⟨rfl, hI⟩ := h'
  refine wpn_ok (M := mZ) (C := cenZ) (X := (alk [])) (tb := tZ_20) (st := [1264]) eoZ XOk_nil kZ_20 60 _ _ _ _ _ _ ?_
  simp only [reduceCtorEq, fv0, fv1, fv2, fv3, bI_0, bI_1, bft, MSh_sI_eq, fsP_T, inL_0, inL_s, pad_0, pad_n, pad_s, wpn_s, wp1_s, lg_0, lg_s, lset_0, lset_s, kil_0, kil_s, st1_s, st2_s, isL_i, isL_l, isL_r, isL_n, spl_0, spl_s, cll_n, cll_s, catS_0, catS_s, jmp_s, alk_0, alk_s, otl_n, otl_s, List.nil_append, List.cons_append, List.contains_cons, List.contains_nil, Nat.reduceBEq, Bool.or_false, Bool.false_or, Bool.or_self, Bool.false_eq_true, Bool.true_or, Bool.or_true, if_true, if_false, ite_true, ite_false, ↓reduceIte, List.length_cons, List.length_nil, Nat.reduceAdd, Nat.reduceLT, Nat.reduceLeDiff, Nat.reduceEqDiff, Int.reduceAdd, Int.reduceLE, Int.toNat_natCast, Int.reduceToNat, Int.cast_ofNat_Int, true_and, and_true, false_and, and_false, true_implies, forall_const, eq_self, and_self, or_true, true_or, or_self, false_or, or_false, yI_sI, yR_sI, yC_sI, yN_sI, yI_sR, yR_sR, yC_sR, yN_sR, not_true_eq_false, not_false_eq_true, false_implies, implies_true, Nat.zero_add, Nat.add_zero, Nat.le_refl, Nat.reduceSub, Int.reduceSub, Int.reduceLT, Int.sub_zero, Int.sub_self, List.getElem?_toArray, List.getElem?_cons_zero, List.getElem?_cons_succ, Int.toNat_zero, Int.toNat_one, Int.lt_irrefl, pZ_20_888, stp_aload_n, pZ_20_889, pZ_20_890, stp_iload_n, pZ_20_891, stp_iconst, ic_1, pZ_20_892, stp_iadd, pZ_20_893, stp_iaload, pZ_20_894, stp_invokevirtual, qmZ_99, cy_S_weigh, pZ_20_897, pZ_20_898, pZ_20_899, pZ_20_900, pZ_20_901, pZ_20_902, pZ_20_903, qmZ_102, cy_M_weigh, pZ_20_906, stp_if_icmp_eq, pZ_20_909, ic_0, pZ_20_910, stp_ireturn, Option.toList_some]
  exact ih _ _ _ (by omega) (by omega) hI
end
def tZ_21 : TB := [(911, .aload_n 1, 1), (912, .aload_n 0, 1), (913, .iload_n 3, 1), (914, .iconst 1, 1), (915, .iadd, 1), (916, .iaload, 1), (917, .aload_n 0, 1), (918, .iload_n 3, 1), (919, .iconst 2, 1), (920, .iadd, 1), (921, .iaload, 1), (922, .invokevirtual 103, 3), (925, .aload_n 2, 1), (926, .aload_n 0, 1), (927, .iload_n 3, 1), (928, .iconst 1, 1), (929, .iadd, 1), (930, .iaload, 1), (931, .aload_n 0, 1), (932, .iload_n 3, 1), (933, .iconst 2, 1), (934, .iadd, 1), (935, .iaload, 1), (936, .invokevirtual 106, 3), (939, .if_icmp .eq 325, 3), (942, .iconst 0, 1), (943, .ireturn, 1)]
set_option maxRecDepth 100000 in
theorem kZ_21 : tbOk (mB mZ) tZ_21 = true := by decide +kernel
theorem pZ_21_911 : alk tZ_21 911 = some (.aload_n 1, 1) := (rfl)
theorem pZ_21_912 : alk tZ_21 912 = some (.aload_n 0, 1) := (rfl)
theorem pZ_21_913 : alk tZ_21 913 = some (.iload_n 3, 1) := (rfl)
theorem pZ_21_914 : alk tZ_21 914 = some (.iconst 1, 1) := (rfl)
theorem pZ_21_915 : alk tZ_21 915 = some (.iadd, 1) := (rfl)
theorem pZ_21_916 : alk tZ_21 916 = some (.iaload, 1) := (rfl)
theorem pZ_21_917 : alk tZ_21 917 = some (.aload_n 0, 1) := (rfl)
theorem pZ_21_918 : alk tZ_21 918 = some (.iload_n 3, 1) := (rfl)
theorem pZ_21_919 : alk tZ_21 919 = some (.iconst 2, 1) := (rfl)
theorem pZ_21_920 : alk tZ_21 920 = some (.iadd, 1) := (rfl)
theorem pZ_21_921 : alk tZ_21 921 = some (.iaload, 1) := (rfl)
theorem pZ_21_922 : alk tZ_21 922 = some (.invokevirtual 103, 3) := (rfl)
theorem pZ_21_925 : alk tZ_21 925 = some (.aload_n 2, 1) := (rfl)
theorem pZ_21_926 : alk tZ_21 926 = some (.aload_n 0, 1) := (rfl)
theorem pZ_21_927 : alk tZ_21 927 = some (.iload_n 3, 1) := (rfl)
theorem pZ_21_928 : alk tZ_21 928 = some (.iconst 1, 1) := (rfl)
theorem pZ_21_929 : alk tZ_21 929 = some (.iadd, 1) := (rfl)
theorem pZ_21_930 : alk tZ_21 930 = some (.iaload, 1) := (rfl)
theorem pZ_21_931 : alk tZ_21 931 = some (.aload_n 0, 1) := (rfl)
theorem pZ_21_932 : alk tZ_21 932 = some (.iload_n 3, 1) := (rfl)
theorem pZ_21_933 : alk tZ_21 933 = some (.iconst 2, 1) := (rfl)
theorem pZ_21_934 : alk tZ_21 934 = some (.iadd, 1) := (rfl)
theorem pZ_21_935 : alk tZ_21 935 = some (.iaload, 1) := (rfl)
theorem pZ_21_936 : alk tZ_21 936 = some (.invokevirtual 106, 3) := (rfl)
theorem pZ_21_939 : alk tZ_21 939 = some (.if_icmp .eq 325, 3) := (rfl)
theorem pZ_21_942 : alk tZ_21 942 = some (.iconst 0, 1) := (rfl)
theorem pZ_21_943 : alk tZ_21 943 = some (.ireturn, 1) := (rfl)
section
variable {l : Launch} {G : Gc} {mc ms : Nat} {Q : Option AV → Wd → Prop} {w : Wd}
set_option maxRecDepth 100000 in
set_option maxHeartbeats 4000000 in
theorem lcZ_21 {c i cu su : Nat} (h : Inv c w) (hc : c < 1000) (hi : i + 6 ≤ gL G) (hL : gL G ≤ 3072) (h1 : cu + 8 ≤ mc) (h2 : su + 100 ≤ ms) (ih : ∀ w' cu' su', cu' ≤ cu + 8 → su' ≤ su + 100 → Inv (c + 1) w' → WP l G mZ 40 mc ms Q 1264 [some (.inr (.inr (some (901, 0)))), some (.inr (.inr (some (0, 0)))), some (.inr (.inr (some (13, 0)))), some (.inl (nI i))] [] w' cu' su') : WP l G mZ 40 mc ms Q 911 [some (.inr (.inr (some (901, 0)))), some (.inr (.inr (some (0, 0)))), some (.inr (.inr (some (13, 0)))), some (.inl (nI i))] [] w cu su := by
  have wC0 := ss_C0 (iv_S h)
  have wC13 : wC w 13 = 1 := (iv_M h).1.1
  have v1 : vp_in (nI i + 1) (gL G) := by rw [show nI i + 1 = nI (i + 1) from nI_add i 1]; exact vp_in_nI (by omega) (by omega)
  have c1 : (nI i + 1).toNatClampNeg = i + 1 := by rw [show nI i + 1 = nI (i + 1) from nI_add i 1]; exact nI_clamp (by omega)
  have v2 : vp_in (nI i + 2) (gL G) := by rw [show nI i + 2 = nI (i + 2) from nI_add i 2]; exact vp_in_nI (by omega) (by omega)
  have c2 : (nI i + 2).toNatClampNeg = i + 2 := by rw [show nI i + 2 = nI (i + 2) from nI_add i 2]; exact nI_clamp (by omega)
  obtain ⟨n', hn', call⟩ := ca_off (l := l) (G := G) h (gS G (i + 1)) (gS G (i + 2))
  refine wpn_ok (M := mZ) (C := cenZ) (X := (alk [])) (tb := tZ_21) (st := [1264]) eoZ XOk_nil kZ_21 60 _ _ _ _ _ _ ?_
  simp only [reduceCtorEq, fv0, fv1, fv2, fv3, bI_0, bI_1, bft, MSh_sI_eq, fsP_T, inL_0, inL_s, pad_0, pad_n, pad_s, wpn_s, wp1_s, lg_0, lg_s, lset_0, lset_s, kil_0, kil_s, st1_s, st2_s, isL_i, isL_l, isL_r, isL_n, spl_0, spl_s, cll_n, cll_s, catS_0, catS_s, jmp_s, alk_0, alk_s, otl_n, otl_s, List.nil_append, List.cons_append, List.contains_cons, List.contains_nil, Nat.reduceBEq, Bool.or_false, Bool.false_or, Bool.or_self, Bool.false_eq_true, Bool.true_or, Bool.or_true, if_true, if_false, ite_true, ite_false, ↓reduceIte, List.length_cons, List.length_nil, Nat.reduceAdd, Nat.reduceLT, Nat.reduceLeDiff, Nat.reduceEqDiff, Int.reduceAdd, Int.reduceLE, Int.toNat_natCast, Int.reduceToNat, Int.cast_ofNat_Int, true_and, and_true, false_and, and_false, true_implies, forall_const, eq_self, and_self, or_true, true_or, or_self, false_or, or_false, yI_sI, yR_sI, yC_sI, yN_sI, yI_sR, yR_sR, yC_sR, yN_sR, not_true_eq_false, not_false_eq_true, false_implies, implies_true, Nat.zero_add, Nat.add_zero, Nat.le_refl, Nat.reduceSub, Int.reduceSub, Int.reduceLT, Int.sub_zero, Int.sub_self, List.getElem?_toArray, List.getElem?_cons_zero, List.getElem?_cons_succ, Int.toNat_zero, Int.toNat_one, Int.lt_irrefl, pZ_21_911, stp_aload_n, pZ_21_912, pZ_21_913, stp_iload_n, pZ_21_914, stp_iconst, ic_1, pZ_21_915, stp_iadd, pZ_21_916, stp_iaload, pZ_21_917, pZ_21_918, pZ_21_919, ic_2, pZ_21_920, pZ_21_921, pZ_21_922, stp_invokevirtual, qmZ_103, cy_S_off, pZ_21_925, pZ_21_926, pZ_21_927, pZ_21_928, pZ_21_929, pZ_21_930, pZ_21_931, pZ_21_932, pZ_21_933, pZ_21_934, pZ_21_935, pZ_21_936, qmZ_106, cy_M_off, pZ_21_939, stp_if_icmp_eq, pZ_21_942, ic_0, pZ_21_943, stp_ireturn, wC0, wC13, v1, c1, v2, c2]
  refine ⟨n', 8, 100, by omega, h1, h2, call.up.mono fun rr w1 h' => ?_⟩
  obtain ⟨⟨v, rfl, ty, m', hm', sem⟩, hup⟩ := h'
  obtain ⟨y, rfl⟩ : ∃ y : Int32, v = .inl y := ty
  have wD13 : 0 < wC w1 13 := by have := hup 13; omega
  refine wpn_ok (M := mZ) (C := cenZ) (X := (alk [])) (tb := tZ_21) (st := [1264]) eoZ XOk_nil kZ_21 60 _ _ _ _ _ _ ?_
  simp only [reduceCtorEq, fv0, fv1, fv2, fv3, bI_0, bI_1, bft, MSh_sI_eq, fsP_T, inL_0, inL_s, pad_0, pad_n, pad_s, wpn_s, wp1_s, lg_0, lg_s, lset_0, lset_s, kil_0, kil_s, st1_s, st2_s, isL_i, isL_l, isL_r, isL_n, spl_0, spl_s, cll_n, cll_s, catS_0, catS_s, jmp_s, alk_0, alk_s, otl_n, otl_s, List.nil_append, List.cons_append, List.contains_cons, List.contains_nil, Nat.reduceBEq, Bool.or_false, Bool.false_or, Bool.or_self, Bool.false_eq_true, Bool.true_or, Bool.or_true, if_true, if_false, ite_true, ite_false, ↓reduceIte, List.length_cons, List.length_nil, Nat.reduceAdd, Nat.reduceLT, Nat.reduceLeDiff, Nat.reduceEqDiff, Int.reduceAdd, Int.reduceLE, Int.toNat_natCast, Int.reduceToNat, Int.cast_ofNat_Int, true_and, and_true, false_and, and_false, true_implies, forall_const, eq_self, and_self, or_true, true_or, or_self, false_or, or_false, yI_sI, yR_sI, yC_sI, yN_sI, yI_sR, yR_sR, yC_sR, yN_sR, not_true_eq_false, not_false_eq_true, false_implies, implies_true, Nat.zero_add, Nat.add_zero, Nat.le_refl, Nat.reduceSub, Int.reduceSub, Int.reduceLT, Int.sub_zero, Int.sub_self, List.getElem?_toArray, List.getElem?_cons_zero, List.getElem?_cons_succ, Int.toNat_zero, Int.toNat_one, Int.lt_irrefl, pZ_21_911, stp_aload_n, pZ_21_912, pZ_21_913, stp_iload_n, pZ_21_914, stp_iconst, ic_1, pZ_21_915, stp_iadd, pZ_21_916, stp_iaload, pZ_21_917, pZ_21_918, pZ_21_919, ic_2, pZ_21_920, pZ_21_921, pZ_21_922, stp_invokevirtual, qmZ_103, cy_S_off, pZ_21_925, pZ_21_926, pZ_21_927, pZ_21_928, pZ_21_929, pZ_21_930, pZ_21_931, pZ_21_932, pZ_21_933, pZ_21_934, pZ_21_935, pZ_21_936, qmZ_106, cy_M_off, pZ_21_939, stp_if_icmp_eq, pZ_21_942, ic_0, pZ_21_943, stp_ireturn, wD13, Option.toList_some, v1, c1, v2, c2]
  refine ⟨m', 0, 0, by omega, by omega, by omega, sem.mono fun rr w2 h' => ?_⟩
  obtain ⟨rfl, hI⟩ := h'
  refine wpn_ok (M := mZ) (C := cenZ) (X := (alk [])) (tb := tZ_21) (st := [1264]) eoZ XOk_nil kZ_21 60 _ _ _ _ _ _ ?_
  simp only [reduceCtorEq, fv0, fv1, fv2, fv3, bI_0, bI_1, bft, MSh_sI_eq, fsP_T, inL_0, inL_s, pad_0, pad_n, pad_s, wpn_s, wp1_s, lg_0, lg_s, lset_0, lset_s, kil_0, kil_s, st1_s, st2_s, isL_i, isL_l, isL_r, isL_n, spl_0, spl_s, cll_n, cll_s, catS_0, catS_s, jmp_s, alk_0, alk_s, otl_n, otl_s, List.nil_append, List.cons_append, List.contains_cons, List.contains_nil, Nat.reduceBEq, Bool.or_false, Bool.false_or, Bool.or_self, Bool.false_eq_true, Bool.true_or, Bool.or_true, if_true, if_false, ite_true, ite_false, ↓reduceIte, List.length_cons, List.length_nil, Nat.reduceAdd, Nat.reduceLT, Nat.reduceLeDiff, Nat.reduceEqDiff, Int.reduceAdd, Int.reduceLE, Int.toNat_natCast, Int.reduceToNat, Int.cast_ofNat_Int, true_and, and_true, false_and, and_false, true_implies, forall_const, eq_self, and_self, or_true, true_or, or_self, false_or, or_false, yI_sI, yR_sI, yC_sI, yN_sI, yI_sR, yR_sR, yC_sR, yN_sR, not_true_eq_false, not_false_eq_true, false_implies, implies_true, Nat.zero_add, Nat.add_zero, Nat.le_refl, Nat.reduceSub, Int.reduceSub, Int.reduceLT, Int.sub_zero, Int.sub_self, List.getElem?_toArray, List.getElem?_cons_zero, List.getElem?_cons_succ, Int.toNat_zero, Int.toNat_one, Int.lt_irrefl, pZ_21_911, stp_aload_n, pZ_21_912, pZ_21_913, stp_iload_n, pZ_21_914, stp_iconst, ic_1, pZ_21_915, stp_iadd, pZ_21_916, stp_iaload, pZ_21_917, pZ_21_918, pZ_21_919, ic_2, pZ_21_920, pZ_21_921, pZ_21_922, stp_invokevirtual, qmZ_103, cy_S_off, pZ_21_925, pZ_21_926, pZ_21_927, pZ_21_928, pZ_21_929, pZ_21_930, pZ_21_931, pZ_21_932, pZ_21_933, pZ_21_934, pZ_21_935, pZ_21_936, qmZ_106, cy_M_off, pZ_21_939, stp_if_icmp_eq, pZ_21_942, ic_0, pZ_21_943, stp_ireturn, Option.toList_some]
  exact ih _ _ _ (by omega) (by omega) hI
end
def tZ_22 : TB := [(944, .aload_n 1, 1), (945, .aload_n 0, 1), (946, .iload_n 3, 1), (947, .iconst 1, 1), (948, .iadd, 1), (949, .iaload, 1), (950, .invokevirtual 107, 3), (953, .aload_n 2, 1), (954, .aload_n 0, 1), (955, .iload_n 3, 1), (956, .iconst 1, 1), (957, .iadd, 1), (958, .iaload, 1), (959, .invokevirtual 110, 3), (962, .if_icmp .eq 302, 3), (965, .iconst 0, 1), (966, .ireturn, 1)]
set_option maxRecDepth 100000 in
theorem kZ_22 : tbOk (mB mZ) tZ_22 = true := by decide +kernel
theorem pZ_22_944 : alk tZ_22 944 = some (.aload_n 1, 1) := (rfl)
theorem pZ_22_945 : alk tZ_22 945 = some (.aload_n 0, 1) := (rfl)
theorem pZ_22_946 : alk tZ_22 946 = some (.iload_n 3, 1) := (rfl)
theorem pZ_22_947 : alk tZ_22 947 = some (.iconst 1, 1) := (rfl)
theorem pZ_22_948 : alk tZ_22 948 = some (.iadd, 1) := (rfl)
theorem pZ_22_949 : alk tZ_22 949 = some (.iaload, 1) := (rfl)
theorem pZ_22_950 : alk tZ_22 950 = some (.invokevirtual 107, 3) := (rfl)
theorem pZ_22_953 : alk tZ_22 953 = some (.aload_n 2, 1) := (rfl)
theorem pZ_22_954 : alk tZ_22 954 = some (.aload_n 0, 1) := (rfl)
theorem pZ_22_955 : alk tZ_22 955 = some (.iload_n 3, 1) := (rfl)
theorem pZ_22_956 : alk tZ_22 956 = some (.iconst 1, 1) := (rfl)
theorem pZ_22_957 : alk tZ_22 957 = some (.iadd, 1) := (rfl)
theorem pZ_22_958 : alk tZ_22 958 = some (.iaload, 1) := (rfl)
theorem pZ_22_959 : alk tZ_22 959 = some (.invokevirtual 110, 3) := (rfl)
theorem pZ_22_962 : alk tZ_22 962 = some (.if_icmp .eq 302, 3) := (rfl)
theorem pZ_22_965 : alk tZ_22 965 = some (.iconst 0, 1) := (rfl)
theorem pZ_22_966 : alk tZ_22 966 = some (.ireturn, 1) := (rfl)
section
variable {l : Launch} {G : Gc} {mc ms : Nat} {Q : Option AV → Wd → Prop} {w : Wd}
set_option maxRecDepth 100000 in
set_option maxHeartbeats 4000000 in
theorem lcZ_22 {c i cu su : Nat} (h : Inv c w) (hc : c < 1000) (hi : i + 6 ≤ gL G) (hL : gL G ≤ 3072) (h1 : cu + 8 ≤ mc) (h2 : su + 100 ≤ ms) (ih : ∀ w' cu' su', cu' ≤ cu + 8 → su' ≤ su + 100 → Inv (c + 1) w' → WP l G mZ 40 mc ms Q 1264 [some (.inr (.inr (some (901, 0)))), some (.inr (.inr (some (0, 0)))), some (.inr (.inr (some (13, 0)))), some (.inl (nI i))] [] w' cu' su') : WP l G mZ 40 mc ms Q 944 [some (.inr (.inr (some (901, 0)))), some (.inr (.inr (some (0, 0)))), some (.inr (.inr (some (13, 0)))), some (.inl (nI i))] [] w cu su := by
  have wC0 := ss_C0 (iv_S h)
  have wC13 : wC w 13 = 1 := (iv_M h).1.1
  have v1 : vp_in (nI i + 1) (gL G) := by rw [show nI i + 1 = nI (i + 1) from nI_add i 1]; exact vp_in_nI (by omega) (by omega)
  have c1 : (nI i + 1).toNatClampNeg = i + 1 := by rw [show nI i + 1 = nI (i + 1) from nI_add i 1]; exact nI_clamp (by omega)
  obtain ⟨n', hn', call⟩ := ca_test (l := l) (G := G) h hc (gS G (i + 1))
  refine wpn_ok (M := mZ) (C := cenZ) (X := (alk [])) (tb := tZ_22) (st := [1264]) eoZ XOk_nil kZ_22 60 _ _ _ _ _ _ ?_
  simp only [reduceCtorEq, fv0, fv1, fv2, fv3, bI_0, bI_1, bft, MSh_sI_eq, fsP_T, inL_0, inL_s, pad_0, pad_n, pad_s, wpn_s, wp1_s, lg_0, lg_s, lset_0, lset_s, kil_0, kil_s, st1_s, st2_s, isL_i, isL_l, isL_r, isL_n, spl_0, spl_s, cll_n, cll_s, catS_0, catS_s, jmp_s, alk_0, alk_s, otl_n, otl_s, List.nil_append, List.cons_append, List.contains_cons, List.contains_nil, Nat.reduceBEq, Bool.or_false, Bool.false_or, Bool.or_self, Bool.false_eq_true, Bool.true_or, Bool.or_true, if_true, if_false, ite_true, ite_false, ↓reduceIte, List.length_cons, List.length_nil, Nat.reduceAdd, Nat.reduceLT, Nat.reduceLeDiff, Nat.reduceEqDiff, Int.reduceAdd, Int.reduceLE, Int.toNat_natCast, Int.reduceToNat, Int.cast_ofNat_Int, true_and, and_true, false_and, and_false, true_implies, forall_const, eq_self, and_self, or_true, true_or, or_self, false_or, or_false, yI_sI, yR_sI, yC_sI, yN_sI, yI_sR, yR_sR, yC_sR, yN_sR, not_true_eq_false, not_false_eq_true, false_implies, implies_true, Nat.zero_add, Nat.add_zero, Nat.le_refl, Nat.reduceSub, Int.reduceSub, Int.reduceLT, Int.sub_zero, Int.sub_self, List.getElem?_toArray, List.getElem?_cons_zero, List.getElem?_cons_succ, Int.toNat_zero, Int.toNat_one, Int.lt_irrefl, pZ_22_944, stp_aload_n, pZ_22_945, pZ_22_946, stp_iload_n, pZ_22_947, stp_iconst, ic_1, pZ_22_948, stp_iadd, pZ_22_949, stp_iaload, pZ_22_950, stp_invokevirtual, qmZ_107, cy_S_test, pZ_22_953, pZ_22_954, pZ_22_955, pZ_22_956, pZ_22_957, pZ_22_958, pZ_22_959, qmZ_110, cy_M_test, pZ_22_962, stp_if_icmp_eq, pZ_22_965, ic_0, pZ_22_966, stp_ireturn, wC0, wC13, v1, c1]
  refine ⟨n', 8, 100, by omega, h1, h2, call.up.mono fun rr w1 h' => ?_⟩
  obtain ⟨⟨v, rfl, ty, m', hm', sem⟩, hup⟩ := h'
  obtain ⟨y, rfl⟩ : ∃ y : Int32, v = .inl y := ty
  have wD13 : 0 < wC w1 13 := by have := hup 13; omega
  refine wpn_ok (M := mZ) (C := cenZ) (X := (alk [])) (tb := tZ_22) (st := [1264]) eoZ XOk_nil kZ_22 60 _ _ _ _ _ _ ?_
  simp only [reduceCtorEq, fv0, fv1, fv2, fv3, bI_0, bI_1, bft, MSh_sI_eq, fsP_T, inL_0, inL_s, pad_0, pad_n, pad_s, wpn_s, wp1_s, lg_0, lg_s, lset_0, lset_s, kil_0, kil_s, st1_s, st2_s, isL_i, isL_l, isL_r, isL_n, spl_0, spl_s, cll_n, cll_s, catS_0, catS_s, jmp_s, alk_0, alk_s, otl_n, otl_s, List.nil_append, List.cons_append, List.contains_cons, List.contains_nil, Nat.reduceBEq, Bool.or_false, Bool.false_or, Bool.or_self, Bool.false_eq_true, Bool.true_or, Bool.or_true, if_true, if_false, ite_true, ite_false, ↓reduceIte, List.length_cons, List.length_nil, Nat.reduceAdd, Nat.reduceLT, Nat.reduceLeDiff, Nat.reduceEqDiff, Int.reduceAdd, Int.reduceLE, Int.toNat_natCast, Int.reduceToNat, Int.cast_ofNat_Int, true_and, and_true, false_and, and_false, true_implies, forall_const, eq_self, and_self, or_true, true_or, or_self, false_or, or_false, yI_sI, yR_sI, yC_sI, yN_sI, yI_sR, yR_sR, yC_sR, yN_sR, not_true_eq_false, not_false_eq_true, false_implies, implies_true, Nat.zero_add, Nat.add_zero, Nat.le_refl, Nat.reduceSub, Int.reduceSub, Int.reduceLT, Int.sub_zero, Int.sub_self, List.getElem?_toArray, List.getElem?_cons_zero, List.getElem?_cons_succ, Int.toNat_zero, Int.toNat_one, Int.lt_irrefl, pZ_22_944, stp_aload_n, pZ_22_945, pZ_22_946, stp_iload_n, pZ_22_947, stp_iconst, ic_1, pZ_22_948, stp_iadd, pZ_22_949, stp_iaload, pZ_22_950, stp_invokevirtual, qmZ_107, cy_S_test, pZ_22_953, pZ_22_954, pZ_22_955, pZ_22_956, pZ_22_957, pZ_22_958, pZ_22_959, qmZ_110, cy_M_test, pZ_22_962, stp_if_icmp_eq, pZ_22_965, ic_0, pZ_22_966, stp_ireturn, wD13, Option.toList_some, v1, c1]
  refine ⟨m', 0, 0, by omega, by omega, by omega, sem.mono fun rr w2 h' => ?_⟩
  obtain ⟨rfl, hI⟩ := h'
  refine wpn_ok (M := mZ) (C := cenZ) (X := (alk [])) (tb := tZ_22) (st := [1264]) eoZ XOk_nil kZ_22 60 _ _ _ _ _ _ ?_
  simp only [reduceCtorEq, fv0, fv1, fv2, fv3, bI_0, bI_1, bft, MSh_sI_eq, fsP_T, inL_0, inL_s, pad_0, pad_n, pad_s, wpn_s, wp1_s, lg_0, lg_s, lset_0, lset_s, kil_0, kil_s, st1_s, st2_s, isL_i, isL_l, isL_r, isL_n, spl_0, spl_s, cll_n, cll_s, catS_0, catS_s, jmp_s, alk_0, alk_s, otl_n, otl_s, List.nil_append, List.cons_append, List.contains_cons, List.contains_nil, Nat.reduceBEq, Bool.or_false, Bool.false_or, Bool.or_self, Bool.false_eq_true, Bool.true_or, Bool.or_true, if_true, if_false, ite_true, ite_false, ↓reduceIte, List.length_cons, List.length_nil, Nat.reduceAdd, Nat.reduceLT, Nat.reduceLeDiff, Nat.reduceEqDiff, Int.reduceAdd, Int.reduceLE, Int.toNat_natCast, Int.reduceToNat, Int.cast_ofNat_Int, true_and, and_true, false_and, and_false, true_implies, forall_const, eq_self, and_self, or_true, true_or, or_self, false_or, or_false, yI_sI, yR_sI, yC_sI, yN_sI, yI_sR, yR_sR, yC_sR, yN_sR, not_true_eq_false, not_false_eq_true, false_implies, implies_true, Nat.zero_add, Nat.add_zero, Nat.le_refl, Nat.reduceSub, Int.reduceSub, Int.reduceLT, Int.sub_zero, Int.sub_self, List.getElem?_toArray, List.getElem?_cons_zero, List.getElem?_cons_succ, Int.toNat_zero, Int.toNat_one, Int.lt_irrefl, pZ_22_944, stp_aload_n, pZ_22_945, pZ_22_946, stp_iload_n, pZ_22_947, stp_iconst, ic_1, pZ_22_948, stp_iadd, pZ_22_949, stp_iaload, pZ_22_950, stp_invokevirtual, qmZ_107, cy_S_test, pZ_22_953, pZ_22_954, pZ_22_955, pZ_22_956, pZ_22_957, pZ_22_958, pZ_22_959, qmZ_110, cy_M_test, pZ_22_962, stp_if_icmp_eq, pZ_22_965, ic_0, pZ_22_966, stp_ireturn, Option.toList_some]
  exact ih _ _ _ (by omega) (by omega) hI
end
def tZ_23 : TB := [(967, .aload_n 1, 1), (968, .aload_n 0, 1), (969, .iload_n 3, 1), (970, .iconst 1, 1), (971, .iadd, 1), (972, .iaload, 1), (973, .invokevirtual 111, 3), (976, .aload_n 2, 1), (977, .aload_n 0, 1), (978, .iload_n 3, 1), (979, .iconst 1, 1), (980, .iadd, 1), (981, .iaload, 1), (982, .invokevirtual 115, 3), (985, .lcmp, 1), (986, .ifCond .eq 278, 3), (989, .iconst 0, 1), (990, .ireturn, 1)]
set_option maxRecDepth 100000 in
theorem kZ_23 : tbOk (mB mZ) tZ_23 = true := by decide +kernel
theorem pZ_23_967 : alk tZ_23 967 = some (.aload_n 1, 1) := (rfl)
theorem pZ_23_968 : alk tZ_23 968 = some (.aload_n 0, 1) := (rfl)
theorem pZ_23_969 : alk tZ_23 969 = some (.iload_n 3, 1) := (rfl)
theorem pZ_23_970 : alk tZ_23 970 = some (.iconst 1, 1) := (rfl)
theorem pZ_23_971 : alk tZ_23 971 = some (.iadd, 1) := (rfl)
theorem pZ_23_972 : alk tZ_23 972 = some (.iaload, 1) := (rfl)
theorem pZ_23_973 : alk tZ_23 973 = some (.invokevirtual 111, 3) := (rfl)
theorem pZ_23_976 : alk tZ_23 976 = some (.aload_n 2, 1) := (rfl)
theorem pZ_23_977 : alk tZ_23 977 = some (.aload_n 0, 1) := (rfl)
theorem pZ_23_978 : alk tZ_23 978 = some (.iload_n 3, 1) := (rfl)
theorem pZ_23_979 : alk tZ_23 979 = some (.iconst 1, 1) := (rfl)
theorem pZ_23_980 : alk tZ_23 980 = some (.iadd, 1) := (rfl)
theorem pZ_23_981 : alk tZ_23 981 = some (.iaload, 1) := (rfl)
theorem pZ_23_982 : alk tZ_23 982 = some (.invokevirtual 115, 3) := (rfl)
theorem pZ_23_985 : alk tZ_23 985 = some (.lcmp, 1) := (rfl)
theorem pZ_23_986 : alk tZ_23 986 = some (.ifCond .eq 278, 3) := (rfl)
theorem pZ_23_989 : alk tZ_23 989 = some (.iconst 0, 1) := (rfl)
theorem pZ_23_990 : alk tZ_23 990 = some (.ireturn, 1) := (rfl)
section
variable {l : Launch} {G : Gc} {mc ms : Nat} {Q : Option AV → Wd → Prop} {w : Wd}
set_option maxRecDepth 100000 in
set_option maxHeartbeats 4000000 in
theorem lcZ_23 {c i cu su : Nat} (h : Inv c w) (hc : c < 1000) (hi : i + 6 ≤ gL G) (hL : gL G ≤ 3072) (h1 : cu + 8 ≤ mc) (h2 : su + 100 ≤ ms) (ih : ∀ w' cu' su', cu' ≤ cu + 8 → su' ≤ su + 100 → Inv (c + 1) w' → WP l G mZ 40 mc ms Q 1264 [some (.inr (.inr (some (901, 0)))), some (.inr (.inr (some (0, 0)))), some (.inr (.inr (some (13, 0)))), some (.inl (nI i))] [] w' cu' su') : WP l G mZ 40 mc ms Q 967 [some (.inr (.inr (some (901, 0)))), some (.inr (.inr (some (0, 0)))), some (.inr (.inr (some (13, 0)))), some (.inl (nI i))] [] w cu su := by
  have wC0 := ss_C0 (iv_S h)
  have wC13 : wC w 13 = 1 := (iv_M h).1.1
  have v1 : vp_in (nI i + 1) (gL G) := by rw [show nI i + 1 = nI (i + 1) from nI_add i 1]; exact vp_in_nI (by omega) (by omega)
  have c1 : (nI i + 1).toNatClampNeg = i + 1 := by rw [show nI i + 1 = nI (i + 1) from nI_add i 1]; exact nI_clamp (by omega)
  obtain ⟨n', hn', call⟩ := ca_account (l := l) (G := G) h (gS G (i + 1))
  refine wpn_ok (M := mZ) (C := cenZ) (X := (alk [])) (tb := tZ_23) (st := [1264]) eoZ XOk_nil kZ_23 60 _ _ _ _ _ _ ?_
  simp only [reduceCtorEq, fv0, fv1, fv2, fv3, bI_0, bI_1, bft, MSh_sI_eq, fsP_T, inL_0, inL_s, pad_0, pad_n, pad_s, wpn_s, wp1_s, lg_0, lg_s, lset_0, lset_s, kil_0, kil_s, st1_s, st2_s, isL_i, isL_l, isL_r, isL_n, spl_0, spl_s, cll_n, cll_s, catS_0, catS_s, jmp_s, alk_0, alk_s, otl_n, otl_s, List.nil_append, List.cons_append, List.contains_cons, List.contains_nil, Nat.reduceBEq, Bool.or_false, Bool.false_or, Bool.or_self, Bool.false_eq_true, Bool.true_or, Bool.or_true, if_true, if_false, ite_true, ite_false, ↓reduceIte, List.length_cons, List.length_nil, Nat.reduceAdd, Nat.reduceLT, Nat.reduceLeDiff, Nat.reduceEqDiff, Int.reduceAdd, Int.reduceLE, Int.toNat_natCast, Int.reduceToNat, Int.cast_ofNat_Int, true_and, and_true, false_and, and_false, true_implies, forall_const, eq_self, and_self, or_true, true_or, or_self, false_or, or_false, yI_sI, yR_sI, yC_sI, yN_sI, yI_sR, yR_sR, yC_sR, yN_sR, not_true_eq_false, not_false_eq_true, false_implies, implies_true, Nat.zero_add, Nat.add_zero, Nat.le_refl, Nat.reduceSub, Int.reduceSub, Int.reduceLT, Int.sub_zero, Int.sub_self, List.getElem?_toArray, List.getElem?_cons_zero, List.getElem?_cons_succ, Int.toNat_zero, Int.toNat_one, Int.lt_irrefl, pZ_23_967, stp_aload_n, pZ_23_968, pZ_23_969, stp_iload_n, pZ_23_970, stp_iconst, ic_1, pZ_23_971, stp_iadd, pZ_23_972, stp_iaload, pZ_23_973, stp_invokevirtual, qmZ_111, cy_S_account, pZ_23_976, pZ_23_977, pZ_23_978, pZ_23_979, pZ_23_980, pZ_23_981, pZ_23_982, qmZ_115, cy_M_account, pZ_23_985, stp_lcmp, pZ_23_986, stp_ifCond_eq, pZ_23_989, ic_0, pZ_23_990, stp_ireturn, wC0, wC13, v1, c1]
  refine ⟨n', 8, 100, by omega, h1, h2, call.up.mono fun rr w1 h' => ?_⟩
  obtain ⟨⟨v, rfl, ty, m', hm', sem⟩, hup⟩ := h'
  obtain ⟨y, rfl⟩ : ∃ y : Int64, v = .inr (.inl y) := ty
  have wD13 : 0 < wC w1 13 := by have := hup 13; omega
  refine wpn_ok (M := mZ) (C := cenZ) (X := (alk [])) (tb := tZ_23) (st := [1264]) eoZ XOk_nil kZ_23 60 _ _ _ _ _ _ ?_
  simp only [reduceCtorEq, fv0, fv1, fv2, fv3, bI_0, bI_1, bft, MSh_sI_eq, fsP_T, inL_0, inL_s, pad_0, pad_n, pad_s, wpn_s, wp1_s, lg_0, lg_s, lset_0, lset_s, kil_0, kil_s, st1_s, st2_s, isL_i, isL_l, isL_r, isL_n, spl_0, spl_s, cll_n, cll_s, catS_0, catS_s, jmp_s, alk_0, alk_s, otl_n, otl_s, List.nil_append, List.cons_append, List.contains_cons, List.contains_nil, Nat.reduceBEq, Bool.or_false, Bool.false_or, Bool.or_self, Bool.false_eq_true, Bool.true_or, Bool.or_true, if_true, if_false, ite_true, ite_false, ↓reduceIte, List.length_cons, List.length_nil, Nat.reduceAdd, Nat.reduceLT, Nat.reduceLeDiff, Nat.reduceEqDiff, Int.reduceAdd, Int.reduceLE, Int.toNat_natCast, Int.reduceToNat, Int.cast_ofNat_Int, true_and, and_true, false_and, and_false, true_implies, forall_const, eq_self, and_self, or_true, true_or, or_self, false_or, or_false, yI_sI, yR_sI, yC_sI, yN_sI, yI_sR, yR_sR, yC_sR, yN_sR, not_true_eq_false, not_false_eq_true, false_implies, implies_true, Nat.zero_add, Nat.add_zero, Nat.le_refl, Nat.reduceSub, Int.reduceSub, Int.reduceLT, Int.sub_zero, Int.sub_self, List.getElem?_toArray, List.getElem?_cons_zero, List.getElem?_cons_succ, Int.toNat_zero, Int.toNat_one, Int.lt_irrefl, pZ_23_967, stp_aload_n, pZ_23_968, pZ_23_969, stp_iload_n, pZ_23_970, stp_iconst, ic_1, pZ_23_971, stp_iadd, pZ_23_972, stp_iaload, pZ_23_973, stp_invokevirtual, qmZ_111, cy_S_account, pZ_23_976, pZ_23_977, pZ_23_978, pZ_23_979, pZ_23_980, pZ_23_981, pZ_23_982, qmZ_115, cy_M_account, pZ_23_985, stp_lcmp, pZ_23_986, stp_ifCond_eq, pZ_23_989, ic_0, pZ_23_990, stp_ireturn, wD13, Option.toList_some, v1, c1]
  refine ⟨m', 0, 0, by omega, by omega, by omega, sem.mono fun rr w2 h' => ?_⟩
  obtain ⟨rfl, hI⟩ := h'
  refine wpn_ok (M := mZ) (C := cenZ) (X := (alk [])) (tb := tZ_23) (st := [1264]) eoZ XOk_nil kZ_23 60 _ _ _ _ _ _ ?_
  simp only [reduceCtorEq, fv0, fv1, fv2, fv3, bI_0, bI_1, bft, MSh_sI_eq, fsP_T, inL_0, inL_s, pad_0, pad_n, pad_s, wpn_s, wp1_s, lg_0, lg_s, lset_0, lset_s, kil_0, kil_s, st1_s, st2_s, isL_i, isL_l, isL_r, isL_n, spl_0, spl_s, cll_n, cll_s, catS_0, catS_s, jmp_s, alk_0, alk_s, otl_n, otl_s, List.nil_append, List.cons_append, List.contains_cons, List.contains_nil, Nat.reduceBEq, Bool.or_false, Bool.false_or, Bool.or_self, Bool.false_eq_true, Bool.true_or, Bool.or_true, if_true, if_false, ite_true, ite_false, ↓reduceIte, List.length_cons, List.length_nil, Nat.reduceAdd, Nat.reduceLT, Nat.reduceLeDiff, Nat.reduceEqDiff, Int.reduceAdd, Int.reduceLE, Int.toNat_natCast, Int.reduceToNat, Int.cast_ofNat_Int, true_and, and_true, false_and, and_false, true_implies, forall_const, eq_self, and_self, or_true, true_or, or_self, false_or, or_false, yI_sI, yR_sI, yC_sI, yN_sI, yI_sR, yR_sR, yC_sR, yN_sR, not_true_eq_false, not_false_eq_true, false_implies, implies_true, Nat.zero_add, Nat.add_zero, Nat.le_refl, Nat.reduceSub, Int.reduceSub, Int.reduceLT, Int.sub_zero, Int.sub_self, List.getElem?_toArray, List.getElem?_cons_zero, List.getElem?_cons_succ, Int.toNat_zero, Int.toNat_one, Int.lt_irrefl, pZ_23_967, stp_aload_n, pZ_23_968, pZ_23_969, stp_iload_n, pZ_23_970, stp_iconst, ic_1, pZ_23_971, stp_iadd, pZ_23_972, stp_iaload, pZ_23_973, stp_invokevirtual, qmZ_111, cy_S_account, pZ_23_976, pZ_23_977, pZ_23_978, pZ_23_979, pZ_23_980, pZ_23_981, pZ_23_982, qmZ_115, cy_M_account, pZ_23_985, stp_lcmp, pZ_23_986, stp_ifCond_eq, pZ_23_989, ic_0, pZ_23_990, stp_ireturn, Option.toList_some, lcmp_0]
  exact ih _ _ _ (by omega) (by omega) hI
end
def tZ_24 : TB := [(991, .aload_n 1, 1), (992, .aload_n 0, 1), (993, .iload_n 3, 1), (994, .iconst 1, 1), (995, .iadd, 1), (996, .iaload, 1), (997, .aload_n 0, 1), (998, .iload_n 3, 1), (999, .iconst 2, 1), (1000, .iadd, 1), (1001, .iaload, 1), (1002, .invokevirtual 116, 3), (1005, .aload_n 2, 1), (1006, .aload_n 0, 1), (1007, .iload_n 3, 1), (1008, .iconst 1, 1), (1009, .iadd, 1), (1010, .iaload, 1), (1011, .aload_n 0, 1), (1012, .iload_n 3, 1), (1013, .iconst 2, 1), (1014, .iadd, 1), (1015, .iaload, 1), (1016, .invokevirtual 119, 3), (1019, .if_icmp .eq 245, 3), (1022, .iconst 0, 1), (1023, .ireturn, 1)]
set_option maxRecDepth 100000 in
theorem kZ_24 : tbOk (mB mZ) tZ_24 = true := by decide +kernel
theorem pZ_24_991 : alk tZ_24 991 = some (.aload_n 1, 1) := (rfl)
theorem pZ_24_992 : alk tZ_24 992 = some (.aload_n 0, 1) := (rfl)
theorem pZ_24_993 : alk tZ_24 993 = some (.iload_n 3, 1) := (rfl)
theorem pZ_24_994 : alk tZ_24 994 = some (.iconst 1, 1) := (rfl)
theorem pZ_24_995 : alk tZ_24 995 = some (.iadd, 1) := (rfl)
theorem pZ_24_996 : alk tZ_24 996 = some (.iaload, 1) := (rfl)
theorem pZ_24_997 : alk tZ_24 997 = some (.aload_n 0, 1) := (rfl)
theorem pZ_24_998 : alk tZ_24 998 = some (.iload_n 3, 1) := (rfl)
theorem pZ_24_999 : alk tZ_24 999 = some (.iconst 2, 1) := (rfl)
theorem pZ_24_1000 : alk tZ_24 1000 = some (.iadd, 1) := (rfl)
theorem pZ_24_1001 : alk tZ_24 1001 = some (.iaload, 1) := (rfl)
theorem pZ_24_1002 : alk tZ_24 1002 = some (.invokevirtual 116, 3) := (rfl)
theorem pZ_24_1005 : alk tZ_24 1005 = some (.aload_n 2, 1) := (rfl)
theorem pZ_24_1006 : alk tZ_24 1006 = some (.aload_n 0, 1) := (rfl)
theorem pZ_24_1007 : alk tZ_24 1007 = some (.iload_n 3, 1) := (rfl)
theorem pZ_24_1008 : alk tZ_24 1008 = some (.iconst 1, 1) := (rfl)
theorem pZ_24_1009 : alk tZ_24 1009 = some (.iadd, 1) := (rfl)
theorem pZ_24_1010 : alk tZ_24 1010 = some (.iaload, 1) := (rfl)
theorem pZ_24_1011 : alk tZ_24 1011 = some (.aload_n 0, 1) := (rfl)
theorem pZ_24_1012 : alk tZ_24 1012 = some (.iload_n 3, 1) := (rfl)
theorem pZ_24_1013 : alk tZ_24 1013 = some (.iconst 2, 1) := (rfl)
theorem pZ_24_1014 : alk tZ_24 1014 = some (.iadd, 1) := (rfl)
theorem pZ_24_1015 : alk tZ_24 1015 = some (.iaload, 1) := (rfl)
theorem pZ_24_1016 : alk tZ_24 1016 = some (.invokevirtual 119, 3) := (rfl)
theorem pZ_24_1019 : alk tZ_24 1019 = some (.if_icmp .eq 245, 3) := (rfl)
theorem pZ_24_1022 : alk tZ_24 1022 = some (.iconst 0, 1) := (rfl)
theorem pZ_24_1023 : alk tZ_24 1023 = some (.ireturn, 1) := (rfl)
section
variable {l : Launch} {G : Gc} {mc ms : Nat} {Q : Option AV → Wd → Prop} {w : Wd}
set_option maxRecDepth 100000 in
set_option maxHeartbeats 4000000 in
theorem lcZ_24 {c i cu su : Nat} (h : Inv c w) (hc : c < 1000) (hi : i + 6 ≤ gL G) (hL : gL G ≤ 3072) (h1 : cu + 8 ≤ mc) (h2 : su + 100 ≤ ms) (ih : ∀ w' cu' su', cu' ≤ cu + 8 → su' ≤ su + 100 → Inv (c + 1) w' → WP l G mZ 40 mc ms Q 1264 [some (.inr (.inr (some (901, 0)))), some (.inr (.inr (some (0, 0)))), some (.inr (.inr (some (13, 0)))), some (.inl (nI i))] [] w' cu' su') : WP l G mZ 40 mc ms Q 991 [some (.inr (.inr (some (901, 0)))), some (.inr (.inr (some (0, 0)))), some (.inr (.inr (some (13, 0)))), some (.inl (nI i))] [] w cu su := by
  have wC0 := ss_C0 (iv_S h)
  have wC13 : wC w 13 = 1 := (iv_M h).1.1
  have v1 : vp_in (nI i + 1) (gL G) := by rw [show nI i + 1 = nI (i + 1) from nI_add i 1]; exact vp_in_nI (by omega) (by omega)
  have c1 : (nI i + 1).toNatClampNeg = i + 1 := by rw [show nI i + 1 = nI (i + 1) from nI_add i 1]; exact nI_clamp (by omega)
  have v2 : vp_in (nI i + 2) (gL G) := by rw [show nI i + 2 = nI (i + 2) from nI_add i 2]; exact vp_in_nI (by omega) (by omega)
  have c2 : (nI i + 2).toNatClampNeg = i + 2 := by rw [show nI i + 2 = nI (i + 2) from nI_add i 2]; exact nI_clamp (by omega)
  obtain ⟨n', hn', call⟩ := ca_write (l := l) (G := G) h hc (gS G (i + 1)) (gS G (i + 2))
  refine wpn_ok (M := mZ) (C := cenZ) (X := (alk [])) (tb := tZ_24) (st := [1264]) eoZ XOk_nil kZ_24 60 _ _ _ _ _ _ ?_
  simp only [reduceCtorEq, fv0, fv1, fv2, fv3, bI_0, bI_1, bft, MSh_sI_eq, fsP_T, inL_0, inL_s, pad_0, pad_n, pad_s, wpn_s, wp1_s, lg_0, lg_s, lset_0, lset_s, kil_0, kil_s, st1_s, st2_s, isL_i, isL_l, isL_r, isL_n, spl_0, spl_s, cll_n, cll_s, catS_0, catS_s, jmp_s, alk_0, alk_s, otl_n, otl_s, List.nil_append, List.cons_append, List.contains_cons, List.contains_nil, Nat.reduceBEq, Bool.or_false, Bool.false_or, Bool.or_self, Bool.false_eq_true, Bool.true_or, Bool.or_true, if_true, if_false, ite_true, ite_false, ↓reduceIte, List.length_cons, List.length_nil, Nat.reduceAdd, Nat.reduceLT, Nat.reduceLeDiff, Nat.reduceEqDiff, Int.reduceAdd, Int.reduceLE, Int.toNat_natCast, Int.reduceToNat, Int.cast_ofNat_Int, true_and, and_true, false_and, and_false, true_implies, forall_const, eq_self, and_self, or_true, true_or, or_self, false_or, or_false, yI_sI, yR_sI, yC_sI, yN_sI, yI_sR, yR_sR, yC_sR, yN_sR, not_true_eq_false, not_false_eq_true, false_implies, implies_true, Nat.zero_add, Nat.add_zero, Nat.le_refl, Nat.reduceSub, Int.reduceSub, Int.reduceLT, Int.sub_zero, Int.sub_self, List.getElem?_toArray, List.getElem?_cons_zero, List.getElem?_cons_succ, Int.toNat_zero, Int.toNat_one, Int.lt_irrefl, pZ_24_991, stp_aload_n, pZ_24_992, pZ_24_993, stp_iload_n, pZ_24_994, stp_iconst, ic_1, pZ_24_995, stp_iadd, pZ_24_996, stp_iaload, pZ_24_997, pZ_24_998, pZ_24_999, ic_2, pZ_24_1000, pZ_24_1001, pZ_24_1002, stp_invokevirtual, qmZ_116, cy_S_write, pZ_24_1005, pZ_24_1006, pZ_24_1007, pZ_24_1008, pZ_24_1009, pZ_24_1010, pZ_24_1011, pZ_24_1012, pZ_24_1013, pZ_24_1014, pZ_24_1015, pZ_24_1016, qmZ_119, cy_M_write, pZ_24_1019, stp_if_icmp_eq, pZ_24_1022, ic_0, pZ_24_1023, stp_ireturn, wC0, wC13, v1, c1, v2, c2]
  refine ⟨n', 8, 100, by omega, h1, h2, call.up.mono fun rr w1 h' => ?_⟩
  obtain ⟨⟨v, rfl, ty, m', hm', sem⟩, hup⟩ := h'
  obtain ⟨y, rfl⟩ : ∃ y : Int32, v = .inl y := ty
  have wD13 : 0 < wC w1 13 := by have := hup 13; omega
  refine wpn_ok (M := mZ) (C := cenZ) (X := (alk [])) (tb := tZ_24) (st := [1264]) eoZ XOk_nil kZ_24 60 _ _ _ _ _ _ ?_
  simp only [reduceCtorEq, fv0, fv1, fv2, fv3, bI_0, bI_1, bft, MSh_sI_eq, fsP_T, inL_0, inL_s, pad_0, pad_n, pad_s, wpn_s, wp1_s, lg_0, lg_s, lset_0, lset_s, kil_0, kil_s, st1_s, st2_s, isL_i, isL_l, isL_r, isL_n, spl_0, spl_s, cll_n, cll_s, catS_0, catS_s, jmp_s, alk_0, alk_s, otl_n, otl_s, List.nil_append, List.cons_append, List.contains_cons, List.contains_nil, Nat.reduceBEq, Bool.or_false, Bool.false_or, Bool.or_self, Bool.false_eq_true, Bool.true_or, Bool.or_true, if_true, if_false, ite_true, ite_false, ↓reduceIte, List.length_cons, List.length_nil, Nat.reduceAdd, Nat.reduceLT, Nat.reduceLeDiff, Nat.reduceEqDiff, Int.reduceAdd, Int.reduceLE, Int.toNat_natCast, Int.reduceToNat, Int.cast_ofNat_Int, true_and, and_true, false_and, and_false, true_implies, forall_const, eq_self, and_self, or_true, true_or, or_self, false_or, or_false, yI_sI, yR_sI, yC_sI, yN_sI, yI_sR, yR_sR, yC_sR, yN_sR, not_true_eq_false, not_false_eq_true, false_implies, implies_true, Nat.zero_add, Nat.add_zero, Nat.le_refl, Nat.reduceSub, Int.reduceSub, Int.reduceLT, Int.sub_zero, Int.sub_self, List.getElem?_toArray, List.getElem?_cons_zero, List.getElem?_cons_succ, Int.toNat_zero, Int.toNat_one, Int.lt_irrefl, pZ_24_991, stp_aload_n, pZ_24_992, pZ_24_993, stp_iload_n, pZ_24_994, stp_iconst, ic_1, pZ_24_995, stp_iadd, pZ_24_996, stp_iaload, pZ_24_997, pZ_24_998, pZ_24_999, ic_2, pZ_24_1000, pZ_24_1001, pZ_24_1002, stp_invokevirtual, qmZ_116, cy_S_write, pZ_24_1005, pZ_24_1006, pZ_24_1007, pZ_24_1008, pZ_24_1009, pZ_24_1010, pZ_24_1011, pZ_24_1012, pZ_24_1013, pZ_24_1014, pZ_24_1015, pZ_24_1016, qmZ_119, cy_M_write, pZ_24_1019, stp_if_icmp_eq, pZ_24_1022, ic_0, pZ_24_1023, stp_ireturn, wD13, Option.toList_some, v1, c1, v2, c2]
  refine ⟨m', 0, 0, by omega, by omega, by omega, sem.mono fun rr w2 h' => ?_⟩
  obtain ⟨rfl, hI⟩ := h'
  refine wpn_ok (M := mZ) (C := cenZ) (X := (alk [])) (tb := tZ_24) (st := [1264]) eoZ XOk_nil kZ_24 60 _ _ _ _ _ _ ?_
  simp only [reduceCtorEq, fv0, fv1, fv2, fv3, bI_0, bI_1, bft, MSh_sI_eq, fsP_T, inL_0, inL_s, pad_0, pad_n, pad_s, wpn_s, wp1_s, lg_0, lg_s, lset_0, lset_s, kil_0, kil_s, st1_s, st2_s, isL_i, isL_l, isL_r, isL_n, spl_0, spl_s, cll_n, cll_s, catS_0, catS_s, jmp_s, alk_0, alk_s, otl_n, otl_s, List.nil_append, List.cons_append, List.contains_cons, List.contains_nil, Nat.reduceBEq, Bool.or_false, Bool.false_or, Bool.or_self, Bool.false_eq_true, Bool.true_or, Bool.or_true, if_true, if_false, ite_true, ite_false, ↓reduceIte, List.length_cons, List.length_nil, Nat.reduceAdd, Nat.reduceLT, Nat.reduceLeDiff, Nat.reduceEqDiff, Int.reduceAdd, Int.reduceLE, Int.toNat_natCast, Int.reduceToNat, Int.cast_ofNat_Int, true_and, and_true, false_and, and_false, true_implies, forall_const, eq_self, and_self, or_true, true_or, or_self, false_or, or_false, yI_sI, yR_sI, yC_sI, yN_sI, yI_sR, yR_sR, yC_sR, yN_sR, not_true_eq_false, not_false_eq_true, false_implies, implies_true, Nat.zero_add, Nat.add_zero, Nat.le_refl, Nat.reduceSub, Int.reduceSub, Int.reduceLT, Int.sub_zero, Int.sub_self, List.getElem?_toArray, List.getElem?_cons_zero, List.getElem?_cons_succ, Int.toNat_zero, Int.toNat_one, Int.lt_irrefl, pZ_24_991, stp_aload_n, pZ_24_992, pZ_24_993, stp_iload_n, pZ_24_994, stp_iconst, ic_1, pZ_24_995, stp_iadd, pZ_24_996, stp_iaload, pZ_24_997, pZ_24_998, pZ_24_999, ic_2, pZ_24_1000, pZ_24_1001, pZ_24_1002, stp_invokevirtual, qmZ_116, cy_S_write, pZ_24_1005, pZ_24_1006, pZ_24_1007, pZ_24_1008, pZ_24_1009, pZ_24_1010, pZ_24_1011, pZ_24_1012, pZ_24_1013, pZ_24_1014, pZ_24_1015, pZ_24_1016, qmZ_119, cy_M_write, pZ_24_1019, stp_if_icmp_eq, pZ_24_1022, ic_0, pZ_24_1023, stp_ireturn, Option.toList_some]
  exact ih _ _ _ (by omega) (by omega) hI
end
def tZ_25 : TB := [(1024, .aload_n 1, 1), (1025, .aload_n 0, 1), (1026, .iload_n 3, 1), (1027, .iconst 1, 1), (1028, .iadd, 1), (1029, .iaload, 1), (1030, .invokevirtual 120, 3), (1033, .aload_n 2, 1), (1034, .aload_n 0, 1), (1035, .iload_n 3, 1), (1036, .iconst 1, 1), (1037, .iadd, 1), (1038, .iaload, 1), (1039, .invokevirtual 123, 3), (1042, .if_icmp .eq 222, 3), (1045, .iconst 0, 1), (1046, .ireturn, 1)]
set_option maxRecDepth 100000 in
theorem kZ_25 : tbOk (mB mZ) tZ_25 = true := by decide +kernel
theorem pZ_25_1024 : alk tZ_25 1024 = some (.aload_n 1, 1) := (rfl)
theorem pZ_25_1025 : alk tZ_25 1025 = some (.aload_n 0, 1) := (rfl)
theorem pZ_25_1026 : alk tZ_25 1026 = some (.iload_n 3, 1) := (rfl)
theorem pZ_25_1027 : alk tZ_25 1027 = some (.iconst 1, 1) := (rfl)
theorem pZ_25_1028 : alk tZ_25 1028 = some (.iadd, 1) := (rfl)
theorem pZ_25_1029 : alk tZ_25 1029 = some (.iaload, 1) := (rfl)
theorem pZ_25_1030 : alk tZ_25 1030 = some (.invokevirtual 120, 3) := (rfl)
theorem pZ_25_1033 : alk tZ_25 1033 = some (.aload_n 2, 1) := (rfl)
theorem pZ_25_1034 : alk tZ_25 1034 = some (.aload_n 0, 1) := (rfl)
theorem pZ_25_1035 : alk tZ_25 1035 = some (.iload_n 3, 1) := (rfl)
theorem pZ_25_1036 : alk tZ_25 1036 = some (.iconst 1, 1) := (rfl)
theorem pZ_25_1037 : alk tZ_25 1037 = some (.iadd, 1) := (rfl)
theorem pZ_25_1038 : alk tZ_25 1038 = some (.iaload, 1) := (rfl)
theorem pZ_25_1039 : alk tZ_25 1039 = some (.invokevirtual 123, 3) := (rfl)
theorem pZ_25_1042 : alk tZ_25 1042 = some (.if_icmp .eq 222, 3) := (rfl)
theorem pZ_25_1045 : alk tZ_25 1045 = some (.iconst 0, 1) := (rfl)
theorem pZ_25_1046 : alk tZ_25 1046 = some (.ireturn, 1) := (rfl)
section
variable {l : Launch} {G : Gc} {mc ms : Nat} {Q : Option AV → Wd → Prop} {w : Wd}
set_option maxRecDepth 100000 in
set_option maxHeartbeats 4000000 in
theorem lcZ_25 {c i cu su : Nat} (h : Inv c w) (hc : c < 1000) (hi : i + 6 ≤ gL G) (hL : gL G ≤ 3072) (h1 : cu + 8 ≤ mc) (h2 : su + 100 ≤ ms) (ih : ∀ w' cu' su', cu' ≤ cu + 8 → su' ≤ su + 100 → Inv (c + 1) w' → WP l G mZ 40 mc ms Q 1264 [some (.inr (.inr (some (901, 0)))), some (.inr (.inr (some (0, 0)))), some (.inr (.inr (some (13, 0)))), some (.inl (nI i))] [] w' cu' su') : WP l G mZ 40 mc ms Q 1024 [some (.inr (.inr (some (901, 0)))), some (.inr (.inr (some (0, 0)))), some (.inr (.inr (some (13, 0)))), some (.inl (nI i))] [] w cu su := by
  have wC0 := ss_C0 (iv_S h)
  have wC13 : wC w 13 = 1 := (iv_M h).1.1
  have v1 : vp_in (nI i + 1) (gL G) := by rw [show nI i + 1 = nI (i + 1) from nI_add i 1]; exact vp_in_nI (by omega) (by omega)
  have c1 : (nI i + 1).toNatClampNeg = i + 1 := by rw [show nI i + 1 = nI (i + 1) from nI_add i 1]; exact nI_clamp (by omega)
  obtain ⟨n', hn', call⟩ := ca_whose (l := l) (G := G) h (gS G (i + 1))
  refine wpn_ok (M := mZ) (C := cenZ) (X := (alk [])) (tb := tZ_25) (st := [1264]) eoZ XOk_nil kZ_25 60 _ _ _ _ _ _ ?_
  simp only [reduceCtorEq, fv0, fv1, fv2, fv3, bI_0, bI_1, bft, MSh_sI_eq, fsP_T, inL_0, inL_s, pad_0, pad_n, pad_s, wpn_s, wp1_s, lg_0, lg_s, lset_0, lset_s, kil_0, kil_s, st1_s, st2_s, isL_i, isL_l, isL_r, isL_n, spl_0, spl_s, cll_n, cll_s, catS_0, catS_s, jmp_s, alk_0, alk_s, otl_n, otl_s, List.nil_append, List.cons_append, List.contains_cons, List.contains_nil, Nat.reduceBEq, Bool.or_false, Bool.false_or, Bool.or_self, Bool.false_eq_true, Bool.true_or, Bool.or_true, if_true, if_false, ite_true, ite_false, ↓reduceIte, List.length_cons, List.length_nil, Nat.reduceAdd, Nat.reduceLT, Nat.reduceLeDiff, Nat.reduceEqDiff, Int.reduceAdd, Int.reduceLE, Int.toNat_natCast, Int.reduceToNat, Int.cast_ofNat_Int, true_and, and_true, false_and, and_false, true_implies, forall_const, eq_self, and_self, or_true, true_or, or_self, false_or, or_false, yI_sI, yR_sI, yC_sI, yN_sI, yI_sR, yR_sR, yC_sR, yN_sR, not_true_eq_false, not_false_eq_true, false_implies, implies_true, Nat.zero_add, Nat.add_zero, Nat.le_refl, Nat.reduceSub, Int.reduceSub, Int.reduceLT, Int.sub_zero, Int.sub_self, List.getElem?_toArray, List.getElem?_cons_zero, List.getElem?_cons_succ, Int.toNat_zero, Int.toNat_one, Int.lt_irrefl, pZ_25_1024, stp_aload_n, pZ_25_1025, pZ_25_1026, stp_iload_n, pZ_25_1027, stp_iconst, ic_1, pZ_25_1028, stp_iadd, pZ_25_1029, stp_iaload, pZ_25_1030, stp_invokevirtual, qmZ_120, cy_S_whose, pZ_25_1033, pZ_25_1034, pZ_25_1035, pZ_25_1036, pZ_25_1037, pZ_25_1038, pZ_25_1039, qmZ_123, cy_M_whose, pZ_25_1042, stp_if_icmp_eq, pZ_25_1045, ic_0, pZ_25_1046, stp_ireturn, wC0, wC13, v1, c1]
  refine ⟨n', 8, 100, by omega, h1, h2, call.up.mono fun rr w1 h' => ?_⟩
  obtain ⟨⟨v, rfl, ty, m', hm', sem⟩, hup⟩ := h'
  obtain ⟨y, rfl⟩ : ∃ y : Int32, v = .inl y := ty
  have wD13 : 0 < wC w1 13 := by have := hup 13; omega
  refine wpn_ok (M := mZ) (C := cenZ) (X := (alk [])) (tb := tZ_25) (st := [1264]) eoZ XOk_nil kZ_25 60 _ _ _ _ _ _ ?_
  simp only [reduceCtorEq, fv0, fv1, fv2, fv3, bI_0, bI_1, bft, MSh_sI_eq, fsP_T, inL_0, inL_s, pad_0, pad_n, pad_s, wpn_s, wp1_s, lg_0, lg_s, lset_0, lset_s, kil_0, kil_s, st1_s, st2_s, isL_i, isL_l, isL_r, isL_n, spl_0, spl_s, cll_n, cll_s, catS_0, catS_s, jmp_s, alk_0, alk_s, otl_n, otl_s, List.nil_append, List.cons_append, List.contains_cons, List.contains_nil, Nat.reduceBEq, Bool.or_false, Bool.false_or, Bool.or_self, Bool.false_eq_true, Bool.true_or, Bool.or_true, if_true, if_false, ite_true, ite_false, ↓reduceIte, List.length_cons, List.length_nil, Nat.reduceAdd, Nat.reduceLT, Nat.reduceLeDiff, Nat.reduceEqDiff, Int.reduceAdd, Int.reduceLE, Int.toNat_natCast, Int.reduceToNat, Int.cast_ofNat_Int, true_and, and_true, false_and, and_false, true_implies, forall_const, eq_self, and_self, or_true, true_or, or_self, false_or, or_false, yI_sI, yR_sI, yC_sI, yN_sI, yI_sR, yR_sR, yC_sR, yN_sR, not_true_eq_false, not_false_eq_true, false_implies, implies_true, Nat.zero_add, Nat.add_zero, Nat.le_refl, Nat.reduceSub, Int.reduceSub, Int.reduceLT, Int.sub_zero, Int.sub_self, List.getElem?_toArray, List.getElem?_cons_zero, List.getElem?_cons_succ, Int.toNat_zero, Int.toNat_one, Int.lt_irrefl, pZ_25_1024, stp_aload_n, pZ_25_1025, pZ_25_1026, stp_iload_n, pZ_25_1027, stp_iconst, ic_1, pZ_25_1028, stp_iadd, pZ_25_1029, stp_iaload, pZ_25_1030, stp_invokevirtual, qmZ_120, cy_S_whose, pZ_25_1033, pZ_25_1034, pZ_25_1035, pZ_25_1036, pZ_25_1037, pZ_25_1038, pZ_25_1039, qmZ_123, cy_M_whose, pZ_25_1042, stp_if_icmp_eq, pZ_25_1045, ic_0, pZ_25_1046, stp_ireturn, wD13, Option.toList_some, v1, c1]
  refine ⟨m', 0, 0, by omega, by omega, by omega, sem.mono fun rr w2 h' => ?_⟩
  obtain ⟨rfl, hI⟩ := h'
  refine wpn_ok (M := mZ) (C := cenZ) (X := (alk [])) (tb := tZ_25) (st := [1264]) eoZ XOk_nil kZ_25 60 _ _ _ _ _ _ ?_
  simp only [reduceCtorEq, fv0, fv1, fv2, fv3, bI_0, bI_1, bft, MSh_sI_eq, fsP_T, inL_0, inL_s, pad_0, pad_n, pad_s, wpn_s, wp1_s, lg_0, lg_s, lset_0, lset_s, kil_0, kil_s, st1_s, st2_s, isL_i, isL_l, isL_r, isL_n, spl_0, spl_s, cll_n, cll_s, catS_0, catS_s, jmp_s, alk_0, alk_s, otl_n, otl_s, List.nil_append, List.cons_append, List.contains_cons, List.contains_nil, Nat.reduceBEq, Bool.or_false, Bool.false_or, Bool.or_self, Bool.false_eq_true, Bool.true_or, Bool.or_true, if_true, if_false, ite_true, ite_false, ↓reduceIte, List.length_cons, List.length_nil, Nat.reduceAdd, Nat.reduceLT, Nat.reduceLeDiff, Nat.reduceEqDiff, Int.reduceAdd, Int.reduceLE, Int.toNat_natCast, Int.reduceToNat, Int.cast_ofNat_Int, true_and, and_true, false_and, and_false, true_implies, forall_const, eq_self, and_self, or_true, true_or, or_self, false_or, or_false, yI_sI, yR_sI, yC_sI, yN_sI, yI_sR, yR_sR, yC_sR, yN_sR, not_true_eq_false, not_false_eq_true, false_implies, implies_true, Nat.zero_add, Nat.add_zero, Nat.le_refl, Nat.reduceSub, Int.reduceSub, Int.reduceLT, Int.sub_zero, Int.sub_self, List.getElem?_toArray, List.getElem?_cons_zero, List.getElem?_cons_succ, Int.toNat_zero, Int.toNat_one, Int.lt_irrefl, pZ_25_1024, stp_aload_n, pZ_25_1025, pZ_25_1026, stp_iload_n, pZ_25_1027, stp_iconst, ic_1, pZ_25_1028, stp_iadd, pZ_25_1029, stp_iaload, pZ_25_1030, stp_invokevirtual, qmZ_120, cy_S_whose, pZ_25_1033, pZ_25_1034, pZ_25_1035, pZ_25_1036, pZ_25_1037, pZ_25_1038, pZ_25_1039, qmZ_123, cy_M_whose, pZ_25_1042, stp_if_icmp_eq, pZ_25_1045, ic_0, pZ_25_1046, stp_ireturn, Option.toList_some]
  exact ih _ _ _ (by omega) (by omega) hI
end
def tZ_26 : TB := [(1047, .aload_n 1, 1), (1048, .aload_n 0, 1), (1049, .iload_n 3, 1), (1050, .iconst 1, 1), (1051, .iadd, 1), (1052, .iaload, 1), (1053, .invokevirtual 124, 3), (1056, .aload_n 2, 1), (1057, .aload_n 0, 1), (1058, .iload_n 3, 1), (1059, .iconst 1, 1), (1060, .iadd, 1), (1061, .iaload, 1), (1062, .invokevirtual 127, 3), (1065, .if_icmp .eq 199, 3), (1068, .iconst 0, 1), (1069, .ireturn, 1)]
set_option maxRecDepth 100000 in
theorem kZ_26 : tbOk (mB mZ) tZ_26 = true := by decide +kernel
theorem pZ_26_1047 : alk tZ_26 1047 = some (.aload_n 1, 1) := (rfl)
theorem pZ_26_1048 : alk tZ_26 1048 = some (.aload_n 0, 1) := (rfl)
theorem pZ_26_1049 : alk tZ_26 1049 = some (.iload_n 3, 1) := (rfl)
theorem pZ_26_1050 : alk tZ_26 1050 = some (.iconst 1, 1) := (rfl)
theorem pZ_26_1051 : alk tZ_26 1051 = some (.iadd, 1) := (rfl)
theorem pZ_26_1052 : alk tZ_26 1052 = some (.iaload, 1) := (rfl)
theorem pZ_26_1053 : alk tZ_26 1053 = some (.invokevirtual 124, 3) := (rfl)
theorem pZ_26_1056 : alk tZ_26 1056 = some (.aload_n 2, 1) := (rfl)
theorem pZ_26_1057 : alk tZ_26 1057 = some (.aload_n 0, 1) := (rfl)
theorem pZ_26_1058 : alk tZ_26 1058 = some (.iload_n 3, 1) := (rfl)
theorem pZ_26_1059 : alk tZ_26 1059 = some (.iconst 1, 1) := (rfl)
theorem pZ_26_1060 : alk tZ_26 1060 = some (.iadd, 1) := (rfl)
theorem pZ_26_1061 : alk tZ_26 1061 = some (.iaload, 1) := (rfl)
theorem pZ_26_1062 : alk tZ_26 1062 = some (.invokevirtual 127, 3) := (rfl)
theorem pZ_26_1065 : alk tZ_26 1065 = some (.if_icmp .eq 199, 3) := (rfl)
theorem pZ_26_1068 : alk tZ_26 1068 = some (.iconst 0, 1) := (rfl)
theorem pZ_26_1069 : alk tZ_26 1069 = some (.ireturn, 1) := (rfl)
section
variable {l : Launch} {G : Gc} {mc ms : Nat} {Q : Option AV → Wd → Prop} {w : Wd}
set_option maxRecDepth 100000 in
set_option maxHeartbeats 4000000 in
theorem lcZ_26 {c i cu su : Nat} (h : Inv c w) (hc : c < 1000) (hi : i + 6 ≤ gL G) (hL : gL G ≤ 3072) (h1 : cu + 8 ≤ mc) (h2 : su + 100 ≤ ms) (ih : ∀ w' cu' su', cu' ≤ cu + 8 → su' ≤ su + 100 → Inv (c + 1) w' → WP l G mZ 40 mc ms Q 1264 [some (.inr (.inr (some (901, 0)))), some (.inr (.inr (some (0, 0)))), some (.inr (.inr (some (13, 0)))), some (.inl (nI i))] [] w' cu' su') : WP l G mZ 40 mc ms Q 1047 [some (.inr (.inr (some (901, 0)))), some (.inr (.inr (some (0, 0)))), some (.inr (.inr (some (13, 0)))), some (.inl (nI i))] [] w cu su := by
  have wC0 := ss_C0 (iv_S h)
  have wC13 : wC w 13 = 1 := (iv_M h).1.1
  have v1 : vp_in (nI i + 1) (gL G) := by rw [show nI i + 1 = nI (i + 1) from nI_add i 1]; exact vp_in_nI (by omega) (by omega)
  have c1 : (nI i + 1).toNatClampNeg = i + 1 := by rw [show nI i + 1 = nI (i + 1) from nI_add i 1]; exact nI_clamp (by omega)
  obtain ⟨n', hn', call⟩ := ca_near (l := l) (G := G) h (gS G (i + 1))
  refine wpn_ok (M := mZ) (C := cenZ) (X := (alk [])) (tb := tZ_26) (st := [1264]) eoZ XOk_nil kZ_26 60 _ _ _ _ _ _ ?_
  simp only [reduceCtorEq, fv0, fv1, fv2, fv3, bI_0, bI_1, bft, MSh_sI_eq, fsP_T, inL_0, inL_s, pad_0, pad_n, pad_s, wpn_s, wp1_s, lg_0, lg_s, lset_0, lset_s, kil_0, kil_s, st1_s, st2_s, isL_i, isL_l, isL_r, isL_n, spl_0, spl_s, cll_n, cll_s, catS_0, catS_s, jmp_s, alk_0, alk_s, otl_n, otl_s, List.nil_append, List.cons_append, List.contains_cons, List.contains_nil, Nat.reduceBEq, Bool.or_false, Bool.false_or, Bool.or_self, Bool.false_eq_true, Bool.true_or, Bool.or_true, if_true, if_false, ite_true, ite_false, ↓reduceIte, List.length_cons, List.length_nil, Nat.reduceAdd, Nat.reduceLT, Nat.reduceLeDiff, Nat.reduceEqDiff, Int.reduceAdd, Int.reduceLE, Int.toNat_natCast, Int.reduceToNat, Int.cast_ofNat_Int, true_and, and_true, false_and, and_false, true_implies, forall_const, eq_self, and_self, or_true, true_or, or_self, false_or, or_false, yI_sI, yR_sI, yC_sI, yN_sI, yI_sR, yR_sR, yC_sR, yN_sR, not_true_eq_false, not_false_eq_true, false_implies, implies_true, Nat.zero_add, Nat.add_zero, Nat.le_refl, Nat.reduceSub, Int.reduceSub, Int.reduceLT, Int.sub_zero, Int.sub_self, List.getElem?_toArray, List.getElem?_cons_zero, List.getElem?_cons_succ, Int.toNat_zero, Int.toNat_one, Int.lt_irrefl, pZ_26_1047, stp_aload_n, pZ_26_1048, pZ_26_1049, stp_iload_n, pZ_26_1050, stp_iconst, ic_1, pZ_26_1051, stp_iadd, pZ_26_1052, stp_iaload, pZ_26_1053, stp_invokevirtual, qmZ_124, cy_S_near, pZ_26_1056, pZ_26_1057, pZ_26_1058, pZ_26_1059, pZ_26_1060, pZ_26_1061, pZ_26_1062, qmZ_127, cy_M_near, pZ_26_1065, stp_if_icmp_eq, pZ_26_1068, ic_0, pZ_26_1069, stp_ireturn, wC0, wC13, v1, c1]
  refine ⟨n', 8, 100, by omega, h1, h2, call.up.mono fun rr w1 h' => ?_⟩
  obtain ⟨⟨v, rfl, ty, m', hm', sem⟩, hup⟩ := h'
  obtain ⟨y, rfl⟩ : ∃ y : Int32, v = .inl y := ty
  have wD13 : 0 < wC w1 13 := by have := hup 13; omega
  refine wpn_ok (M := mZ) (C := cenZ) (X := (alk [])) (tb := tZ_26) (st := [1264]) eoZ XOk_nil kZ_26 60 _ _ _ _ _ _ ?_
  simp only [reduceCtorEq, fv0, fv1, fv2, fv3, bI_0, bI_1, bft, MSh_sI_eq, fsP_T, inL_0, inL_s, pad_0, pad_n, pad_s, wpn_s, wp1_s, lg_0, lg_s, lset_0, lset_s, kil_0, kil_s, st1_s, st2_s, isL_i, isL_l, isL_r, isL_n, spl_0, spl_s, cll_n, cll_s, catS_0, catS_s, jmp_s, alk_0, alk_s, otl_n, otl_s, List.nil_append, List.cons_append, List.contains_cons, List.contains_nil, Nat.reduceBEq, Bool.or_false, Bool.false_or, Bool.or_self, Bool.false_eq_true, Bool.true_or, Bool.or_true, if_true, if_false, ite_true, ite_false, ↓reduceIte, List.length_cons, List.length_nil, Nat.reduceAdd, Nat.reduceLT, Nat.reduceLeDiff, Nat.reduceEqDiff, Int.reduceAdd, Int.reduceLE, Int.toNat_natCast, Int.reduceToNat, Int.cast_ofNat_Int, true_and, and_true, false_and, and_false, true_implies, forall_const, eq_self, and_self, or_true, true_or, or_self, false_or, or_false, yI_sI, yR_sI, yC_sI, yN_sI, yI_sR, yR_sR, yC_sR, yN_sR, not_true_eq_false, not_false_eq_true, false_implies, implies_true, Nat.zero_add, Nat.add_zero, Nat.le_refl, Nat.reduceSub, Int.reduceSub, Int.reduceLT, Int.sub_zero, Int.sub_self, List.getElem?_toArray, List.getElem?_cons_zero, List.getElem?_cons_succ, Int.toNat_zero, Int.toNat_one, Int.lt_irrefl, pZ_26_1047, stp_aload_n, pZ_26_1048, pZ_26_1049, stp_iload_n, pZ_26_1050, stp_iconst, ic_1, pZ_26_1051, stp_iadd, pZ_26_1052, stp_iaload, pZ_26_1053, stp_invokevirtual, qmZ_124, cy_S_near, pZ_26_1056, pZ_26_1057, pZ_26_1058, pZ_26_1059, pZ_26_1060, pZ_26_1061, pZ_26_1062, qmZ_127, cy_M_near, pZ_26_1065, stp_if_icmp_eq, pZ_26_1068, ic_0, pZ_26_1069, stp_ireturn, wD13, Option.toList_some, v1, c1]
  refine ⟨m', 0, 0, by omega, by omega, by omega, sem.mono fun rr w2 h' => ?_⟩
  obtain ⟨rfl, hI⟩ := h'
  refine wpn_ok (M := mZ) (C := cenZ) (X := (alk [])) (tb := tZ_26) (st := [1264]) eoZ XOk_nil kZ_26 60 _ _ _ _ _ _ ?_
  simp only [reduceCtorEq, fv0, fv1, fv2, fv3, bI_0, bI_1, bft, MSh_sI_eq, fsP_T, inL_0, inL_s, pad_0, pad_n, pad_s, wpn_s, wp1_s, lg_0, lg_s, lset_0, lset_s, kil_0, kil_s, st1_s, st2_s, isL_i, isL_l, isL_r, isL_n, spl_0, spl_s, cll_n, cll_s, catS_0, catS_s, jmp_s, alk_0, alk_s, otl_n, otl_s, List.nil_append, List.cons_append, List.contains_cons, List.contains_nil, Nat.reduceBEq, Bool.or_false, Bool.false_or, Bool.or_self, Bool.false_eq_true, Bool.true_or, Bool.or_true, if_true, if_false, ite_true, ite_false, ↓reduceIte, List.length_cons, List.length_nil, Nat.reduceAdd, Nat.reduceLT, Nat.reduceLeDiff, Nat.reduceEqDiff, Int.reduceAdd, Int.reduceLE, Int.toNat_natCast, Int.reduceToNat, Int.cast_ofNat_Int, true_and, and_true, false_and, and_false, true_implies, forall_const, eq_self, and_self, or_true, true_or, or_self, false_or, or_false, yI_sI, yR_sI, yC_sI, yN_sI, yI_sR, yR_sR, yC_sR, yN_sR, not_true_eq_false, not_false_eq_true, false_implies, implies_true, Nat.zero_add, Nat.add_zero, Nat.le_refl, Nat.reduceSub, Int.reduceSub, Int.reduceLT, Int.sub_zero, Int.sub_self, List.getElem?_toArray, List.getElem?_cons_zero, List.getElem?_cons_succ, Int.toNat_zero, Int.toNat_one, Int.lt_irrefl, pZ_26_1047, stp_aload_n, pZ_26_1048, pZ_26_1049, stp_iload_n, pZ_26_1050, stp_iconst, ic_1, pZ_26_1051, stp_iadd, pZ_26_1052, stp_iaload, pZ_26_1053, stp_invokevirtual, qmZ_124, cy_S_near, pZ_26_1056, pZ_26_1057, pZ_26_1058, pZ_26_1059, pZ_26_1060, pZ_26_1061, pZ_26_1062, qmZ_127, cy_M_near, pZ_26_1065, stp_if_icmp_eq, pZ_26_1068, ic_0, pZ_26_1069, stp_ireturn, Option.toList_some]
  exact ih _ _ _ (by omega) (by omega) hI
end
def tZ_27 : TB := [(1070, .aload_n 1, 1), (1071, .aload_n 0, 1), (1072, .iload_n 3, 1), (1073, .iconst 1, 1), (1074, .iadd, 1), (1075, .iaload, 1), (1076, .aload_n 0, 1), (1077, .iload_n 3, 1), (1078, .iconst 2, 1), (1079, .iadd, 1), (1080, .iaload, 1), (1081, .invokevirtual 128, 3), (1084, .aload_n 2, 1), (1085, .aload_n 0, 1), (1086, .iload_n 3, 1), (1087, .iconst 1, 1), (1088, .iadd, 1), (1089, .iaload, 1), (1090, .aload_n 0, 1), (1091, .iload_n 3, 1), (1092, .iconst 2, 1), (1093, .iadd, 1), (1094, .iaload, 1), (1095, .invokevirtual 131, 3), (1098, .if_icmp .eq 166, 3), (1101, .iconst 0, 1), (1102, .ireturn, 1)]
set_option maxRecDepth 100000 in
theorem kZ_27 : tbOk (mB mZ) tZ_27 = true := by decide +kernel
theorem pZ_27_1070 : alk tZ_27 1070 = some (.aload_n 1, 1) := (rfl)
theorem pZ_27_1071 : alk tZ_27 1071 = some (.aload_n 0, 1) := (rfl)
theorem pZ_27_1072 : alk tZ_27 1072 = some (.iload_n 3, 1) := (rfl)
theorem pZ_27_1073 : alk tZ_27 1073 = some (.iconst 1, 1) := (rfl)
theorem pZ_27_1074 : alk tZ_27 1074 = some (.iadd, 1) := (rfl)
theorem pZ_27_1075 : alk tZ_27 1075 = some (.iaload, 1) := (rfl)
theorem pZ_27_1076 : alk tZ_27 1076 = some (.aload_n 0, 1) := (rfl)
theorem pZ_27_1077 : alk tZ_27 1077 = some (.iload_n 3, 1) := (rfl)
theorem pZ_27_1078 : alk tZ_27 1078 = some (.iconst 2, 1) := (rfl)
theorem pZ_27_1079 : alk tZ_27 1079 = some (.iadd, 1) := (rfl)
theorem pZ_27_1080 : alk tZ_27 1080 = some (.iaload, 1) := (rfl)
theorem pZ_27_1081 : alk tZ_27 1081 = some (.invokevirtual 128, 3) := (rfl)
theorem pZ_27_1084 : alk tZ_27 1084 = some (.aload_n 2, 1) := (rfl)
theorem pZ_27_1085 : alk tZ_27 1085 = some (.aload_n 0, 1) := (rfl)
theorem pZ_27_1086 : alk tZ_27 1086 = some (.iload_n 3, 1) := (rfl)
theorem pZ_27_1087 : alk tZ_27 1087 = some (.iconst 1, 1) := (rfl)
theorem pZ_27_1088 : alk tZ_27 1088 = some (.iadd, 1) := (rfl)
theorem pZ_27_1089 : alk tZ_27 1089 = some (.iaload, 1) := (rfl)
theorem pZ_27_1090 : alk tZ_27 1090 = some (.aload_n 0, 1) := (rfl)
theorem pZ_27_1091 : alk tZ_27 1091 = some (.iload_n 3, 1) := (rfl)
theorem pZ_27_1092 : alk tZ_27 1092 = some (.iconst 2, 1) := (rfl)
theorem pZ_27_1093 : alk tZ_27 1093 = some (.iadd, 1) := (rfl)
theorem pZ_27_1094 : alk tZ_27 1094 = some (.iaload, 1) := (rfl)
theorem pZ_27_1095 : alk tZ_27 1095 = some (.invokevirtual 131, 3) := (rfl)
theorem pZ_27_1098 : alk tZ_27 1098 = some (.if_icmp .eq 166, 3) := (rfl)
theorem pZ_27_1101 : alk tZ_27 1101 = some (.iconst 0, 1) := (rfl)
theorem pZ_27_1102 : alk tZ_27 1102 = some (.ireturn, 1) := (rfl)
section
variable {l : Launch} {G : Gc} {mc ms : Nat} {Q : Option AV → Wd → Prop} {w : Wd}
set_option maxRecDepth 100000 in
set_option maxHeartbeats 4000000 in
theorem lcZ_27 {c i cu su : Nat} (h : Inv c w) (hc : c < 1000) (hi : i + 6 ≤ gL G) (hL : gL G ≤ 3072) (h1 : cu + 8 ≤ mc) (h2 : su + 100 ≤ ms) (ih : ∀ w' cu' su', cu' ≤ cu + 8 → su' ≤ su + 100 → Inv (c + 1) w' → WP l G mZ 40 mc ms Q 1264 [some (.inr (.inr (some (901, 0)))), some (.inr (.inr (some (0, 0)))), some (.inr (.inr (some (13, 0)))), some (.inl (nI i))] [] w' cu' su') : WP l G mZ 40 mc ms Q 1070 [some (.inr (.inr (some (901, 0)))), some (.inr (.inr (some (0, 0)))), some (.inr (.inr (some (13, 0)))), some (.inl (nI i))] [] w cu su := by
  have wC0 := ss_C0 (iv_S h)
  have wC13 : wC w 13 = 1 := (iv_M h).1.1
  have v1 : vp_in (nI i + 1) (gL G) := by rw [show nI i + 1 = nI (i + 1) from nI_add i 1]; exact vp_in_nI (by omega) (by omega)
  have c1 : (nI i + 1).toNatClampNeg = i + 1 := by rw [show nI i + 1 = nI (i + 1) from nI_add i 1]; exact nI_clamp (by omega)
  have v2 : vp_in (nI i + 2) (gL G) := by rw [show nI i + 2 = nI (i + 2) from nI_add i 2]; exact vp_in_nI (by omega) (by omega)
  have c2 : (nI i + 2).toNatClampNeg = i + 2 := by rw [show nI i + 2 = nI (i + 2) from nI_add i 2]; exact nI_clamp (by omega)
  obtain ⟨n', hn', call⟩ := ca_judge (l := l) (G := G) h hc (gS G (i + 1)) (gS G (i + 2))
  refine wpn_ok (M := mZ) (C := cenZ) (X := (alk [])) (tb := tZ_27) (st := [1264]) eoZ XOk_nil kZ_27 60 _ _ _ _ _ _ ?_
  simp only [reduceCtorEq, fv0, fv1, fv2, fv3, bI_0, bI_1, bft, MSh_sI_eq, fsP_T, inL_0, inL_s, pad_0, pad_n, pad_s, wpn_s, wp1_s, lg_0, lg_s, lset_0, lset_s, kil_0, kil_s, st1_s, st2_s, isL_i, isL_l, isL_r, isL_n, spl_0, spl_s, cll_n, cll_s, catS_0, catS_s, jmp_s, alk_0, alk_s, otl_n, otl_s, List.nil_append, List.cons_append, List.contains_cons, List.contains_nil, Nat.reduceBEq, Bool.or_false, Bool.false_or, Bool.or_self, Bool.false_eq_true, Bool.true_or, Bool.or_true, if_true, if_false, ite_true, ite_false, ↓reduceIte, List.length_cons, List.length_nil, Nat.reduceAdd, Nat.reduceLT, Nat.reduceLeDiff, Nat.reduceEqDiff, Int.reduceAdd, Int.reduceLE, Int.toNat_natCast, Int.reduceToNat, Int.cast_ofNat_Int, true_and, and_true, false_and, and_false, true_implies, forall_const, eq_self, and_self, or_true, true_or, or_self, false_or, or_false, yI_sI, yR_sI, yC_sI, yN_sI, yI_sR, yR_sR, yC_sR, yN_sR, not_true_eq_false, not_false_eq_true, false_implies, implies_true, Nat.zero_add, Nat.add_zero, Nat.le_refl, Nat.reduceSub, Int.reduceSub, Int.reduceLT, Int.sub_zero, Int.sub_self, List.getElem?_toArray, List.getElem?_cons_zero, List.getElem?_cons_succ, Int.toNat_zero, Int.toNat_one, Int.lt_irrefl, pZ_27_1070, stp_aload_n, pZ_27_1071, pZ_27_1072, stp_iload_n, pZ_27_1073, stp_iconst, ic_1, pZ_27_1074, stp_iadd, pZ_27_1075, stp_iaload, pZ_27_1076, pZ_27_1077, pZ_27_1078, ic_2, pZ_27_1079, pZ_27_1080, pZ_27_1081, stp_invokevirtual, qmZ_128, cy_S_judge, pZ_27_1084, pZ_27_1085, pZ_27_1086, pZ_27_1087, pZ_27_1088, pZ_27_1089, pZ_27_1090, pZ_27_1091, pZ_27_1092, pZ_27_1093, pZ_27_1094, pZ_27_1095, qmZ_131, cy_M_judge, pZ_27_1098, stp_if_icmp_eq, pZ_27_1101, ic_0, pZ_27_1102, stp_ireturn, wC0, wC13, v1, c1, v2, c2]
  refine ⟨n', 8, 100, by omega, h1, h2, call.up.mono fun rr w1 h' => ?_⟩
  obtain ⟨⟨v, rfl, ty, m', hm', sem⟩, hup⟩ := h'
  obtain ⟨y, rfl⟩ : ∃ y : Int32, v = .inl y := ty
  have wD13 : 0 < wC w1 13 := by have := hup 13; omega
  refine wpn_ok (M := mZ) (C := cenZ) (X := (alk [])) (tb := tZ_27) (st := [1264]) eoZ XOk_nil kZ_27 60 _ _ _ _ _ _ ?_
  simp only [reduceCtorEq, fv0, fv1, fv2, fv3, bI_0, bI_1, bft, MSh_sI_eq, fsP_T, inL_0, inL_s, pad_0, pad_n, pad_s, wpn_s, wp1_s, lg_0, lg_s, lset_0, lset_s, kil_0, kil_s, st1_s, st2_s, isL_i, isL_l, isL_r, isL_n, spl_0, spl_s, cll_n, cll_s, catS_0, catS_s, jmp_s, alk_0, alk_s, otl_n, otl_s, List.nil_append, List.cons_append, List.contains_cons, List.contains_nil, Nat.reduceBEq, Bool.or_false, Bool.false_or, Bool.or_self, Bool.false_eq_true, Bool.true_or, Bool.or_true, if_true, if_false, ite_true, ite_false, ↓reduceIte, List.length_cons, List.length_nil, Nat.reduceAdd, Nat.reduceLT, Nat.reduceLeDiff, Nat.reduceEqDiff, Int.reduceAdd, Int.reduceLE, Int.toNat_natCast, Int.reduceToNat, Int.cast_ofNat_Int, true_and, and_true, false_and, and_false, true_implies, forall_const, eq_self, and_self, or_true, true_or, or_self, false_or, or_false, yI_sI, yR_sI, yC_sI, yN_sI, yI_sR, yR_sR, yC_sR, yN_sR, not_true_eq_false, not_false_eq_true, false_implies, implies_true, Nat.zero_add, Nat.add_zero, Nat.le_refl, Nat.reduceSub, Int.reduceSub, Int.reduceLT, Int.sub_zero, Int.sub_self, List.getElem?_toArray, List.getElem?_cons_zero, List.getElem?_cons_succ, Int.toNat_zero, Int.toNat_one, Int.lt_irrefl, pZ_27_1070, stp_aload_n, pZ_27_1071, pZ_27_1072, stp_iload_n, pZ_27_1073, stp_iconst, ic_1, pZ_27_1074, stp_iadd, pZ_27_1075, stp_iaload, pZ_27_1076, pZ_27_1077, pZ_27_1078, ic_2, pZ_27_1079, pZ_27_1080, pZ_27_1081, stp_invokevirtual, qmZ_128, cy_S_judge, pZ_27_1084, pZ_27_1085, pZ_27_1086, pZ_27_1087, pZ_27_1088, pZ_27_1089, pZ_27_1090, pZ_27_1091, pZ_27_1092, pZ_27_1093, pZ_27_1094, pZ_27_1095, qmZ_131, cy_M_judge, pZ_27_1098, stp_if_icmp_eq, pZ_27_1101, ic_0, pZ_27_1102, stp_ireturn, wD13, Option.toList_some, v1, c1, v2, c2]
  refine ⟨m', 0, 0, by omega, by omega, by omega, sem.mono fun rr w2 h' => ?_⟩
  obtain ⟨rfl, hI⟩ := h'
  refine wpn_ok (M := mZ) (C := cenZ) (X := (alk [])) (tb := tZ_27) (st := [1264]) eoZ XOk_nil kZ_27 60 _ _ _ _ _ _ ?_
  simp only [reduceCtorEq, fv0, fv1, fv2, fv3, bI_0, bI_1, bft, MSh_sI_eq, fsP_T, inL_0, inL_s, pad_0, pad_n, pad_s, wpn_s, wp1_s, lg_0, lg_s, lset_0, lset_s, kil_0, kil_s, st1_s, st2_s, isL_i, isL_l, isL_r, isL_n, spl_0, spl_s, cll_n, cll_s, catS_0, catS_s, jmp_s, alk_0, alk_s, otl_n, otl_s, List.nil_append, List.cons_append, List.contains_cons, List.contains_nil, Nat.reduceBEq, Bool.or_false, Bool.false_or, Bool.or_self, Bool.false_eq_true, Bool.true_or, Bool.or_true, if_true, if_false, ite_true, ite_false, ↓reduceIte, List.length_cons, List.length_nil, Nat.reduceAdd, Nat.reduceLT, Nat.reduceLeDiff, Nat.reduceEqDiff, Int.reduceAdd, Int.reduceLE, Int.toNat_natCast, Int.reduceToNat, Int.cast_ofNat_Int, true_and, and_true, false_and, and_false, true_implies, forall_const, eq_self, and_self, or_true, true_or, or_self, false_or, or_false, yI_sI, yR_sI, yC_sI, yN_sI, yI_sR, yR_sR, yC_sR, yN_sR, not_true_eq_false, not_false_eq_true, false_implies, implies_true, Nat.zero_add, Nat.add_zero, Nat.le_refl, Nat.reduceSub, Int.reduceSub, Int.reduceLT, Int.sub_zero, Int.sub_self, List.getElem?_toArray, List.getElem?_cons_zero, List.getElem?_cons_succ, Int.toNat_zero, Int.toNat_one, Int.lt_irrefl, pZ_27_1070, stp_aload_n, pZ_27_1071, pZ_27_1072, stp_iload_n, pZ_27_1073, stp_iconst, ic_1, pZ_27_1074, stp_iadd, pZ_27_1075, stp_iaload, pZ_27_1076, pZ_27_1077, pZ_27_1078, ic_2, pZ_27_1079, pZ_27_1080, pZ_27_1081, stp_invokevirtual, qmZ_128, cy_S_judge, pZ_27_1084, pZ_27_1085, pZ_27_1086, pZ_27_1087, pZ_27_1088, pZ_27_1089, pZ_27_1090, pZ_27_1091, pZ_27_1092, pZ_27_1093, pZ_27_1094, pZ_27_1095, qmZ_131, cy_M_judge, pZ_27_1098, stp_if_icmp_eq, pZ_27_1101, ic_0, pZ_27_1102, stp_ireturn, Option.toList_some]
  exact ih _ _ _ (by omega) (by omega) hI
end
def tZ_28 : TB := [(1103, .aload_n 1, 1), (1104, .aload_n 0, 1), (1105, .iload_n 3, 1), (1106, .iconst 1, 1), (1107, .iadd, 1), (1108, .iaload, 1), (1109, .invokevirtual 132, 3), (1112, .aload_n 2, 1), (1113, .aload_n 0, 1), (1114, .iload_n 3, 1), (1115, .iconst 1, 1), (1116, .iadd, 1), (1117, .iaload, 1), (1118, .invokevirtual 135, 3), (1121, .if_icmp .eq 143, 3), (1124, .iconst 0, 1), (1125, .ireturn, 1)]
set_option maxRecDepth 100000 in
theorem kZ_28 : tbOk (mB mZ) tZ_28 = true := by decide +kernel
theorem pZ_28_1103 : alk tZ_28 1103 = some (.aload_n 1, 1) := (rfl)
theorem pZ_28_1104 : alk tZ_28 1104 = some (.aload_n 0, 1) := (rfl)
theorem pZ_28_1105 : alk tZ_28 1105 = some (.iload_n 3, 1) := (rfl)
theorem pZ_28_1106 : alk tZ_28 1106 = some (.iconst 1, 1) := (rfl)
theorem pZ_28_1107 : alk tZ_28 1107 = some (.iadd, 1) := (rfl)
theorem pZ_28_1108 : alk tZ_28 1108 = some (.iaload, 1) := (rfl)
theorem pZ_28_1109 : alk tZ_28 1109 = some (.invokevirtual 132, 3) := (rfl)
theorem pZ_28_1112 : alk tZ_28 1112 = some (.aload_n 2, 1) := (rfl)
theorem pZ_28_1113 : alk tZ_28 1113 = some (.aload_n 0, 1) := (rfl)
theorem pZ_28_1114 : alk tZ_28 1114 = some (.iload_n 3, 1) := (rfl)
theorem pZ_28_1115 : alk tZ_28 1115 = some (.iconst 1, 1) := (rfl)
theorem pZ_28_1116 : alk tZ_28 1116 = some (.iadd, 1) := (rfl)
theorem pZ_28_1117 : alk tZ_28 1117 = some (.iaload, 1) := (rfl)
theorem pZ_28_1118 : alk tZ_28 1118 = some (.invokevirtual 135, 3) := (rfl)
theorem pZ_28_1121 : alk tZ_28 1121 = some (.if_icmp .eq 143, 3) := (rfl)
theorem pZ_28_1124 : alk tZ_28 1124 = some (.iconst 0, 1) := (rfl)
theorem pZ_28_1125 : alk tZ_28 1125 = some (.ireturn, 1) := (rfl)
section
variable {l : Launch} {G : Gc} {mc ms : Nat} {Q : Option AV → Wd → Prop} {w : Wd}
set_option maxRecDepth 100000 in
set_option maxHeartbeats 4000000 in
theorem lcZ_28 {c i cu su : Nat} (h : Inv c w) (hc : c < 1000) (hi : i + 6 ≤ gL G) (hL : gL G ≤ 3072) (h1 : cu + 8 ≤ mc) (h2 : su + 100 ≤ ms) (ih : ∀ w' cu' su', cu' ≤ cu + 8 → su' ≤ su + 100 → Inv (c + 1) w' → WP l G mZ 40 mc ms Q 1264 [some (.inr (.inr (some (901, 0)))), some (.inr (.inr (some (0, 0)))), some (.inr (.inr (some (13, 0)))), some (.inl (nI i))] [] w' cu' su') : WP l G mZ 40 mc ms Q 1103 [some (.inr (.inr (some (901, 0)))), some (.inr (.inr (some (0, 0)))), some (.inr (.inr (some (13, 0)))), some (.inl (nI i))] [] w cu su := by
  have wC0 := ss_C0 (iv_S h)
  have wC13 : wC w 13 = 1 := (iv_M h).1.1
  have v1 : vp_in (nI i + 1) (gL G) := by rw [show nI i + 1 = nI (i + 1) from nI_add i 1]; exact vp_in_nI (by omega) (by omega)
  have c1 : (nI i + 1).toNatClampNeg = i + 1 := by rw [show nI i + 1 = nI (i + 1) from nI_add i 1]; exact nI_clamp (by omega)
  obtain ⟨n', hn', call⟩ := ca_run (l := l) (G := G) h hc (gS G (i + 1))
  refine wpn_ok (M := mZ) (C := cenZ) (X := (alk [])) (tb := tZ_28) (st := [1264]) eoZ XOk_nil kZ_28 60 _ _ _ _ _ _ ?_
  simp only [reduceCtorEq, fv0, fv1, fv2, fv3, bI_0, bI_1, bft, MSh_sI_eq, fsP_T, inL_0, inL_s, pad_0, pad_n, pad_s, wpn_s, wp1_s, lg_0, lg_s, lset_0, lset_s, kil_0, kil_s, st1_s, st2_s, isL_i, isL_l, isL_r, isL_n, spl_0, spl_s, cll_n, cll_s, catS_0, catS_s, jmp_s, alk_0, alk_s, otl_n, otl_s, List.nil_append, List.cons_append, List.contains_cons, List.contains_nil, Nat.reduceBEq, Bool.or_false, Bool.false_or, Bool.or_self, Bool.false_eq_true, Bool.true_or, Bool.or_true, if_true, if_false, ite_true, ite_false, ↓reduceIte, List.length_cons, List.length_nil, Nat.reduceAdd, Nat.reduceLT, Nat.reduceLeDiff, Nat.reduceEqDiff, Int.reduceAdd, Int.reduceLE, Int.toNat_natCast, Int.reduceToNat, Int.cast_ofNat_Int, true_and, and_true, false_and, and_false, true_implies, forall_const, eq_self, and_self, or_true, true_or, or_self, false_or, or_false, yI_sI, yR_sI, yC_sI, yN_sI, yI_sR, yR_sR, yC_sR, yN_sR, not_true_eq_false, not_false_eq_true, false_implies, implies_true, Nat.zero_add, Nat.add_zero, Nat.le_refl, Nat.reduceSub, Int.reduceSub, Int.reduceLT, Int.sub_zero, Int.sub_self, List.getElem?_toArray, List.getElem?_cons_zero, List.getElem?_cons_succ, Int.toNat_zero, Int.toNat_one, Int.lt_irrefl, pZ_28_1103, stp_aload_n, pZ_28_1104, pZ_28_1105, stp_iload_n, pZ_28_1106, stp_iconst, ic_1, pZ_28_1107, stp_iadd, pZ_28_1108, stp_iaload, pZ_28_1109, stp_invokevirtual, qmZ_132, cy_S_run, pZ_28_1112, pZ_28_1113, pZ_28_1114, pZ_28_1115, pZ_28_1116, pZ_28_1117, pZ_28_1118, qmZ_135, cy_M_run, pZ_28_1121, stp_if_icmp_eq, pZ_28_1124, ic_0, pZ_28_1125, stp_ireturn, wC0, wC13, v1, c1]
  refine ⟨n', 8, 100, by omega, h1, h2, call.up.mono fun rr w1 h' => ?_⟩
  obtain ⟨⟨v, rfl, ty, m', hm', sem⟩, hup⟩ := h'
  obtain ⟨y, rfl⟩ : ∃ y : Int32, v = .inl y := ty
  have wD13 : 0 < wC w1 13 := by have := hup 13; omega
  refine wpn_ok (M := mZ) (C := cenZ) (X := (alk [])) (tb := tZ_28) (st := [1264]) eoZ XOk_nil kZ_28 60 _ _ _ _ _ _ ?_
  simp only [reduceCtorEq, fv0, fv1, fv2, fv3, bI_0, bI_1, bft, MSh_sI_eq, fsP_T, inL_0, inL_s, pad_0, pad_n, pad_s, wpn_s, wp1_s, lg_0, lg_s, lset_0, lset_s, kil_0, kil_s, st1_s, st2_s, isL_i, isL_l, isL_r, isL_n, spl_0, spl_s, cll_n, cll_s, catS_0, catS_s, jmp_s, alk_0, alk_s, otl_n, otl_s, List.nil_append, List.cons_append, List.contains_cons, List.contains_nil, Nat.reduceBEq, Bool.or_false, Bool.false_or, Bool.or_self, Bool.false_eq_true, Bool.true_or, Bool.or_true, if_true, if_false, ite_true, ite_false, ↓reduceIte, List.length_cons, List.length_nil, Nat.reduceAdd, Nat.reduceLT, Nat.reduceLeDiff, Nat.reduceEqDiff, Int.reduceAdd, Int.reduceLE, Int.toNat_natCast, Int.reduceToNat, Int.cast_ofNat_Int, true_and, and_true, false_and, and_false, true_implies, forall_const, eq_self, and_self, or_true, true_or, or_self, false_or, or_false, yI_sI, yR_sI, yC_sI, yN_sI, yI_sR, yR_sR, yC_sR, yN_sR, not_true_eq_false, not_false_eq_true, false_implies, implies_true, Nat.zero_add, Nat.add_zero, Nat.le_refl, Nat.reduceSub, Int.reduceSub, Int.reduceLT, Int.sub_zero, Int.sub_self, List.getElem?_toArray, List.getElem?_cons_zero, List.getElem?_cons_succ, Int.toNat_zero, Int.toNat_one, Int.lt_irrefl, pZ_28_1103, stp_aload_n, pZ_28_1104, pZ_28_1105, stp_iload_n, pZ_28_1106, stp_iconst, ic_1, pZ_28_1107, stp_iadd, pZ_28_1108, stp_iaload, pZ_28_1109, stp_invokevirtual, qmZ_132, cy_S_run, pZ_28_1112, pZ_28_1113, pZ_28_1114, pZ_28_1115, pZ_28_1116, pZ_28_1117, pZ_28_1118, qmZ_135, cy_M_run, pZ_28_1121, stp_if_icmp_eq, pZ_28_1124, ic_0, pZ_28_1125, stp_ireturn, wD13, Option.toList_some, v1, c1]
  refine ⟨m', 0, 0, by omega, by omega, by omega, sem.mono fun rr w2 h' => ?_⟩
  obtain ⟨rfl, hI⟩ := h'
  refine wpn_ok (M := mZ) (C := cenZ) (X := (alk [])) (tb := tZ_28) (st := [1264]) eoZ XOk_nil kZ_28 60 _ _ _ _ _ _ ?_
  simp only [reduceCtorEq, fv0, fv1, fv2, fv3, bI_0, bI_1, bft, MSh_sI_eq, fsP_T, inL_0, inL_s, pad_0, pad_n, pad_s, wpn_s, wp1_s, lg_0, lg_s, lset_0, lset_s, kil_0, kil_s, st1_s, st2_s, isL_i, isL_l, isL_r, isL_n, spl_0, spl_s, cll_n, cll_s, catS_0, catS_s, jmp_s, alk_0, alk_s, otl_n, otl_s, List.nil_append, List.cons_append, List.contains_cons, List.contains_nil, Nat.reduceBEq, Bool.or_false, Bool.false_or, Bool.or_self, Bool.false_eq_true, Bool.true_or, Bool.or_true, if_true, if_false, ite_true, ite_false, ↓reduceIte, List.length_cons, List.length_nil, Nat.reduceAdd, Nat.reduceLT, Nat.reduceLeDiff, Nat.reduceEqDiff, Int.reduceAdd, Int.reduceLE, Int.toNat_natCast, Int.reduceToNat, Int.cast_ofNat_Int, true_and, and_true, false_and, and_false, true_implies, forall_const, eq_self, and_self, or_true, true_or, or_self, false_or, or_false, yI_sI, yR_sI, yC_sI, yN_sI, yI_sR, yR_sR, yC_sR, yN_sR, not_true_eq_false, not_false_eq_true, false_implies, implies_true, Nat.zero_add, Nat.add_zero, Nat.le_refl, Nat.reduceSub, Int.reduceSub, Int.reduceLT, Int.sub_zero, Int.sub_self, List.getElem?_toArray, List.getElem?_cons_zero, List.getElem?_cons_succ, Int.toNat_zero, Int.toNat_one, Int.lt_irrefl, pZ_28_1103, stp_aload_n, pZ_28_1104, pZ_28_1105, stp_iload_n, pZ_28_1106, stp_iconst, ic_1, pZ_28_1107, stp_iadd, pZ_28_1108, stp_iaload, pZ_28_1109, stp_invokevirtual, qmZ_132, cy_S_run, pZ_28_1112, pZ_28_1113, pZ_28_1114, pZ_28_1115, pZ_28_1116, pZ_28_1117, pZ_28_1118, qmZ_135, cy_M_run, pZ_28_1121, stp_if_icmp_eq, pZ_28_1124, ic_0, pZ_28_1125, stp_ireturn, Option.toList_some]
  exact ih _ _ _ (by omega) (by omega) hI
end
def tZ_29 : TB := [(1126, .aload_n 1, 1), (1127, .aload_n 0, 1), (1128, .iload_n 3, 1), (1129, .iconst 1, 1), (1130, .iadd, 1), (1131, .iaload, 1), (1132, .invokevirtual 136, 3), (1135, .aload_n 2, 1), (1136, .aload_n 0, 1), (1137, .iload_n 3, 1), (1138, .iconst 1, 1), (1139, .iadd, 1), (1140, .iaload, 1), (1141, .invokevirtual 139, 3), (1144, .if_icmp .eq 120, 3), (1147, .iconst 0, 1), (1148, .ireturn, 1)]
set_option maxRecDepth 100000 in
theorem kZ_29 : tbOk (mB mZ) tZ_29 = true := by decide +kernel
theorem pZ_29_1126 : alk tZ_29 1126 = some (.aload_n 1, 1) := (rfl)
theorem pZ_29_1127 : alk tZ_29 1127 = some (.aload_n 0, 1) := (rfl)
theorem pZ_29_1128 : alk tZ_29 1128 = some (.iload_n 3, 1) := (rfl)
theorem pZ_29_1129 : alk tZ_29 1129 = some (.iconst 1, 1) := (rfl)
theorem pZ_29_1130 : alk tZ_29 1130 = some (.iadd, 1) := (rfl)
theorem pZ_29_1131 : alk tZ_29 1131 = some (.iaload, 1) := (rfl)
theorem pZ_29_1132 : alk tZ_29 1132 = some (.invokevirtual 136, 3) := (rfl)
theorem pZ_29_1135 : alk tZ_29 1135 = some (.aload_n 2, 1) := (rfl)
theorem pZ_29_1136 : alk tZ_29 1136 = some (.aload_n 0, 1) := (rfl)
theorem pZ_29_1137 : alk tZ_29 1137 = some (.iload_n 3, 1) := (rfl)
theorem pZ_29_1138 : alk tZ_29 1138 = some (.iconst 1, 1) := (rfl)
theorem pZ_29_1139 : alk tZ_29 1139 = some (.iadd, 1) := (rfl)
theorem pZ_29_1140 : alk tZ_29 1140 = some (.iaload, 1) := (rfl)
theorem pZ_29_1141 : alk tZ_29 1141 = some (.invokevirtual 139, 3) := (rfl)
theorem pZ_29_1144 : alk tZ_29 1144 = some (.if_icmp .eq 120, 3) := (rfl)
theorem pZ_29_1147 : alk tZ_29 1147 = some (.iconst 0, 1) := (rfl)
theorem pZ_29_1148 : alk tZ_29 1148 = some (.ireturn, 1) := (rfl)
section
variable {l : Launch} {G : Gc} {mc ms : Nat} {Q : Option AV → Wd → Prop} {w : Wd}
set_option maxRecDepth 100000 in
set_option maxHeartbeats 4000000 in
theorem lcZ_29 {c i cu su : Nat} (h : Inv c w) (hc : c < 1000) (hi : i + 6 ≤ gL G) (hL : gL G ≤ 3072) (h1 : cu + 8 ≤ mc) (h2 : su + 100 ≤ ms) (ih : ∀ w' cu' su', cu' ≤ cu + 8 → su' ≤ su + 100 → Inv (c + 1) w' → WP l G mZ 40 mc ms Q 1264 [some (.inr (.inr (some (901, 0)))), some (.inr (.inr (some (0, 0)))), some (.inr (.inr (some (13, 0)))), some (.inl (nI i))] [] w' cu' su') : WP l G mZ 40 mc ms Q 1126 [some (.inr (.inr (some (901, 0)))), some (.inr (.inr (some (0, 0)))), some (.inr (.inr (some (13, 0)))), some (.inl (nI i))] [] w cu su := by
  have wC0 := ss_C0 (iv_S h)
  have wC13 : wC w 13 = 1 := (iv_M h).1.1
  have v1 : vp_in (nI i + 1) (gL G) := by rw [show nI i + 1 = nI (i + 1) from nI_add i 1]; exact vp_in_nI (by omega) (by omega)
  have c1 : (nI i + 1).toNatClampNeg = i + 1 := by rw [show nI i + 1 = nI (i + 1) from nI_add i 1]; exact nI_clamp (by omega)
  obtain ⟨n', hn', call⟩ := ca_count (l := l) (G := G) h (gS G (i + 1))
  refine wpn_ok (M := mZ) (C := cenZ) (X := (alk [])) (tb := tZ_29) (st := [1264]) eoZ XOk_nil kZ_29 60 _ _ _ _ _ _ ?_
  simp only [reduceCtorEq, fv0, fv1, fv2, fv3, bI_0, bI_1, bft, MSh_sI_eq, fsP_T, inL_0, inL_s, pad_0, pad_n, pad_s, wpn_s, wp1_s, lg_0, lg_s, lset_0, lset_s, kil_0, kil_s, st1_s, st2_s, isL_i, isL_l, isL_r, isL_n, spl_0, spl_s, cll_n, cll_s, catS_0, catS_s, jmp_s, alk_0, alk_s, otl_n, otl_s, List.nil_append, List.cons_append, List.contains_cons, List.contains_nil, Nat.reduceBEq, Bool.or_false, Bool.false_or, Bool.or_self, Bool.false_eq_true, Bool.true_or, Bool.or_true, if_true, if_false, ite_true, ite_false, ↓reduceIte, List.length_cons, List.length_nil, Nat.reduceAdd, Nat.reduceLT, Nat.reduceLeDiff, Nat.reduceEqDiff, Int.reduceAdd, Int.reduceLE, Int.toNat_natCast, Int.reduceToNat, Int.cast_ofNat_Int, true_and, and_true, false_and, and_false, true_implies, forall_const, eq_self, and_self, or_true, true_or, or_self, false_or, or_false, yI_sI, yR_sI, yC_sI, yN_sI, yI_sR, yR_sR, yC_sR, yN_sR, not_true_eq_false, not_false_eq_true, false_implies, implies_true, Nat.zero_add, Nat.add_zero, Nat.le_refl, Nat.reduceSub, Int.reduceSub, Int.reduceLT, Int.sub_zero, Int.sub_self, List.getElem?_toArray, List.getElem?_cons_zero, List.getElem?_cons_succ, Int.toNat_zero, Int.toNat_one, Int.lt_irrefl, pZ_29_1126, stp_aload_n, pZ_29_1127, pZ_29_1128, stp_iload_n, pZ_29_1129, stp_iconst, ic_1, pZ_29_1130, stp_iadd, pZ_29_1131, stp_iaload, pZ_29_1132, stp_invokevirtual, qmZ_136, cy_S_count, pZ_29_1135, pZ_29_1136, pZ_29_1137, pZ_29_1138, pZ_29_1139, pZ_29_1140, pZ_29_1141, qmZ_139, cy_M_count, pZ_29_1144, stp_if_icmp_eq, pZ_29_1147, ic_0, pZ_29_1148, stp_ireturn, wC0, wC13, v1, c1]
  refine ⟨n', 8, 100, by omega, h1, h2, call.up.mono fun rr w1 h' => ?_⟩
  obtain ⟨⟨v, rfl, ty, m', hm', sem⟩, hup⟩ := h'
  obtain ⟨y, rfl⟩ : ∃ y : Int32, v = .inl y := ty
  have wD13 : 0 < wC w1 13 := by have := hup 13; omega
  refine wpn_ok (M := mZ) (C := cenZ) (X := (alk [])) (tb := tZ_29) (st := [1264]) eoZ XOk_nil kZ_29 60 _ _ _ _ _ _ ?_
  simp only [reduceCtorEq, fv0, fv1, fv2, fv3, bI_0, bI_1, bft, MSh_sI_eq, fsP_T, inL_0, inL_s, pad_0, pad_n, pad_s, wpn_s, wp1_s, lg_0, lg_s, lset_0, lset_s, kil_0, kil_s, st1_s, st2_s, isL_i, isL_l, isL_r, isL_n, spl_0, spl_s, cll_n, cll_s, catS_0, catS_s, jmp_s, alk_0, alk_s, otl_n, otl_s, List.nil_append, List.cons_append, List.contains_cons, List.contains_nil, Nat.reduceBEq, Bool.or_false, Bool.false_or, Bool.or_self, Bool.false_eq_true, Bool.true_or, Bool.or_true, if_true, if_false, ite_true, ite_false, ↓reduceIte, List.length_cons, List.length_nil, Nat.reduceAdd, Nat.reduceLT, Nat.reduceLeDiff, Nat.reduceEqDiff, Int.reduceAdd, Int.reduceLE, Int.toNat_natCast, Int.reduceToNat, Int.cast_ofNat_Int, true_and, and_true, false_and, and_false, true_implies, forall_const, eq_self, and_self, or_true, true_or, or_self, false_or, or_false, yI_sI, yR_sI, yC_sI, yN_sI, yI_sR, yR_sR, yC_sR, yN_sR, not_true_eq_false, not_false_eq_true, false_implies, implies_true, Nat.zero_add, Nat.add_zero, Nat.le_refl, Nat.reduceSub, Int.reduceSub, Int.reduceLT, Int.sub_zero, Int.sub_self, List.getElem?_toArray, List.getElem?_cons_zero, List.getElem?_cons_succ, Int.toNat_zero, Int.toNat_one, Int.lt_irrefl, pZ_29_1126, stp_aload_n, pZ_29_1127, pZ_29_1128, stp_iload_n, pZ_29_1129, stp_iconst, ic_1, pZ_29_1130, stp_iadd, pZ_29_1131, stp_iaload, pZ_29_1132, stp_invokevirtual, qmZ_136, cy_S_count, pZ_29_1135, pZ_29_1136, pZ_29_1137, pZ_29_1138, pZ_29_1139, pZ_29_1140, pZ_29_1141, qmZ_139, cy_M_count, pZ_29_1144, stp_if_icmp_eq, pZ_29_1147, ic_0, pZ_29_1148, stp_ireturn, wD13, Option.toList_some, v1, c1]
  refine ⟨m', 0, 0, by omega, by omega, by omega, sem.mono fun rr w2 h' => ?_⟩
  obtain ⟨rfl, hI⟩ := h'
  refine wpn_ok (M := mZ) (C := cenZ) (X := (alk [])) (tb := tZ_29) (st := [1264]) eoZ XOk_nil kZ_29 60 _ _ _ _ _ _ ?_
  simp only [reduceCtorEq, fv0, fv1, fv2, fv3, bI_0, bI_1, bft, MSh_sI_eq, fsP_T, inL_0, inL_s, pad_0, pad_n, pad_s, wpn_s, wp1_s, lg_0, lg_s, lset_0, lset_s, kil_0, kil_s, st1_s, st2_s, isL_i, isL_l, isL_r, isL_n, spl_0, spl_s, cll_n, cll_s, catS_0, catS_s, jmp_s, alk_0, alk_s, otl_n, otl_s, List.nil_append, List.cons_append, List.contains_cons, List.contains_nil, Nat.reduceBEq, Bool.or_false, Bool.false_or, Bool.or_self, Bool.false_eq_true, Bool.true_or, Bool.or_true, if_true, if_false, ite_true, ite_false, ↓reduceIte, List.length_cons, List.length_nil, Nat.reduceAdd, Nat.reduceLT, Nat.reduceLeDiff, Nat.reduceEqDiff, Int.reduceAdd, Int.reduceLE, Int.toNat_natCast, Int.reduceToNat, Int.cast_ofNat_Int, true_and, and_true, false_and, and_false, true_implies, forall_const, eq_self, and_self, or_true, true_or, or_self, false_or, or_false, yI_sI, yR_sI, yC_sI, yN_sI, yI_sR, yR_sR, yC_sR, yN_sR, not_true_eq_false, not_false_eq_true, false_implies, implies_true, Nat.zero_add, Nat.add_zero, Nat.le_refl, Nat.reduceSub, Int.reduceSub, Int.reduceLT, Int.sub_zero, Int.sub_self, List.getElem?_toArray, List.getElem?_cons_zero, List.getElem?_cons_succ, Int.toNat_zero, Int.toNat_one, Int.lt_irrefl, pZ_29_1126, stp_aload_n, pZ_29_1127, pZ_29_1128, stp_iload_n, pZ_29_1129, stp_iconst, ic_1, pZ_29_1130, stp_iadd, pZ_29_1131, stp_iaload, pZ_29_1132, stp_invokevirtual, qmZ_136, cy_S_count, pZ_29_1135, pZ_29_1136, pZ_29_1137, pZ_29_1138, pZ_29_1139, pZ_29_1140, pZ_29_1141, qmZ_139, cy_M_count, pZ_29_1144, stp_if_icmp_eq, pZ_29_1147, ic_0, pZ_29_1148, stp_ireturn, Option.toList_some]
  exact ih _ _ _ (by omega) (by omega) hI
end
def tZ_30 : TB := [(1149, .aload_n 1, 1), (1150, .invokevirtual 140, 3), (1153, .aload_n 2, 1), (1154, .invokevirtual 143, 3), (1157, .if_icmp .eq 107, 3), (1160, .iconst 0, 1), (1161, .ireturn, 1)]
set_option maxRecDepth 100000 in
theorem kZ_30 : tbOk (mB mZ) tZ_30 = true := by decide +kernel
theorem pZ_30_1149 : alk tZ_30 1149 = some (.aload_n 1, 1) := (rfl)
theorem pZ_30_1150 : alk tZ_30 1150 = some (.invokevirtual 140, 3) := (rfl)
theorem pZ_30_1153 : alk tZ_30 1153 = some (.aload_n 2, 1) := (rfl)
theorem pZ_30_1154 : alk tZ_30 1154 = some (.invokevirtual 143, 3) := (rfl)
theorem pZ_30_1157 : alk tZ_30 1157 = some (.if_icmp .eq 107, 3) := (rfl)
theorem pZ_30_1160 : alk tZ_30 1160 = some (.iconst 0, 1) := (rfl)
theorem pZ_30_1161 : alk tZ_30 1161 = some (.ireturn, 1) := (rfl)
section
variable {l : Launch} {G : Gc} {mc ms : Nat} {Q : Option AV → Wd → Prop} {w : Wd}
set_option maxRecDepth 100000 in
set_option maxHeartbeats 4000000 in
theorem lcZ_30 {c i cu su : Nat} (h : Inv c w) (hc : c < 1000) (hi : i + 6 ≤ gL G) (hL : gL G ≤ 3072) (h1 : cu + 8 ≤ mc) (h2 : su + 100 ≤ ms) (ih : ∀ w' cu' su', cu' ≤ cu + 8 → su' ≤ su + 100 → Inv (c + 1) w' → WP l G mZ 40 mc ms Q 1264 [some (.inr (.inr (some (901, 0)))), some (.inr (.inr (some (0, 0)))), some (.inr (.inr (some (13, 0)))), some (.inl (nI i))] [] w' cu' su') : WP l G mZ 40 mc ms Q 1149 [some (.inr (.inr (some (901, 0)))), some (.inr (.inr (some (0, 0)))), some (.inr (.inr (some (13, 0)))), some (.inl (nI i))] [] w cu su := by
  have wC0 := ss_C0 (iv_S h)
  have wC13 : wC w 13 = 1 := (iv_M h).1.1
  obtain ⟨n', hn', call⟩ := ca_lay (l := l) (G := G) h 
  refine wpn_ok (M := mZ) (C := cenZ) (X := (alk [])) (tb := tZ_30) (st := [1264]) eoZ XOk_nil kZ_30 60 _ _ _ _ _ _ ?_
  simp only [reduceCtorEq, fv0, fv1, fv2, fv3, bI_0, bI_1, bft, MSh_sI_eq, fsP_T, inL_0, inL_s, pad_0, pad_n, pad_s, wpn_s, wp1_s, lg_0, lg_s, lset_0, lset_s, kil_0, kil_s, st1_s, st2_s, isL_i, isL_l, isL_r, isL_n, spl_0, spl_s, cll_n, cll_s, catS_0, catS_s, jmp_s, alk_0, alk_s, otl_n, otl_s, List.nil_append, List.cons_append, List.contains_cons, List.contains_nil, Nat.reduceBEq, Bool.or_false, Bool.false_or, Bool.or_self, Bool.false_eq_true, Bool.true_or, Bool.or_true, if_true, if_false, ite_true, ite_false, ↓reduceIte, List.length_cons, List.length_nil, Nat.reduceAdd, Nat.reduceLT, Nat.reduceLeDiff, Nat.reduceEqDiff, Int.reduceAdd, Int.reduceLE, Int.toNat_natCast, Int.reduceToNat, Int.cast_ofNat_Int, true_and, and_true, false_and, and_false, true_implies, forall_const, eq_self, and_self, or_true, true_or, or_self, false_or, or_false, yI_sI, yR_sI, yC_sI, yN_sI, yI_sR, yR_sR, yC_sR, yN_sR, not_true_eq_false, not_false_eq_true, false_implies, implies_true, Nat.zero_add, Nat.add_zero, Nat.le_refl, Nat.reduceSub, Int.reduceSub, Int.reduceLT, Int.sub_zero, Int.sub_self, List.getElem?_toArray, List.getElem?_cons_zero, List.getElem?_cons_succ, Int.toNat_zero, Int.toNat_one, Int.lt_irrefl, pZ_30_1149, stp_aload_n, pZ_30_1150, stp_invokevirtual, qmZ_140, cy_S_lay, pZ_30_1153, pZ_30_1154, qmZ_143, cy_M_lay, pZ_30_1157, stp_if_icmp_eq, pZ_30_1160, stp_iconst, ic_0, pZ_30_1161, stp_ireturn, wC0, wC13]
  refine ⟨n', 8, 100, by omega, h1, h2, call.up.mono fun rr w1 h' => ?_⟩
  obtain ⟨⟨v, rfl, ty, m', hm', sem⟩, hup⟩ := h'
  obtain ⟨y, rfl⟩ : ∃ y : Int32, v = .inl y := ty
  have wD13 : 0 < wC w1 13 := by have := hup 13; omega
  refine wpn_ok (M := mZ) (C := cenZ) (X := (alk [])) (tb := tZ_30) (st := [1264]) eoZ XOk_nil kZ_30 60 _ _ _ _ _ _ ?_
  simp only [reduceCtorEq, fv0, fv1, fv2, fv3, bI_0, bI_1, bft, MSh_sI_eq, fsP_T, inL_0, inL_s, pad_0, pad_n, pad_s, wpn_s, wp1_s, lg_0, lg_s, lset_0, lset_s, kil_0, kil_s, st1_s, st2_s, isL_i, isL_l, isL_r, isL_n, spl_0, spl_s, cll_n, cll_s, catS_0, catS_s, jmp_s, alk_0, alk_s, otl_n, otl_s, List.nil_append, List.cons_append, List.contains_cons, List.contains_nil, Nat.reduceBEq, Bool.or_false, Bool.false_or, Bool.or_self, Bool.false_eq_true, Bool.true_or, Bool.or_true, if_true, if_false, ite_true, ite_false, ↓reduceIte, List.length_cons, List.length_nil, Nat.reduceAdd, Nat.reduceLT, Nat.reduceLeDiff, Nat.reduceEqDiff, Int.reduceAdd, Int.reduceLE, Int.toNat_natCast, Int.reduceToNat, Int.cast_ofNat_Int, true_and, and_true, false_and, and_false, true_implies, forall_const, eq_self, and_self, or_true, true_or, or_self, false_or, or_false, yI_sI, yR_sI, yC_sI, yN_sI, yI_sR, yR_sR, yC_sR, yN_sR, not_true_eq_false, not_false_eq_true, false_implies, implies_true, Nat.zero_add, Nat.add_zero, Nat.le_refl, Nat.reduceSub, Int.reduceSub, Int.reduceLT, Int.sub_zero, Int.sub_self, List.getElem?_toArray, List.getElem?_cons_zero, List.getElem?_cons_succ, Int.toNat_zero, Int.toNat_one, Int.lt_irrefl, pZ_30_1149, stp_aload_n, pZ_30_1150, stp_invokevirtual, qmZ_140, cy_S_lay, pZ_30_1153, pZ_30_1154, qmZ_143, cy_M_lay, pZ_30_1157, stp_if_icmp_eq, pZ_30_1160, stp_iconst, ic_0, pZ_30_1161, stp_ireturn, wD13, Option.toList_some]
  refine ⟨m', 0, 0, by omega, by omega, by omega, sem.mono fun rr w2 h' => ?_⟩
  obtain ⟨rfl, hI⟩ := h'
  refine wpn_ok (M := mZ) (C := cenZ) (X := (alk [])) (tb := tZ_30) (st := [1264]) eoZ XOk_nil kZ_30 60 _ _ _ _ _ _ ?_
  simp only [reduceCtorEq, fv0, fv1, fv2, fv3, bI_0, bI_1, bft, MSh_sI_eq, fsP_T, inL_0, inL_s, pad_0, pad_n, pad_s, wpn_s, wp1_s, lg_0, lg_s, lset_0, lset_s, kil_0, kil_s, st1_s, st2_s, isL_i, isL_l, isL_r, isL_n, spl_0, spl_s, cll_n, cll_s, catS_0, catS_s, jmp_s, alk_0, alk_s, otl_n, otl_s, List.nil_append, List.cons_append, List.contains_cons, List.contains_nil, Nat.reduceBEq, Bool.or_false, Bool.false_or, Bool.or_self, Bool.false_eq_true, Bool.true_or, Bool.or_true, if_true, if_false, ite_true, ite_false, ↓reduceIte, List.length_cons, List.length_nil, Nat.reduceAdd, Nat.reduceLT, Nat.reduceLeDiff, Nat.reduceEqDiff, Int.reduceAdd, Int.reduceLE, Int.toNat_natCast, Int.reduceToNat, Int.cast_ofNat_Int, true_and, and_true, false_and, and_false, true_implies, forall_const, eq_self, and_self, or_true, true_or, or_self, false_or, or_false, yI_sI, yR_sI, yC_sI, yN_sI, yI_sR, yR_sR, yC_sR, yN_sR, not_true_eq_false, not_false_eq_true, false_implies, implies_true, Nat.zero_add, Nat.add_zero, Nat.le_refl, Nat.reduceSub, Int.reduceSub, Int.reduceLT, Int.sub_zero, Int.sub_self, List.getElem?_toArray, List.getElem?_cons_zero, List.getElem?_cons_succ, Int.toNat_zero, Int.toNat_one, Int.lt_irrefl, pZ_30_1149, stp_aload_n, pZ_30_1150, stp_invokevirtual, qmZ_140, cy_S_lay, pZ_30_1153, pZ_30_1154, qmZ_143, cy_M_lay, pZ_30_1157, stp_if_icmp_eq, pZ_30_1160, stp_iconst, ic_0, pZ_30_1161, stp_ireturn, Option.toList_some]
  exact ih _ _ _ (by omega) (by omega) hI
end
def tZ_31 : TB := [(1162, .aload_n 1, 1), (1163, .invokevirtual 144, 3), (1166, .aload_n 2, 1), (1167, .invokevirtual 147, 3), (1170, .if_icmp .eq 94, 3), (1173, .iconst 0, 1), (1174, .ireturn, 1)]
set_option maxRecDepth 100000 in
theorem kZ_31 : tbOk (mB mZ) tZ_31 = true := by decide +kernel
theorem pZ_31_1162 : alk tZ_31 1162 = some (.aload_n 1, 1) := (rfl)
theorem pZ_31_1163 : alk tZ_31 1163 = some (.invokevirtual 144, 3) := (rfl)
theorem pZ_31_1166 : alk tZ_31 1166 = some (.aload_n 2, 1) := (rfl)
theorem pZ_31_1167 : alk tZ_31 1167 = some (.invokevirtual 147, 3) := (rfl)
theorem pZ_31_1170 : alk tZ_31 1170 = some (.if_icmp .eq 94, 3) := (rfl)
theorem pZ_31_1173 : alk tZ_31 1173 = some (.iconst 0, 1) := (rfl)
theorem pZ_31_1174 : alk tZ_31 1174 = some (.ireturn, 1) := (rfl)
section
variable {l : Launch} {G : Gc} {mc ms : Nat} {Q : Option AV → Wd → Prop} {w : Wd}
set_option maxRecDepth 100000 in
set_option maxHeartbeats 4000000 in
theorem lcZ_31 {c i cu su : Nat} (h : Inv c w) (hc : c < 1000) (hi : i + 6 ≤ gL G) (hL : gL G ≤ 3072) (h1 : cu + 8 ≤ mc) (h2 : su + 100 ≤ ms) (ih : ∀ w' cu' su', cu' ≤ cu + 8 → su' ≤ su + 100 → Inv (c + 1) w' → WP l G mZ 40 mc ms Q 1264 [some (.inr (.inr (some (901, 0)))), some (.inr (.inr (some (0, 0)))), some (.inr (.inr (some (13, 0)))), some (.inl (nI i))] [] w' cu' su') : WP l G mZ 40 mc ms Q 1162 [some (.inr (.inr (some (901, 0)))), some (.inr (.inr (some (0, 0)))), some (.inr (.inr (some (13, 0)))), some (.inl (nI i))] [] w cu su := by
  have wC0 := ss_C0 (iv_S h)
  have wC13 : wC w 13 = 1 := (iv_M h).1.1
  obtain ⟨n', hn', call⟩ := ca_tear (l := l) (G := G) h 
  refine wpn_ok (M := mZ) (C := cenZ) (X := (alk [])) (tb := tZ_31) (st := [1264]) eoZ XOk_nil kZ_31 60 _ _ _ _ _ _ ?_
  simp only [reduceCtorEq, fv0, fv1, fv2, fv3, bI_0, bI_1, bft, MSh_sI_eq, fsP_T, inL_0, inL_s, pad_0, pad_n, pad_s, wpn_s, wp1_s, lg_0, lg_s, lset_0, lset_s, kil_0, kil_s, st1_s, st2_s, isL_i, isL_l, isL_r, isL_n, spl_0, spl_s, cll_n, cll_s, catS_0, catS_s, jmp_s, alk_0, alk_s, otl_n, otl_s, List.nil_append, List.cons_append, List.contains_cons, List.contains_nil, Nat.reduceBEq, Bool.or_false, Bool.false_or, Bool.or_self, Bool.false_eq_true, Bool.true_or, Bool.or_true, if_true, if_false, ite_true, ite_false, ↓reduceIte, List.length_cons, List.length_nil, Nat.reduceAdd, Nat.reduceLT, Nat.reduceLeDiff, Nat.reduceEqDiff, Int.reduceAdd, Int.reduceLE, Int.toNat_natCast, Int.reduceToNat, Int.cast_ofNat_Int, true_and, and_true, false_and, and_false, true_implies, forall_const, eq_self, and_self, or_true, true_or, or_self, false_or, or_false, yI_sI, yR_sI, yC_sI, yN_sI, yI_sR, yR_sR, yC_sR, yN_sR, not_true_eq_false, not_false_eq_true, false_implies, implies_true, Nat.zero_add, Nat.add_zero, Nat.le_refl, Nat.reduceSub, Int.reduceSub, Int.reduceLT, Int.sub_zero, Int.sub_self, List.getElem?_toArray, List.getElem?_cons_zero, List.getElem?_cons_succ, Int.toNat_zero, Int.toNat_one, Int.lt_irrefl, pZ_31_1162, stp_aload_n, pZ_31_1163, stp_invokevirtual, qmZ_144, cy_S_tear, pZ_31_1166, pZ_31_1167, qmZ_147, cy_M_tear, pZ_31_1170, stp_if_icmp_eq, pZ_31_1173, stp_iconst, ic_0, pZ_31_1174, stp_ireturn, wC0, wC13]
  refine ⟨n', 8, 100, by omega, h1, h2, call.up.mono fun rr w1 h' => ?_⟩
  obtain ⟨⟨v, rfl, ty, m', hm', sem⟩, hup⟩ := h'
  obtain ⟨y, rfl⟩ : ∃ y : Int32, v = .inl y := ty
  have wD13 : 0 < wC w1 13 := by have := hup 13; omega
  refine wpn_ok (M := mZ) (C := cenZ) (X := (alk [])) (tb := tZ_31) (st := [1264]) eoZ XOk_nil kZ_31 60 _ _ _ _ _ _ ?_
  simp only [reduceCtorEq, fv0, fv1, fv2, fv3, bI_0, bI_1, bft, MSh_sI_eq, fsP_T, inL_0, inL_s, pad_0, pad_n, pad_s, wpn_s, wp1_s, lg_0, lg_s, lset_0, lset_s, kil_0, kil_s, st1_s, st2_s, isL_i, isL_l, isL_r, isL_n, spl_0, spl_s, cll_n, cll_s, catS_0, catS_s, jmp_s, alk_0, alk_s, otl_n, otl_s, List.nil_append, List.cons_append, List.contains_cons, List.contains_nil, Nat.reduceBEq, Bool.or_false, Bool.false_or, Bool.or_self, Bool.false_eq_true, Bool.true_or, Bool.or_true, if_true, if_false, ite_true, ite_false, ↓reduceIte, List.length_cons, List.length_nil, Nat.reduceAdd, Nat.reduceLT, Nat.reduceLeDiff, Nat.reduceEqDiff, Int.reduceAdd, Int.reduceLE, Int.toNat_natCast, Int.reduceToNat, Int.cast_ofNat_Int, true_and, and_true, false_and, and_false, true_implies, forall_const, eq_self, and_self, or_true, true_or, or_self, false_or, or_false, yI_sI, yR_sI, yC_sI, yN_sI, yI_sR, yR_sR, yC_sR, yN_sR, not_true_eq_false, not_false_eq_true, false_implies, implies_true, Nat.zero_add, Nat.add_zero, Nat.le_refl, Nat.reduceSub, Int.reduceSub, Int.reduceLT, Int.sub_zero, Int.sub_self, List.getElem?_toArray, List.getElem?_cons_zero, List.getElem?_cons_succ, Int.toNat_zero, Int.toNat_one, Int.lt_irrefl, pZ_31_1162, stp_aload_n, pZ_31_1163, stp_invokevirtual, qmZ_144, cy_S_tear, pZ_31_1166, pZ_31_1167, qmZ_147, cy_M_tear, pZ_31_1170, stp_if_icmp_eq, pZ_31_1173, stp_iconst, ic_0, pZ_31_1174, stp_ireturn, wD13, Option.toList_some]
  refine ⟨m', 0, 0, by omega, by omega, by omega, sem.mono fun rr w2 h' => ?_⟩
  obtain ⟨rfl, hI⟩ := h'
  refine wpn_ok (M := mZ) (C := cenZ) (X := (alk [])) (tb := tZ_31) (st := [1264]) eoZ XOk_nil kZ_31 60 _ _ _ _ _ _ ?_
  simp only [reduceCtorEq, fv0, fv1, fv2, fv3, bI_0, bI_1, bft, MSh_sI_eq, fsP_T, inL_0, inL_s, pad_0, pad_n, pad_s, wpn_s, wp1_s, lg_0, lg_s, lset_0, lset_s, kil_0, kil_s, st1_s, st2_s, isL_i, isL_l, isL_r, isL_n, spl_0, spl_s, cll_n, cll_s, catS_0, catS_s, jmp_s, alk_0, alk_s, otl_n, otl_s, List.nil_append, List.cons_append, List.contains_cons, List.contains_nil, Nat.reduceBEq, Bool.or_false, Bool.false_or, Bool.or_self, Bool.false_eq_true, Bool.true_or, Bool.or_true, if_true, if_false, ite_true, ite_false, ↓reduceIte, List.length_cons, List.length_nil, Nat.reduceAdd, Nat.reduceLT, Nat.reduceLeDiff, Nat.reduceEqDiff, Int.reduceAdd, Int.reduceLE, Int.toNat_natCast, Int.reduceToNat, Int.cast_ofNat_Int, true_and, and_true, false_and, and_false, true_implies, forall_const, eq_self, and_self, or_true, true_or, or_self, false_or, or_false, yI_sI, yR_sI, yC_sI, yN_sI, yI_sR, yR_sR, yC_sR, yN_sR, not_true_eq_false, not_false_eq_true, false_implies, implies_true, Nat.zero_add, Nat.add_zero, Nat.le_refl, Nat.reduceSub, Int.reduceSub, Int.reduceLT, Int.sub_zero, Int.sub_self, List.getElem?_toArray, List.getElem?_cons_zero, List.getElem?_cons_succ, Int.toNat_zero, Int.toNat_one, Int.lt_irrefl, pZ_31_1162, stp_aload_n, pZ_31_1163, stp_invokevirtual, qmZ_144, cy_S_tear, pZ_31_1166, pZ_31_1167, qmZ_147, cy_M_tear, pZ_31_1170, stp_if_icmp_eq, pZ_31_1173, stp_iconst, ic_0, pZ_31_1174, stp_ireturn, Option.toList_some]
  exact ih _ _ _ (by omega) (by omega) hI
end
def tZ_32 : TB := [(1175, .aload_n 1, 1), (1176, .aload_n 0, 1), (1177, .iload_n 3, 1), (1178, .iconst 1, 1), (1179, .iadd, 1), (1180, .iaload, 1), (1181, .invokevirtual 148, 3), (1184, .aload_n 2, 1), (1185, .aload_n 0, 1), (1186, .iload_n 3, 1), (1187, .iconst 1, 1), (1188, .iadd, 1), (1189, .iaload, 1), (1190, .invokevirtual 151, 3), (1193, .if_icmp .eq 71, 3), (1196, .iconst 0, 1), (1197, .ireturn, 1)]
set_option maxRecDepth 100000 in
theorem kZ_32 : tbOk (mB mZ) tZ_32 = true := by decide +kernel
theorem pZ_32_1175 : alk tZ_32 1175 = some (.aload_n 1, 1) := (rfl)
theorem pZ_32_1176 : alk tZ_32 1176 = some (.aload_n 0, 1) := (rfl)
theorem pZ_32_1177 : alk tZ_32 1177 = some (.iload_n 3, 1) := (rfl)
theorem pZ_32_1178 : alk tZ_32 1178 = some (.iconst 1, 1) := (rfl)
theorem pZ_32_1179 : alk tZ_32 1179 = some (.iadd, 1) := (rfl)
theorem pZ_32_1180 : alk tZ_32 1180 = some (.iaload, 1) := (rfl)
theorem pZ_32_1181 : alk tZ_32 1181 = some (.invokevirtual 148, 3) := (rfl)
theorem pZ_32_1184 : alk tZ_32 1184 = some (.aload_n 2, 1) := (rfl)
theorem pZ_32_1185 : alk tZ_32 1185 = some (.aload_n 0, 1) := (rfl)
theorem pZ_32_1186 : alk tZ_32 1186 = some (.iload_n 3, 1) := (rfl)
theorem pZ_32_1187 : alk tZ_32 1187 = some (.iconst 1, 1) := (rfl)
theorem pZ_32_1188 : alk tZ_32 1188 = some (.iadd, 1) := (rfl)
theorem pZ_32_1189 : alk tZ_32 1189 = some (.iaload, 1) := (rfl)
theorem pZ_32_1190 : alk tZ_32 1190 = some (.invokevirtual 151, 3) := (rfl)
theorem pZ_32_1193 : alk tZ_32 1193 = some (.if_icmp .eq 71, 3) := (rfl)
theorem pZ_32_1196 : alk tZ_32 1196 = some (.iconst 0, 1) := (rfl)
theorem pZ_32_1197 : alk tZ_32 1197 = some (.ireturn, 1) := (rfl)
section
variable {l : Launch} {G : Gc} {mc ms : Nat} {Q : Option AV → Wd → Prop} {w : Wd}
set_option maxRecDepth 100000 in
set_option maxHeartbeats 4000000 in
theorem lcZ_32 {c i cu su : Nat} (h : Inv c w) (hc : c < 1000) (hi : i + 6 ≤ gL G) (hL : gL G ≤ 3072) (h1 : cu + 8 ≤ mc) (h2 : su + 100 ≤ ms) (ih : ∀ w' cu' su', cu' ≤ cu + 8 → su' ≤ su + 100 → Inv (c + 1) w' → WP l G mZ 40 mc ms Q 1264 [some (.inr (.inr (some (901, 0)))), some (.inr (.inr (some (0, 0)))), some (.inr (.inr (some (13, 0)))), some (.inl (nI i))] [] w' cu' su') : WP l G mZ 40 mc ms Q 1175 [some (.inr (.inr (some (901, 0)))), some (.inr (.inr (some (0, 0)))), some (.inr (.inr (some (13, 0)))), some (.inl (nI i))] [] w cu su := by
  have wC0 := ss_C0 (iv_S h)
  have wC13 : wC w 13 = 1 := (iv_M h).1.1
  have v1 : vp_in (nI i + 1) (gL G) := by rw [show nI i + 1 = nI (i + 1) from nI_add i 1]; exact vp_in_nI (by omega) (by omega)
  have c1 : (nI i + 1).toNatClampNeg = i + 1 := by rw [show nI i + 1 = nI (i + 1) from nI_add i 1]; exact nI_clamp (by omega)
  obtain ⟨n', hn', call⟩ := ca_row (l := l) (G := G) h hc (gS G (i + 1))
  refine wpn_ok (M := mZ) (C := cenZ) (X := (alk [])) (tb := tZ_32) (st := [1264]) eoZ XOk_nil kZ_32 60 _ _ _ _ _ _ ?_
  simp only [reduceCtorEq, fv0, fv1, fv2, fv3, bI_0, bI_1, bft, MSh_sI_eq, fsP_T, inL_0, inL_s, pad_0, pad_n, pad_s, wpn_s, wp1_s, lg_0, lg_s, lset_0, lset_s, kil_0, kil_s, st1_s, st2_s, isL_i, isL_l, isL_r, isL_n, spl_0, spl_s, cll_n, cll_s, catS_0, catS_s, jmp_s, alk_0, alk_s, otl_n, otl_s, List.nil_append, List.cons_append, List.contains_cons, List.contains_nil, Nat.reduceBEq, Bool.or_false, Bool.false_or, Bool.or_self, Bool.false_eq_true, Bool.true_or, Bool.or_true, if_true, if_false, ite_true, ite_false, ↓reduceIte, List.length_cons, List.length_nil, Nat.reduceAdd, Nat.reduceLT, Nat.reduceLeDiff, Nat.reduceEqDiff, Int.reduceAdd, Int.reduceLE, Int.toNat_natCast, Int.reduceToNat, Int.cast_ofNat_Int, true_and, and_true, false_and, and_false, true_implies, forall_const, eq_self, and_self, or_true, true_or, or_self, false_or, or_false, yI_sI, yR_sI, yC_sI, yN_sI, yI_sR, yR_sR, yC_sR, yN_sR, not_true_eq_false, not_false_eq_true, false_implies, implies_true, Nat.zero_add, Nat.add_zero, Nat.le_refl, Nat.reduceSub, Int.reduceSub, Int.reduceLT, Int.sub_zero, Int.sub_self, List.getElem?_toArray, List.getElem?_cons_zero, List.getElem?_cons_succ, Int.toNat_zero, Int.toNat_one, Int.lt_irrefl, pZ_32_1175, stp_aload_n, pZ_32_1176, pZ_32_1177, stp_iload_n, pZ_32_1178, stp_iconst, ic_1, pZ_32_1179, stp_iadd, pZ_32_1180, stp_iaload, pZ_32_1181, stp_invokevirtual, qmZ_148, cy_S_row, pZ_32_1184, pZ_32_1185, pZ_32_1186, pZ_32_1187, pZ_32_1188, pZ_32_1189, pZ_32_1190, qmZ_151, cy_M_row, pZ_32_1193, stp_if_icmp_eq, pZ_32_1196, ic_0, pZ_32_1197, stp_ireturn, wC0, wC13, v1, c1]
  refine ⟨n', 8, 100, by omega, h1, h2, call.up.mono fun rr w1 h' => ?_⟩
  obtain ⟨⟨v, rfl, ty, m', hm', sem⟩, hup⟩ := h'
  obtain ⟨y, rfl⟩ : ∃ y : Int32, v = .inl y := ty
  have wD13 : 0 < wC w1 13 := by have := hup 13; omega
  refine wpn_ok (M := mZ) (C := cenZ) (X := (alk [])) (tb := tZ_32) (st := [1264]) eoZ XOk_nil kZ_32 60 _ _ _ _ _ _ ?_
  simp only [reduceCtorEq, fv0, fv1, fv2, fv3, bI_0, bI_1, bft, MSh_sI_eq, fsP_T, inL_0, inL_s, pad_0, pad_n, pad_s, wpn_s, wp1_s, lg_0, lg_s, lset_0, lset_s, kil_0, kil_s, st1_s, st2_s, isL_i, isL_l, isL_r, isL_n, spl_0, spl_s, cll_n, cll_s, catS_0, catS_s, jmp_s, alk_0, alk_s, otl_n, otl_s, List.nil_append, List.cons_append, List.contains_cons, List.contains_nil, Nat.reduceBEq, Bool.or_false, Bool.false_or, Bool.or_self, Bool.false_eq_true, Bool.true_or, Bool.or_true, if_true, if_false, ite_true, ite_false, ↓reduceIte, List.length_cons, List.length_nil, Nat.reduceAdd, Nat.reduceLT, Nat.reduceLeDiff, Nat.reduceEqDiff, Int.reduceAdd, Int.reduceLE, Int.toNat_natCast, Int.reduceToNat, Int.cast_ofNat_Int, true_and, and_true, false_and, and_false, true_implies, forall_const, eq_self, and_self, or_true, true_or, or_self, false_or, or_false, yI_sI, yR_sI, yC_sI, yN_sI, yI_sR, yR_sR, yC_sR, yN_sR, not_true_eq_false, not_false_eq_true, false_implies, implies_true, Nat.zero_add, Nat.add_zero, Nat.le_refl, Nat.reduceSub, Int.reduceSub, Int.reduceLT, Int.sub_zero, Int.sub_self, List.getElem?_toArray, List.getElem?_cons_zero, List.getElem?_cons_succ, Int.toNat_zero, Int.toNat_one, Int.lt_irrefl, pZ_32_1175, stp_aload_n, pZ_32_1176, pZ_32_1177, stp_iload_n, pZ_32_1178, stp_iconst, ic_1, pZ_32_1179, stp_iadd, pZ_32_1180, stp_iaload, pZ_32_1181, stp_invokevirtual, qmZ_148, cy_S_row, pZ_32_1184, pZ_32_1185, pZ_32_1186, pZ_32_1187, pZ_32_1188, pZ_32_1189, pZ_32_1190, qmZ_151, cy_M_row, pZ_32_1193, stp_if_icmp_eq, pZ_32_1196, ic_0, pZ_32_1197, stp_ireturn, wD13, Option.toList_some, v1, c1]
  refine ⟨m', 0, 0, by omega, by omega, by omega, sem.mono fun rr w2 h' => ?_⟩
  obtain ⟨rfl, hI⟩ := h'
  refine wpn_ok (M := mZ) (C := cenZ) (X := (alk [])) (tb := tZ_32) (st := [1264]) eoZ XOk_nil kZ_32 60 _ _ _ _ _ _ ?_
  simp only [reduceCtorEq, fv0, fv1, fv2, fv3, bI_0, bI_1, bft, MSh_sI_eq, fsP_T, inL_0, inL_s, pad_0, pad_n, pad_s, wpn_s, wp1_s, lg_0, lg_s, lset_0, lset_s, kil_0, kil_s, st1_s, st2_s, isL_i, isL_l, isL_r, isL_n, spl_0, spl_s, cll_n, cll_s, catS_0, catS_s, jmp_s, alk_0, alk_s, otl_n, otl_s, List.nil_append, List.cons_append, List.contains_cons, List.contains_nil, Nat.reduceBEq, Bool.or_false, Bool.false_or, Bool.or_self, Bool.false_eq_true, Bool.true_or, Bool.or_true, if_true, if_false, ite_true, ite_false, ↓reduceIte, List.length_cons, List.length_nil, Nat.reduceAdd, Nat.reduceLT, Nat.reduceLeDiff, Nat.reduceEqDiff, Int.reduceAdd, Int.reduceLE, Int.toNat_natCast, Int.reduceToNat, Int.cast_ofNat_Int, true_and, and_true, false_and, and_false, true_implies, forall_const, eq_self, and_self, or_true, true_or, or_self, false_or, or_false, yI_sI, yR_sI, yC_sI, yN_sI, yI_sR, yR_sR, yC_sR, yN_sR, not_true_eq_false, not_false_eq_true, false_implies, implies_true, Nat.zero_add, Nat.add_zero, Nat.le_refl, Nat.reduceSub, Int.reduceSub, Int.reduceLT, Int.sub_zero, Int.sub_self, List.getElem?_toArray, List.getElem?_cons_zero, List.getElem?_cons_succ, Int.toNat_zero, Int.toNat_one, Int.lt_irrefl, pZ_32_1175, stp_aload_n, pZ_32_1176, pZ_32_1177, stp_iload_n, pZ_32_1178, stp_iconst, ic_1, pZ_32_1179, stp_iadd, pZ_32_1180, stp_iaload, pZ_32_1181, stp_invokevirtual, qmZ_148, cy_S_row, pZ_32_1184, pZ_32_1185, pZ_32_1186, pZ_32_1187, pZ_32_1188, pZ_32_1189, pZ_32_1190, qmZ_151, cy_M_row, pZ_32_1193, stp_if_icmp_eq, pZ_32_1196, ic_0, pZ_32_1197, stp_ireturn, Option.toList_some]
  exact ih _ _ _ (by omega) (by omega) hI
end
def tZ_33 : TB := [(1198, .aload_n 1, 1), (1199, .aload_n 0, 1), (1200, .iload_n 3, 1), (1201, .iconst 1, 1), (1202, .iadd, 1), (1203, .iaload, 1), (1204, .aload_n 0, 1), (1205, .iload_n 3, 1), (1206, .iconst 2, 1), (1207, .iadd, 1), (1208, .iaload, 1), (1209, .aload_n 0, 1), (1210, .iload_n 3, 1), (1211, .iconst 3, 1), (1212, .iadd, 1), (1213, .iaload, 1), (1214, .invokevirtual 152, 3), (1217, .aload_n 2, 1), (1218, .aload_n 0, 1), (1219, .iload_n 3, 1), (1220, .iconst 1, 1), (1221, .iadd, 1), (1222, .iaload, 1), (1223, .aload_n 0, 1), (1224, .iload_n 3, 1), (1225, .iconst 2, 1), (1226, .iadd, 1), (1227, .iaload, 1), (1228, .aload_n 0, 1), (1229, .iload_n 3, 1), (1230, .iconst 3, 1), (1231, .iadd, 1), (1232, .iaload, 1), (1233, .invokevirtual 155, 3), (1236, .if_icmp .eq 28, 3), (1239, .iconst 0, 1), (1240, .ireturn, 1)]
set_option maxRecDepth 100000 in
theorem kZ_33 : tbOk (mB mZ) tZ_33 = true := by decide +kernel
theorem pZ_33_1198 : alk tZ_33 1198 = some (.aload_n 1, 1) := (rfl)
theorem pZ_33_1199 : alk tZ_33 1199 = some (.aload_n 0, 1) := (rfl)
theorem pZ_33_1200 : alk tZ_33 1200 = some (.iload_n 3, 1) := (rfl)
theorem pZ_33_1201 : alk tZ_33 1201 = some (.iconst 1, 1) := (rfl)
theorem pZ_33_1202 : alk tZ_33 1202 = some (.iadd, 1) := (rfl)
theorem pZ_33_1203 : alk tZ_33 1203 = some (.iaload, 1) := (rfl)
theorem pZ_33_1204 : alk tZ_33 1204 = some (.aload_n 0, 1) := (rfl)
theorem pZ_33_1205 : alk tZ_33 1205 = some (.iload_n 3, 1) := (rfl)
theorem pZ_33_1206 : alk tZ_33 1206 = some (.iconst 2, 1) := (rfl)
theorem pZ_33_1207 : alk tZ_33 1207 = some (.iadd, 1) := (rfl)
theorem pZ_33_1208 : alk tZ_33 1208 = some (.iaload, 1) := (rfl)
theorem pZ_33_1209 : alk tZ_33 1209 = some (.aload_n 0, 1) := (rfl)
theorem pZ_33_1210 : alk tZ_33 1210 = some (.iload_n 3, 1) := (rfl)
theorem pZ_33_1211 : alk tZ_33 1211 = some (.iconst 3, 1) := (rfl)
theorem pZ_33_1212 : alk tZ_33 1212 = some (.iadd, 1) := (rfl)
theorem pZ_33_1213 : alk tZ_33 1213 = some (.iaload, 1) := (rfl)
theorem pZ_33_1214 : alk tZ_33 1214 = some (.invokevirtual 152, 3) := (rfl)
theorem pZ_33_1217 : alk tZ_33 1217 = some (.aload_n 2, 1) := (rfl)
theorem pZ_33_1218 : alk tZ_33 1218 = some (.aload_n 0, 1) := (rfl)
theorem pZ_33_1219 : alk tZ_33 1219 = some (.iload_n 3, 1) := (rfl)
theorem pZ_33_1220 : alk tZ_33 1220 = some (.iconst 1, 1) := (rfl)
theorem pZ_33_1221 : alk tZ_33 1221 = some (.iadd, 1) := (rfl)
theorem pZ_33_1222 : alk tZ_33 1222 = some (.iaload, 1) := (rfl)
theorem pZ_33_1223 : alk tZ_33 1223 = some (.aload_n 0, 1) := (rfl)
theorem pZ_33_1224 : alk tZ_33 1224 = some (.iload_n 3, 1) := (rfl)
theorem pZ_33_1225 : alk tZ_33 1225 = some (.iconst 2, 1) := (rfl)
theorem pZ_33_1226 : alk tZ_33 1226 = some (.iadd, 1) := (rfl)
theorem pZ_33_1227 : alk tZ_33 1227 = some (.iaload, 1) := (rfl)
theorem pZ_33_1228 : alk tZ_33 1228 = some (.aload_n 0, 1) := (rfl)
theorem pZ_33_1229 : alk tZ_33 1229 = some (.iload_n 3, 1) := (rfl)
theorem pZ_33_1230 : alk tZ_33 1230 = some (.iconst 3, 1) := (rfl)
theorem pZ_33_1231 : alk tZ_33 1231 = some (.iadd, 1) := (rfl)
theorem pZ_33_1232 : alk tZ_33 1232 = some (.iaload, 1) := (rfl)
theorem pZ_33_1233 : alk tZ_33 1233 = some (.invokevirtual 155, 3) := (rfl)
theorem pZ_33_1236 : alk tZ_33 1236 = some (.if_icmp .eq 28, 3) := (rfl)
theorem pZ_33_1239 : alk tZ_33 1239 = some (.iconst 0, 1) := (rfl)
theorem pZ_33_1240 : alk tZ_33 1240 = some (.ireturn, 1) := (rfl)
section
variable {l : Launch} {G : Gc} {mc ms : Nat} {Q : Option AV → Wd → Prop} {w : Wd}
set_option maxRecDepth 100000 in
set_option maxHeartbeats 4000000 in
theorem lcZ_33 {c i cu su : Nat} (h : Inv c w) (hc : c < 1000) (hi : i + 6 ≤ gL G) (hL : gL G ≤ 3072) (h1 : cu + 8 ≤ mc) (h2 : su + 100 ≤ ms) (ih : ∀ w' cu' su', cu' ≤ cu + 8 → su' ≤ su + 100 → Inv (c + 1) w' → WP l G mZ 40 mc ms Q 1264 [some (.inr (.inr (some (901, 0)))), some (.inr (.inr (some (0, 0)))), some (.inr (.inr (some (13, 0)))), some (.inl (nI i))] [] w' cu' su') : WP l G mZ 40 mc ms Q 1198 [some (.inr (.inr (some (901, 0)))), some (.inr (.inr (some (0, 0)))), some (.inr (.inr (some (13, 0)))), some (.inl (nI i))] [] w cu su := by
  have wC0 := ss_C0 (iv_S h)
  have wC13 : wC w 13 = 1 := (iv_M h).1.1
  have v1 : vp_in (nI i + 1) (gL G) := by rw [show nI i + 1 = nI (i + 1) from nI_add i 1]; exact vp_in_nI (by omega) (by omega)
  have c1 : (nI i + 1).toNatClampNeg = i + 1 := by rw [show nI i + 1 = nI (i + 1) from nI_add i 1]; exact nI_clamp (by omega)
  have v2 : vp_in (nI i + 2) (gL G) := by rw [show nI i + 2 = nI (i + 2) from nI_add i 2]; exact vp_in_nI (by omega) (by omega)
  have c2 : (nI i + 2).toNatClampNeg = i + 2 := by rw [show nI i + 2 = nI (i + 2) from nI_add i 2]; exact nI_clamp (by omega)
  have v3 : vp_in (nI i + 3) (gL G) := by rw [show nI i + 3 = nI (i + 3) from nI_add i 3]; exact vp_in_nI (by omega) (by omega)
  have c3 : (nI i + 3).toNatClampNeg = i + 3 := by rw [show nI i + 3 = nI (i + 3) from nI_add i 3]; exact nI_clamp (by omega)
  obtain ⟨n', hn', call⟩ := ca_copy (l := l) (G := G) h (gS G (i + 1)) (gS G (i + 2)) (gS G (i + 3))
  refine wpn_ok (M := mZ) (C := cenZ) (X := (alk [])) (tb := tZ_33) (st := [1264]) eoZ XOk_nil kZ_33 60 _ _ _ _ _ _ ?_
  simp only [reduceCtorEq, fv0, fv1, fv2, fv3, bI_0, bI_1, bft, MSh_sI_eq, fsP_T, inL_0, inL_s, pad_0, pad_n, pad_s, wpn_s, wp1_s, lg_0, lg_s, lset_0, lset_s, kil_0, kil_s, st1_s, st2_s, isL_i, isL_l, isL_r, isL_n, spl_0, spl_s, cll_n, cll_s, catS_0, catS_s, jmp_s, alk_0, alk_s, otl_n, otl_s, List.nil_append, List.cons_append, List.contains_cons, List.contains_nil, Nat.reduceBEq, Bool.or_false, Bool.false_or, Bool.or_self, Bool.false_eq_true, Bool.true_or, Bool.or_true, if_true, if_false, ite_true, ite_false, ↓reduceIte, List.length_cons, List.length_nil, Nat.reduceAdd, Nat.reduceLT, Nat.reduceLeDiff, Nat.reduceEqDiff, Int.reduceAdd, Int.reduceLE, Int.toNat_natCast, Int.reduceToNat, Int.cast_ofNat_Int, true_and, and_true, false_and, and_false, true_implies, forall_const, eq_self, and_self, or_true, true_or, or_self, false_or, or_false, yI_sI, yR_sI, yC_sI, yN_sI, yI_sR, yR_sR, yC_sR, yN_sR, not_true_eq_false, not_false_eq_true, false_implies, implies_true, Nat.zero_add, Nat.add_zero, Nat.le_refl, Nat.reduceSub, Int.reduceSub, Int.reduceLT, Int.sub_zero, Int.sub_self, List.getElem?_toArray, List.getElem?_cons_zero, List.getElem?_cons_succ, Int.toNat_zero, Int.toNat_one, Int.lt_irrefl, pZ_33_1198, stp_aload_n, pZ_33_1199, pZ_33_1200, stp_iload_n, pZ_33_1201, stp_iconst, ic_1, pZ_33_1202, stp_iadd, pZ_33_1203, stp_iaload, pZ_33_1204, pZ_33_1205, pZ_33_1206, ic_2, pZ_33_1207, pZ_33_1208, pZ_33_1209, pZ_33_1210, pZ_33_1211, ic_3, pZ_33_1212, pZ_33_1213, pZ_33_1214, stp_invokevirtual, qmZ_152, cy_S_copy, pZ_33_1217, pZ_33_1218, pZ_33_1219, pZ_33_1220, pZ_33_1221, pZ_33_1222, pZ_33_1223, pZ_33_1224, pZ_33_1225, pZ_33_1226, pZ_33_1227, pZ_33_1228, pZ_33_1229, pZ_33_1230, pZ_33_1231, pZ_33_1232, pZ_33_1233, qmZ_155, cy_M_copy, pZ_33_1236, stp_if_icmp_eq, pZ_33_1239, ic_0, pZ_33_1240, stp_ireturn, wC0, wC13, v1, c1, v2, c2, v3, c3]
  refine ⟨n', 8, 100, by omega, h1, h2, call.up.mono fun rr w1 h' => ?_⟩
  obtain ⟨⟨v, rfl, ty, m', hm', sem⟩, hup⟩ := h'
  obtain ⟨y, rfl⟩ : ∃ y : Int32, v = .inl y := ty
  have wD13 : 0 < wC w1 13 := by have := hup 13; omega
  refine wpn_ok (M := mZ) (C := cenZ) (X := (alk [])) (tb := tZ_33) (st := [1264]) eoZ XOk_nil kZ_33 60 _ _ _ _ _ _ ?_
  simp only [reduceCtorEq, fv0, fv1, fv2, fv3, bI_0, bI_1, bft, MSh_sI_eq, fsP_T, inL_0, inL_s, pad_0, pad_n, pad_s, wpn_s, wp1_s, lg_0, lg_s, lset_0, lset_s, kil_0, kil_s, st1_s, st2_s, isL_i, isL_l, isL_r, isL_n, spl_0, spl_s, cll_n, cll_s, catS_0, catS_s, jmp_s, alk_0, alk_s, otl_n, otl_s, List.nil_append, List.cons_append, List.contains_cons, List.contains_nil, Nat.reduceBEq, Bool.or_false, Bool.false_or, Bool.or_self, Bool.false_eq_true, Bool.true_or, Bool.or_true, if_true, if_false, ite_true, ite_false, ↓reduceIte, List.length_cons, List.length_nil, Nat.reduceAdd, Nat.reduceLT, Nat.reduceLeDiff, Nat.reduceEqDiff, Int.reduceAdd, Int.reduceLE, Int.toNat_natCast, Int.reduceToNat, Int.cast_ofNat_Int, true_and, and_true, false_and, and_false, true_implies, forall_const, eq_self, and_self, or_true, true_or, or_self, false_or, or_false, yI_sI, yR_sI, yC_sI, yN_sI, yI_sR, yR_sR, yC_sR, yN_sR, not_true_eq_false, not_false_eq_true, false_implies, implies_true, Nat.zero_add, Nat.add_zero, Nat.le_refl, Nat.reduceSub, Int.reduceSub, Int.reduceLT, Int.sub_zero, Int.sub_self, List.getElem?_toArray, List.getElem?_cons_zero, List.getElem?_cons_succ, Int.toNat_zero, Int.toNat_one, Int.lt_irrefl, pZ_33_1198, stp_aload_n, pZ_33_1199, pZ_33_1200, stp_iload_n, pZ_33_1201, stp_iconst, ic_1, pZ_33_1202, stp_iadd, pZ_33_1203, stp_iaload, pZ_33_1204, pZ_33_1205, pZ_33_1206, ic_2, pZ_33_1207, pZ_33_1208, pZ_33_1209, pZ_33_1210, pZ_33_1211, ic_3, pZ_33_1212, pZ_33_1213, pZ_33_1214, stp_invokevirtual, qmZ_152, cy_S_copy, pZ_33_1217, pZ_33_1218, pZ_33_1219, pZ_33_1220, pZ_33_1221, pZ_33_1222, pZ_33_1223, pZ_33_1224, pZ_33_1225, pZ_33_1226, pZ_33_1227, pZ_33_1228, pZ_33_1229, pZ_33_1230, pZ_33_1231, pZ_33_1232, pZ_33_1233, qmZ_155, cy_M_copy, pZ_33_1236, stp_if_icmp_eq, pZ_33_1239, ic_0, pZ_33_1240, stp_ireturn, wD13, Option.toList_some, v1, c1, v2, c2, v3, c3]
  refine ⟨m', 0, 0, by omega, by omega, by omega, sem.mono fun rr w2 h' => ?_⟩
  obtain ⟨rfl, hI⟩ := h'
  refine wpn_ok (M := mZ) (C := cenZ) (X := (alk [])) (tb := tZ_33) (st := [1264]) eoZ XOk_nil kZ_33 60 _ _ _ _ _ _ ?_
  simp only [reduceCtorEq, fv0, fv1, fv2, fv3, bI_0, bI_1, bft, MSh_sI_eq, fsP_T, inL_0, inL_s, pad_0, pad_n, pad_s, wpn_s, wp1_s, lg_0, lg_s, lset_0, lset_s, kil_0, kil_s, st1_s, st2_s, isL_i, isL_l, isL_r, isL_n, spl_0, spl_s, cll_n, cll_s, catS_0, catS_s, jmp_s, alk_0, alk_s, otl_n, otl_s, List.nil_append, List.cons_append, List.contains_cons, List.contains_nil, Nat.reduceBEq, Bool.or_false, Bool.false_or, Bool.or_self, Bool.false_eq_true, Bool.true_or, Bool.or_true, if_true, if_false, ite_true, ite_false, ↓reduceIte, List.length_cons, List.length_nil, Nat.reduceAdd, Nat.reduceLT, Nat.reduceLeDiff, Nat.reduceEqDiff, Int.reduceAdd, Int.reduceLE, Int.toNat_natCast, Int.reduceToNat, Int.cast_ofNat_Int, true_and, and_true, false_and, and_false, true_implies, forall_const, eq_self, and_self, or_true, true_or, or_self, false_or, or_false, yI_sI, yR_sI, yC_sI, yN_sI, yI_sR, yR_sR, yC_sR, yN_sR, not_true_eq_false, not_false_eq_true, false_implies, implies_true, Nat.zero_add, Nat.add_zero, Nat.le_refl, Nat.reduceSub, Int.reduceSub, Int.reduceLT, Int.sub_zero, Int.sub_self, List.getElem?_toArray, List.getElem?_cons_zero, List.getElem?_cons_succ, Int.toNat_zero, Int.toNat_one, Int.lt_irrefl, pZ_33_1198, stp_aload_n, pZ_33_1199, pZ_33_1200, stp_iload_n, pZ_33_1201, stp_iconst, ic_1, pZ_33_1202, stp_iadd, pZ_33_1203, stp_iaload, pZ_33_1204, pZ_33_1205, pZ_33_1206, ic_2, pZ_33_1207, pZ_33_1208, pZ_33_1209, pZ_33_1210, pZ_33_1211, ic_3, pZ_33_1212, pZ_33_1213, pZ_33_1214, stp_invokevirtual, qmZ_152, cy_S_copy, pZ_33_1217, pZ_33_1218, pZ_33_1219, pZ_33_1220, pZ_33_1221, pZ_33_1222, pZ_33_1223, pZ_33_1224, pZ_33_1225, pZ_33_1226, pZ_33_1227, pZ_33_1228, pZ_33_1229, pZ_33_1230, pZ_33_1231, pZ_33_1232, pZ_33_1233, qmZ_155, cy_M_copy, pZ_33_1236, stp_if_icmp_eq, pZ_33_1239, ic_0, pZ_33_1240, stp_ireturn, Option.toList_some]
  exact ih _ _ _ (by omega) (by omega) hI
end
def tZ_34 : TB := [(1241, .aload_n 1, 1), (1242, .aload_n 0, 1), (1243, .iload_n 3, 1), (1244, .iconst 1, 1), (1245, .iadd, 1), (1246, .iaload, 1), (1247, .invokevirtual 156, 3), (1250, .aload_n 2, 1), (1251, .aload_n 0, 1), (1252, .iload_n 3, 1), (1253, .iconst 1, 1), (1254, .iadd, 1), (1255, .iaload, 1), (1256, .invokevirtual 159, 3), (1259, .if_icmp .eq 5, 3), (1262, .iconst 0, 1), (1263, .ireturn, 1)]
set_option maxRecDepth 100000 in
theorem kZ_34 : tbOk (mB mZ) tZ_34 = true := by decide +kernel
theorem pZ_34_1241 : alk tZ_34 1241 = some (.aload_n 1, 1) := (rfl)
theorem pZ_34_1242 : alk tZ_34 1242 = some (.aload_n 0, 1) := (rfl)
theorem pZ_34_1243 : alk tZ_34 1243 = some (.iload_n 3, 1) := (rfl)
theorem pZ_34_1244 : alk tZ_34 1244 = some (.iconst 1, 1) := (rfl)
theorem pZ_34_1245 : alk tZ_34 1245 = some (.iadd, 1) := (rfl)
theorem pZ_34_1246 : alk tZ_34 1246 = some (.iaload, 1) := (rfl)
theorem pZ_34_1247 : alk tZ_34 1247 = some (.invokevirtual 156, 3) := (rfl)
theorem pZ_34_1250 : alk tZ_34 1250 = some (.aload_n 2, 1) := (rfl)
theorem pZ_34_1251 : alk tZ_34 1251 = some (.aload_n 0, 1) := (rfl)
theorem pZ_34_1252 : alk tZ_34 1252 = some (.iload_n 3, 1) := (rfl)
theorem pZ_34_1253 : alk tZ_34 1253 = some (.iconst 1, 1) := (rfl)
theorem pZ_34_1254 : alk tZ_34 1254 = some (.iadd, 1) := (rfl)
theorem pZ_34_1255 : alk tZ_34 1255 = some (.iaload, 1) := (rfl)
theorem pZ_34_1256 : alk tZ_34 1256 = some (.invokevirtual 159, 3) := (rfl)
theorem pZ_34_1259 : alk tZ_34 1259 = some (.if_icmp .eq 5, 3) := (rfl)
theorem pZ_34_1262 : alk tZ_34 1262 = some (.iconst 0, 1) := (rfl)
theorem pZ_34_1263 : alk tZ_34 1263 = some (.ireturn, 1) := (rfl)
section
variable {l : Launch} {G : Gc} {mc ms : Nat} {Q : Option AV → Wd → Prop} {w : Wd}
set_option maxRecDepth 100000 in
set_option maxHeartbeats 4000000 in
theorem lcZ_34 {c i cu su : Nat} (h : Inv c w) (hc : c < 1000) (hi : i + 6 ≤ gL G) (hL : gL G ≤ 3072) (h1 : cu + 8 ≤ mc) (h2 : su + 100 ≤ ms) (ih : ∀ w' cu' su', cu' ≤ cu + 8 → su' ≤ su + 100 → Inv (c + 1) w' → WP l G mZ 40 mc ms Q 1264 [some (.inr (.inr (some (901, 0)))), some (.inr (.inr (some (0, 0)))), some (.inr (.inr (some (13, 0)))), some (.inl (nI i))] [] w' cu' su') : WP l G mZ 40 mc ms Q 1241 [some (.inr (.inr (some (901, 0)))), some (.inr (.inr (some (0, 0)))), some (.inr (.inr (some (13, 0)))), some (.inl (nI i))] [] w cu su := by
  have wC0 := ss_C0 (iv_S h)
  have wC13 : wC w 13 = 1 := (iv_M h).1.1
  have v1 : vp_in (nI i + 1) (gL G) := by rw [show nI i + 1 = nI (i + 1) from nI_add i 1]; exact vp_in_nI (by omega) (by omega)
  have c1 : (nI i + 1).toNatClampNeg = i + 1 := by rw [show nI i + 1 = nI (i + 1) from nI_add i 1]; exact nI_clamp (by omega)
  obtain ⟨n', hn', call⟩ := ca_status (l := l) (G := G) h (gS G (i + 1))
  refine wpn_ok (M := mZ) (C := cenZ) (X := (alk [])) (tb := tZ_34) (st := [1264]) eoZ XOk_nil kZ_34 60 _ _ _ _ _ _ ?_
  simp only [reduceCtorEq, fv0, fv1, fv2, fv3, bI_0, bI_1, bft, MSh_sI_eq, fsP_T, inL_0, inL_s, pad_0, pad_n, pad_s, wpn_s, wp1_s, lg_0, lg_s, lset_0, lset_s, kil_0, kil_s, st1_s, st2_s, isL_i, isL_l, isL_r, isL_n, spl_0, spl_s, cll_n, cll_s, catS_0, catS_s, jmp_s, alk_0, alk_s, otl_n, otl_s, List.nil_append, List.cons_append, List.contains_cons, List.contains_nil, Nat.reduceBEq, Bool.or_false, Bool.false_or, Bool.or_self, Bool.false_eq_true, Bool.true_or, Bool.or_true, if_true, if_false, ite_true, ite_false, ↓reduceIte, List.length_cons, List.length_nil, Nat.reduceAdd, Nat.reduceLT, Nat.reduceLeDiff, Nat.reduceEqDiff, Int.reduceAdd, Int.reduceLE, Int.toNat_natCast, Int.reduceToNat, Int.cast_ofNat_Int, true_and, and_true, false_and, and_false, true_implies, forall_const, eq_self, and_self, or_true, true_or, or_self, false_or, or_false, yI_sI, yR_sI, yC_sI, yN_sI, yI_sR, yR_sR, yC_sR, yN_sR, not_true_eq_false, not_false_eq_true, false_implies, implies_true, Nat.zero_add, Nat.add_zero, Nat.le_refl, Nat.reduceSub, Int.reduceSub, Int.reduceLT, Int.sub_zero, Int.sub_self, List.getElem?_toArray, List.getElem?_cons_zero, List.getElem?_cons_succ, Int.toNat_zero, Int.toNat_one, Int.lt_irrefl, pZ_34_1241, stp_aload_n, pZ_34_1242, pZ_34_1243, stp_iload_n, pZ_34_1244, stp_iconst, ic_1, pZ_34_1245, stp_iadd, pZ_34_1246, stp_iaload, pZ_34_1247, stp_invokevirtual, qmZ_156, cy_S_status, pZ_34_1250, pZ_34_1251, pZ_34_1252, pZ_34_1253, pZ_34_1254, pZ_34_1255, pZ_34_1256, qmZ_159, cy_M_status, pZ_34_1259, stp_if_icmp_eq, pZ_34_1262, ic_0, pZ_34_1263, stp_ireturn, wC0, wC13, v1, c1]
  refine ⟨n', 8, 100, by omega, h1, h2, call.up.mono fun rr w1 h' => ?_⟩
  obtain ⟨⟨v, rfl, ty, m', hm', sem⟩, hup⟩ := h'
  obtain ⟨y, rfl⟩ : ∃ y : Int32, v = .inl y := ty
  have wD13 : 0 < wC w1 13 := by have := hup 13; omega
  refine wpn_ok (M := mZ) (C := cenZ) (X := (alk [])) (tb := tZ_34) (st := [1264]) eoZ XOk_nil kZ_34 60 _ _ _ _ _ _ ?_
  simp only [reduceCtorEq, fv0, fv1, fv2, fv3, bI_0, bI_1, bft, MSh_sI_eq, fsP_T, inL_0, inL_s, pad_0, pad_n, pad_s, wpn_s, wp1_s, lg_0, lg_s, lset_0, lset_s, kil_0, kil_s, st1_s, st2_s, isL_i, isL_l, isL_r, isL_n, spl_0, spl_s, cll_n, cll_s, catS_0, catS_s, jmp_s, alk_0, alk_s, otl_n, otl_s, List.nil_append, List.cons_append, List.contains_cons, List.contains_nil, Nat.reduceBEq, Bool.or_false, Bool.false_or, Bool.or_self, Bool.false_eq_true, Bool.true_or, Bool.or_true, if_true, if_false, ite_true, ite_false, ↓reduceIte, List.length_cons, List.length_nil, Nat.reduceAdd, Nat.reduceLT, Nat.reduceLeDiff, Nat.reduceEqDiff, Int.reduceAdd, Int.reduceLE, Int.toNat_natCast, Int.reduceToNat, Int.cast_ofNat_Int, true_and, and_true, false_and, and_false, true_implies, forall_const, eq_self, and_self, or_true, true_or, or_self, false_or, or_false, yI_sI, yR_sI, yC_sI, yN_sI, yI_sR, yR_sR, yC_sR, yN_sR, not_true_eq_false, not_false_eq_true, false_implies, implies_true, Nat.zero_add, Nat.add_zero, Nat.le_refl, Nat.reduceSub, Int.reduceSub, Int.reduceLT, Int.sub_zero, Int.sub_self, List.getElem?_toArray, List.getElem?_cons_zero, List.getElem?_cons_succ, Int.toNat_zero, Int.toNat_one, Int.lt_irrefl, pZ_34_1241, stp_aload_n, pZ_34_1242, pZ_34_1243, stp_iload_n, pZ_34_1244, stp_iconst, ic_1, pZ_34_1245, stp_iadd, pZ_34_1246, stp_iaload, pZ_34_1247, stp_invokevirtual, qmZ_156, cy_S_status, pZ_34_1250, pZ_34_1251, pZ_34_1252, pZ_34_1253, pZ_34_1254, pZ_34_1255, pZ_34_1256, qmZ_159, cy_M_status, pZ_34_1259, stp_if_icmp_eq, pZ_34_1262, ic_0, pZ_34_1263, stp_ireturn, wD13, Option.toList_some, v1, c1]
  refine ⟨m', 0, 0, by omega, by omega, by omega, sem.mono fun rr w2 h' => ?_⟩
  obtain ⟨rfl, hI⟩ := h'
  refine wpn_ok (M := mZ) (C := cenZ) (X := (alk [])) (tb := tZ_34) (st := [1264]) eoZ XOk_nil kZ_34 60 _ _ _ _ _ _ ?_
  simp only [reduceCtorEq, fv0, fv1, fv2, fv3, bI_0, bI_1, bft, MSh_sI_eq, fsP_T, inL_0, inL_s, pad_0, pad_n, pad_s, wpn_s, wp1_s, lg_0, lg_s, lset_0, lset_s, kil_0, kil_s, st1_s, st2_s, isL_i, isL_l, isL_r, isL_n, spl_0, spl_s, cll_n, cll_s, catS_0, catS_s, jmp_s, alk_0, alk_s, otl_n, otl_s, List.nil_append, List.cons_append, List.contains_cons, List.contains_nil, Nat.reduceBEq, Bool.or_false, Bool.false_or, Bool.or_self, Bool.false_eq_true, Bool.true_or, Bool.or_true, if_true, if_false, ite_true, ite_false, ↓reduceIte, List.length_cons, List.length_nil, Nat.reduceAdd, Nat.reduceLT, Nat.reduceLeDiff, Nat.reduceEqDiff, Int.reduceAdd, Int.reduceLE, Int.toNat_natCast, Int.reduceToNat, Int.cast_ofNat_Int, true_and, and_true, false_and, and_false, true_implies, forall_const, eq_self, and_self, or_true, true_or, or_self, false_or, or_false, yI_sI, yR_sI, yC_sI, yN_sI, yI_sR, yR_sR, yC_sR, yN_sR, not_true_eq_false, not_false_eq_true, false_implies, implies_true, Nat.zero_add, Nat.add_zero, Nat.le_refl, Nat.reduceSub, Int.reduceSub, Int.reduceLT, Int.sub_zero, Int.sub_self, List.getElem?_toArray, List.getElem?_cons_zero, List.getElem?_cons_succ, Int.toNat_zero, Int.toNat_one, Int.lt_irrefl, pZ_34_1241, stp_aload_n, pZ_34_1242, pZ_34_1243, stp_iload_n, pZ_34_1244, stp_iconst, ic_1, pZ_34_1245, stp_iadd, pZ_34_1246, stp_iaload, pZ_34_1247, stp_invokevirtual, qmZ_156, cy_S_status, pZ_34_1250, pZ_34_1251, pZ_34_1252, pZ_34_1253, pZ_34_1254, pZ_34_1255, pZ_34_1256, qmZ_159, cy_M_status, pZ_34_1259, stp_if_icmp_eq, pZ_34_1262, ic_0, pZ_34_1263, stp_ireturn, Option.toList_some]
  exact ih _ _ _ (by omega) (by omega) hI
end
