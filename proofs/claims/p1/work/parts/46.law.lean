-- THE LAW: calls, one after the other
abbrev Xs (xs : Nat → Int32) : Nat → Int := fun j => (xs j).toInt
abbrev ush : Nat → Int := fun j => (fzi.getD 0 []).getD j 0
/-- the world when both objects are made -/
abbrev wI (L : Nat) (xs : Nat → Int32) : AW := wx 67 (frz L xs) (o_CM 68 :: (l_CM 68 ush ++ (o_RM 149 :: l_RM)))
/-- one call of the law goes well: both answer alike, and what is to be kept is kept -/
def CallOK (J : AW → Prop) (W : AW) (cm rm : Nat) (as : List AV) : Prop := Gm cm (vr 67 :: as) W (fun r W' => isobj (W'.2 148) 12 ∧ 192 ≤ W'.1 ∧ W'.2 0 = W.2 0 ∧ ∃ z, r = some (vi z) ∧ Gm rm (vr 148 :: as) W' (fun r' W'' => r' = some (vi z) ∧ J W''))
section LAW
variable {J : AW → Prop} {W : AW} {L i bc bs : Nat} {X : Nat → Int} {Q : AQ}
set_option maxRecDepth 10000 in
theorem lw_0 (h0 : W.2 0 = ea 0 L X) (hx : isobj (W.2 67) 11) (hW : 192 ≤ W.1) (hi : i + 6 ≤ L) (hL : L ≤ 3072) (hbc : 0 ≤ bc) (hbs : 0 ≤ bs) (hcall : CallOK J W 13 178 [vi (X (i + 1)), vi (X (i + 2)), vi (X (i + 3)), vi (X (i + 4))])
    (hnext : ∀ W'', J W'' → G 296 1266 [some (vr 0), some (vr 67), some (vr 148), some (vi (i : Int))] [] W'' (bc - 0) (bs - 0) Q) : G 296 184 [some (vr 0), some (vr 67), some (vr 148), some (vi (i : Int))] [] W bc bs Q := by
  have e1 : ((i : Int) + 1).toNat = i + 1 := by omega
  have e2 : ((i : Int) + 2).toNat = i + 2 := by omega
  have e3 : ((i : Int) + 3).toNat = i + 3 := by omega
  have e4 : ((i : Int) + 4).toNat = i + 4 := by omega
  have w0 : 0 < W.1 := by omega
  have w1 : 67 < W.1 := by omega
  have w2 : 148 < W.1 := by omega
  rw [i296_184]
  simp only [s_1, s_2, s_3, s_4, s_76, s_5, s_6, s_7, s_8, s_9, s_10, s_11, s_12, s_13, s_14, s_15, s_16, s_17, s_18, s_19, s_20, s_21, s_22, s_23, s_24, s_25, s_26, s_27, s_28, s_29, s_30, s_31, s_32, s_33, s_34, s_35, s_36, s_37, s_38, s_39, s_40l, s_40i, s_40r, s_41, s_43, t_44, t_45, t_46, t_47, s_48, s_49, s_50, s_51, s_52, s_53, s_54, s_55, s_56, s_57, s_58, s_59, s_60, s_61, s_62_0, s_62_1, s_62_2, s_66, s_67, s_68, s_69, s_70, s_71, s_72, s_73, sws_n, sws_c, lget, lset, fget, fset, nolg, nolong, avc, stw, cnd, isobj_eo, GCi, GCn, retk, List.length_cons, List.length_nil, ↓reduceIte, and_true, true_and, not_true_eq_false, not_false_eq_true, forall_const, Nat.reduceAdd, Nat.reduceLT, Nat.reduceLeDiff, Nat.lt_add_one, Nat.le_refl, Nat.zero_le, Nat.sub_zero, Int.reduceEq, Int.reduceNe, Int.reduceLT, Int.reduceLE, Int.reduceAdd, Int.reduceSub, Int.reduceMul, Int.reduceNeg, Int.reduceTDiv, Int.reduceTMod, ne_eq, reduceCtorEq, Nat.reduceEqDiff, Int.cast_ofNat_Int, true_or, or_true, false_or, or_false, lcq_0, lcq_2, lcq_3, lcq_4, lcq_5, mi_296, i296_184, i296_185, i296_186, i296_187, i296_188, i296_189, i296_190, i296_191, i296_192, i296_193, i296_194, i296_195, i296_196, i296_197, i296_198, i296_199, i296_200, i296_201, i296_202, i296_203, i296_204, i296_205, i296_208, i296_209, i296_210, i296_211, i296_212, i296_213, i296_214, i296_215, i296_216, i296_217, i296_218, i296_219, i296_220, i296_221, i296_222, i296_223, i296_224, i296_225, i296_226, i296_227, i296_228, i296_229, i296_232, i296_235, i296_236, k13, k178, h0, hx, w0, w1, hbc, hbs, in32, e1, e2, e3, e4]
  refine ⟨by omega, by omega, by omega, ?_⟩
  refine ⟨by omega, by omega, by omega, ?_⟩
  refine ⟨by omega, by omega, by omega, ?_⟩
  refine ⟨by omega, by omega, by omega, ?_⟩
  refine Gm_post hcall (fun r W' hr => ?_)
  obtain ⟨h1, h2, h3, z, rfl, hG⟩ := hr
  have h4 : W'.2 0 = ea 0 L X := h3.trans h0
  have v0 : 0 < W'.1 := by omega
  have v2 : 148 < W'.1 := by omega
  simp only [s_1, s_2, s_3, s_4, s_76, s_5, s_6, s_7, s_8, s_9, s_10, s_11, s_12, s_13, s_14, s_15, s_16, s_17, s_18, s_19, s_20, s_21, s_22, s_23, s_24, s_25, s_26, s_27, s_28, s_29, s_30, s_31, s_32, s_33, s_34, s_35, s_36, s_37, s_38, s_39, s_40l, s_40i, s_40r, s_41, s_43, t_44, t_45, t_46, t_47, s_48, s_49, s_50, s_51, s_52, s_53, s_54, s_55, s_56, s_57, s_58, s_59, s_60, s_61, s_62_0, s_62_1, s_62_2, s_66, s_67, s_68, s_69, s_70, s_71, s_72, s_73, sws_n, sws_c, lget, lset, fget, fset, nolg, nolong, avc, stw, cnd, isobj_eo, GCi, GCn, retk, List.length_cons, List.length_nil, ↓reduceIte, and_true, true_and, not_true_eq_false, not_false_eq_true, forall_const, Nat.reduceAdd, Nat.reduceLT, Nat.reduceLeDiff, Nat.lt_add_one, Nat.le_refl, Nat.zero_le, Nat.sub_zero, Int.reduceEq, Int.reduceNe, Int.reduceLT, Int.reduceLE, Int.reduceAdd, Int.reduceSub, Int.reduceMul, Int.reduceNeg, Int.reduceTDiv, Int.reduceTMod, ne_eq, reduceCtorEq, Nat.reduceEqDiff, Int.cast_ofNat_Int, true_or, or_true, false_or, or_false, lcq_0, lcq_2, lcq_3, lcq_4, lcq_5, mi_296, i296_184, i296_185, i296_186, i296_187, i296_188, i296_189, i296_190, i296_191, i296_192, i296_193, i296_194, i296_195, i296_196, i296_197, i296_198, i296_199, i296_200, i296_201, i296_202, i296_203, i296_204, i296_205, i296_208, i296_209, i296_210, i296_211, i296_212, i296_213, i296_214, i296_215, i296_216, i296_217, i296_218, i296_219, i296_220, i296_221, i296_222, i296_223, i296_224, i296_225, i296_226, i296_227, i296_228, i296_229, i296_232, i296_235, i296_236, k13, k178, h4, h1, v0, v2, in32, e1, e2, e3, e4]
  refine ⟨by omega, by omega, by omega, ?_⟩
  refine ⟨by omega, by omega, by omega, ?_⟩
  refine ⟨by omega, by omega, by omega, ?_⟩
  refine ⟨by omega, by omega, by omega, ?_⟩
  refine Gm_post hG (fun r' W'' hr => ?_)
  obtain ⟨rfl, hJ⟩ := hr
  simp only [s_1, s_2, s_3, s_4, s_76, s_5, s_6, s_7, s_8, s_9, s_10, s_11, s_12, s_13, s_14, s_15, s_16, s_17, s_18, s_19, s_20, s_21, s_22, s_23, s_24, s_25, s_26, s_27, s_28, s_29, s_30, s_31, s_32, s_33, s_34, s_35, s_36, s_37, s_38, s_39, s_40l, s_40i, s_40r, s_41, s_43, t_44, t_45, t_46, t_47, s_48, s_49, s_50, s_51, s_52, s_53, s_54, s_55, s_56, s_57, s_58, s_59, s_60, s_61, s_62_0, s_62_1, s_62_2, s_66, s_67, s_68, s_69, s_70, s_71, s_72, s_73, sws_n, sws_c, lget, lset, fget, fset, nolg, nolong, avc, stw, cnd, isobj_eo, GCi, GCn, retk, List.length_cons, List.length_nil, ↓reduceIte, and_true, true_and, not_true_eq_false, not_false_eq_true, forall_const, Nat.reduceAdd, Nat.reduceLT, Nat.reduceLeDiff, Nat.lt_add_one, Nat.le_refl, Nat.zero_le, Nat.sub_zero, Int.reduceEq, Int.reduceNe, Int.reduceLT, Int.reduceLE, Int.reduceAdd, Int.reduceSub, Int.reduceMul, Int.reduceNeg, Int.reduceTDiv, Int.reduceTMod, ne_eq, reduceCtorEq, Nat.reduceEqDiff, Int.cast_ofNat_Int, true_or, or_true, false_or, or_false, lcq_0, lcq_2, lcq_3, lcq_4, lcq_5, mi_296, i296_184, i296_185, i296_186, i296_187, i296_188, i296_189, i296_190, i296_191, i296_192, i296_193, i296_194, i296_195, i296_196, i296_197, i296_198, i296_199, i296_200, i296_201, i296_202, i296_203, i296_204, i296_205, i296_208, i296_209, i296_210, i296_211, i296_212, i296_213, i296_214, i296_215, i296_216, i296_217, i296_218, i296_219, i296_220, i296_221, i296_222, i296_223, i296_224, i296_225, i296_226, i296_227, i296_228, i296_229, i296_232, i296_235, i296_236, k13, k178]
  exact hnext W'' hJ
set_option maxRecDepth 10000 in
theorem lw_1 (h0 : W.2 0 = ea 0 L X) (hx : isobj (W.2 67) 11) (hW : 192 ≤ W.1) (hi : i + 6 ≤ L) (hL : L ≤ 3072) (hbc : 0 ≤ bc) (hbs : 0 ≤ bs) (hcall : CallOK J W 19 181 [vi (X (i + 1)), vi (X (i + 2)), vi (X (i + 3)), vi (X (i + 4))])
    (hnext : ∀ W'', J W'' → G 296 1266 [some (vr 0), some (vr 67), some (vr 148), some (vi (i : Int))] [] W'' (bc - 0) (bs - 0) Q) : G 296 237 [some (vr 0), some (vr 67), some (vr 148), some (vi (i : Int))] [] W bc bs Q := by
  have e1 : ((i : Int) + 1).toNat = i + 1 := by omega
  have e2 : ((i : Int) + 2).toNat = i + 2 := by omega
  have e3 : ((i : Int) + 3).toNat = i + 3 := by omega
  have e4 : ((i : Int) + 4).toNat = i + 4 := by omega
  have w0 : 0 < W.1 := by omega
  have w1 : 67 < W.1 := by omega
  have w2 : 148 < W.1 := by omega
  rw [i296_237]
  simp only [s_1, s_2, s_3, s_4, s_76, s_5, s_6, s_7, s_8, s_9, s_10, s_11, s_12, s_13, s_14, s_15, s_16, s_17, s_18, s_19, s_20, s_21, s_22, s_23, s_24, s_25, s_26, s_27, s_28, s_29, s_30, s_31, s_32, s_33, s_34, s_35, s_36, s_37, s_38, s_39, s_40l, s_40i, s_40r, s_41, s_43, t_44, t_45, t_46, t_47, s_48, s_49, s_50, s_51, s_52, s_53, s_54, s_55, s_56, s_57, s_58, s_59, s_60, s_61, s_62_0, s_62_1, s_62_2, s_66, s_67, s_68, s_69, s_70, s_71, s_72, s_73, sws_n, sws_c, lget, lset, fget, fset, nolg, nolong, avc, stw, cnd, isobj_eo, GCi, GCn, retk, List.length_cons, List.length_nil, ↓reduceIte, and_true, true_and, not_true_eq_false, not_false_eq_true, forall_const, Nat.reduceAdd, Nat.reduceLT, Nat.reduceLeDiff, Nat.lt_add_one, Nat.le_refl, Nat.zero_le, Nat.sub_zero, Int.reduceEq, Int.reduceNe, Int.reduceLT, Int.reduceLE, Int.reduceAdd, Int.reduceSub, Int.reduceMul, Int.reduceNeg, Int.reduceTDiv, Int.reduceTMod, ne_eq, reduceCtorEq, Nat.reduceEqDiff, Int.cast_ofNat_Int, true_or, or_true, false_or, or_false, lcq_0, lcq_2, lcq_3, lcq_4, lcq_5, mi_296, i296_237, i296_238, i296_239, i296_240, i296_241, i296_242, i296_243, i296_244, i296_245, i296_246, i296_247, i296_248, i296_249, i296_250, i296_251, i296_252, i296_253, i296_254, i296_255, i296_256, i296_257, i296_258, i296_261, i296_262, i296_263, i296_264, i296_265, i296_266, i296_267, i296_268, i296_269, i296_270, i296_271, i296_272, i296_273, i296_274, i296_275, i296_276, i296_277, i296_278, i296_279, i296_280, i296_281, i296_282, i296_285, i296_288, i296_289, k19, k181, h0, hx, w0, w1, hbc, hbs, in32, e1, e2, e3, e4]
  refine ⟨by omega, by omega, by omega, ?_⟩
  refine ⟨by omega, by omega, by omega, ?_⟩
  refine ⟨by omega, by omega, by omega, ?_⟩
  refine ⟨by omega, by omega, by omega, ?_⟩
  refine Gm_post hcall (fun r W' hr => ?_)
  obtain ⟨h1, h2, h3, z, rfl, hG⟩ := hr
  have h4 : W'.2 0 = ea 0 L X := h3.trans h0
  have v0 : 0 < W'.1 := by omega
  have v2 : 148 < W'.1 := by omega
  simp only [s_1, s_2, s_3, s_4, s_76, s_5, s_6, s_7, s_8, s_9, s_10, s_11, s_12, s_13, s_14, s_15, s_16, s_17, s_18, s_19, s_20, s_21, s_22, s_23, s_24, s_25, s_26, s_27, s_28, s_29, s_30, s_31, s_32, s_33, s_34, s_35, s_36, s_37, s_38, s_39, s_40l, s_40i, s_40r, s_41, s_43, t_44, t_45, t_46, t_47, s_48, s_49, s_50, s_51, s_52, s_53, s_54, s_55, s_56, s_57, s_58, s_59, s_60, s_61, s_62_0, s_62_1, s_62_2, s_66, s_67, s_68, s_69, s_70, s_71, s_72, s_73, sws_n, sws_c, lget, lset, fget, fset, nolg, nolong, avc, stw, cnd, isobj_eo, GCi, GCn, retk, List.length_cons, List.length_nil, ↓reduceIte, and_true, true_and, not_true_eq_false, not_false_eq_true, forall_const, Nat.reduceAdd, Nat.reduceLT, Nat.reduceLeDiff, Nat.lt_add_one, Nat.le_refl, Nat.zero_le, Nat.sub_zero, Int.reduceEq, Int.reduceNe, Int.reduceLT, Int.reduceLE, Int.reduceAdd, Int.reduceSub, Int.reduceMul, Int.reduceNeg, Int.reduceTDiv, Int.reduceTMod, ne_eq, reduceCtorEq, Nat.reduceEqDiff, Int.cast_ofNat_Int, true_or, or_true, false_or, or_false, lcq_0, lcq_2, lcq_3, lcq_4, lcq_5, mi_296, i296_237, i296_238, i296_239, i296_240, i296_241, i296_242, i296_243, i296_244, i296_245, i296_246, i296_247, i296_248, i296_249, i296_250, i296_251, i296_252, i296_253, i296_254, i296_255, i296_256, i296_257, i296_258, i296_261, i296_262, i296_263, i296_264, i296_265, i296_266, i296_267, i296_268, i296_269, i296_270, i296_271, i296_272, i296_273, i296_274, i296_275, i296_276, i296_277, i296_278, i296_279, i296_280, i296_281, i296_282, i296_285, i296_288, i296_289, k19, k181, h4, h1, v0, v2, in32, e1, e2, e3, e4]
  refine ⟨by omega, by omega, by omega, ?_⟩
  refine ⟨by omega, by omega, by omega, ?_⟩
  refine ⟨by omega, by omega, by omega, ?_⟩
  refine ⟨by omega, by omega, by omega, ?_⟩
  refine Gm_post hG (fun r' W'' hr => ?_)
  obtain ⟨rfl, hJ⟩ := hr
  simp only [s_1, s_2, s_3, s_4, s_76, s_5, s_6, s_7, s_8, s_9, s_10, s_11, s_12, s_13, s_14, s_15, s_16, s_17, s_18, s_19, s_20, s_21, s_22, s_23, s_24, s_25, s_26, s_27, s_28, s_29, s_30, s_31, s_32, s_33, s_34, s_35, s_36, s_37, s_38, s_39, s_40l, s_40i, s_40r, s_41, s_43, t_44, t_45, t_46, t_47, s_48, s_49, s_50, s_51, s_52, s_53, s_54, s_55, s_56, s_57, s_58, s_59, s_60, s_61, s_62_0, s_62_1, s_62_2, s_66, s_67, s_68, s_69, s_70, s_71, s_72, s_73, sws_n, sws_c, lget, lset, fget, fset, nolg, nolong, avc, stw, cnd, isobj_eo, GCi, GCn, retk, List.length_cons, List.length_nil, ↓reduceIte, and_true, true_and, not_true_eq_false, not_false_eq_true, forall_const, Nat.reduceAdd, Nat.reduceLT, Nat.reduceLeDiff, Nat.lt_add_one, Nat.le_refl, Nat.zero_le, Nat.sub_zero, Int.reduceEq, Int.reduceNe, Int.reduceLT, Int.reduceLE, Int.reduceAdd, Int.reduceSub, Int.reduceMul, Int.reduceNeg, Int.reduceTDiv, Int.reduceTMod, ne_eq, reduceCtorEq, Nat.reduceEqDiff, Int.cast_ofNat_Int, true_or, or_true, false_or, or_false, lcq_0, lcq_2, lcq_3, lcq_4, lcq_5, mi_296, i296_237, i296_238, i296_239, i296_240, i296_241, i296_242, i296_243, i296_244, i296_245, i296_246, i296_247, i296_248, i296_249, i296_250, i296_251, i296_252, i296_253, i296_254, i296_255, i296_256, i296_257, i296_258, i296_261, i296_262, i296_263, i296_264, i296_265, i296_266, i296_267, i296_268, i296_269, i296_270, i296_271, i296_272, i296_273, i296_274, i296_275, i296_276, i296_277, i296_278, i296_279, i296_280, i296_281, i296_282, i296_285, i296_288, i296_289, k19, k181]
  exact hnext W'' hJ
set_option maxRecDepth 10000 in
theorem lw_2 (h0 : W.2 0 = ea 0 L X) (hx : isobj (W.2 67) 11) (hW : 192 ≤ W.1) (hi : i + 6 ≤ L) (hL : L ≤ 3072) (hbc : 0 ≤ bc) (hbs : 0 ≤ bs) (hcall : CallOK J W 24 184 [vi (X (i + 1)), vi (X (i + 2)), vi (X (i + 3))])
    (hnext : ∀ W'', J W'' → G 296 1266 [some (vr 0), some (vr 67), some (vr 148), some (vi (i : Int))] [] W'' (bc - 0) (bs - 0) Q) : G 296 290 [some (vr 0), some (vr 67), some (vr 148), some (vi (i : Int))] [] W bc bs Q := by
  have e1 : ((i : Int) + 1).toNat = i + 1 := by omega
  have e2 : ((i : Int) + 2).toNat = i + 2 := by omega
  have e3 : ((i : Int) + 3).toNat = i + 3 := by omega
  have w0 : 0 < W.1 := by omega
  have w1 : 67 < W.1 := by omega
  have w2 : 148 < W.1 := by omega
  rw [i296_290]
  simp only [s_1, s_2, s_3, s_4, s_76, s_5, s_6, s_7, s_8, s_9, s_10, s_11, s_12, s_13, s_14, s_15, s_16, s_17, s_18, s_19, s_20, s_21, s_22, s_23, s_24, s_25, s_26, s_27, s_28, s_29, s_30, s_31, s_32, s_33, s_34, s_35, s_36, s_37, s_38, s_39, s_40l, s_40i, s_40r, s_41, s_43, t_44, t_45, t_46, t_47, s_48, s_49, s_50, s_51, s_52, s_53, s_54, s_55, s_56, s_57, s_58, s_59, s_60, s_61, s_62_0, s_62_1, s_62_2, s_66, s_67, s_68, s_69, s_70, s_71, s_72, s_73, sws_n, sws_c, lget, lset, fget, fset, nolg, nolong, avc, stw, cnd, isobj_eo, GCi, GCn, retk, List.length_cons, List.length_nil, ↓reduceIte, and_true, true_and, not_true_eq_false, not_false_eq_true, forall_const, Nat.reduceAdd, Nat.reduceLT, Nat.reduceLeDiff, Nat.lt_add_one, Nat.le_refl, Nat.zero_le, Nat.sub_zero, Int.reduceEq, Int.reduceNe, Int.reduceLT, Int.reduceLE, Int.reduceAdd, Int.reduceSub, Int.reduceMul, Int.reduceNeg, Int.reduceTDiv, Int.reduceTMod, ne_eq, reduceCtorEq, Nat.reduceEqDiff, Int.cast_ofNat_Int, true_or, or_true, false_or, or_false, lcq_0, lcq_2, lcq_3, lcq_4, lcq_5, mi_296, i296_290, i296_291, i296_292, i296_293, i296_294, i296_295, i296_296, i296_297, i296_298, i296_299, i296_300, i296_301, i296_302, i296_303, i296_304, i296_305, i296_306, i296_309, i296_310, i296_311, i296_312, i296_313, i296_314, i296_315, i296_316, i296_317, i296_318, i296_319, i296_320, i296_321, i296_322, i296_323, i296_324, i296_325, i296_328, i296_331, i296_332, k24, k184, h0, hx, w0, w1, hbc, hbs, in32, e1, e2, e3]
  refine ⟨by omega, by omega, by omega, ?_⟩
  refine ⟨by omega, by omega, by omega, ?_⟩
  refine ⟨by omega, by omega, by omega, ?_⟩
  refine Gm_post hcall (fun r W' hr => ?_)
  obtain ⟨h1, h2, h3, z, rfl, hG⟩ := hr
  have h4 : W'.2 0 = ea 0 L X := h3.trans h0
  have v0 : 0 < W'.1 := by omega
  have v2 : 148 < W'.1 := by omega
  simp only [s_1, s_2, s_3, s_4, s_76, s_5, s_6, s_7, s_8, s_9, s_10, s_11, s_12, s_13, s_14, s_15, s_16, s_17, s_18, s_19, s_20, s_21, s_22, s_23, s_24, s_25, s_26, s_27, s_28, s_29, s_30, s_31, s_32, s_33, s_34, s_35, s_36, s_37, s_38, s_39, s_40l, s_40i, s_40r, s_41, s_43, t_44, t_45, t_46, t_47, s_48, s_49, s_50, s_51, s_52, s_53, s_54, s_55, s_56, s_57, s_58, s_59, s_60, s_61, s_62_0, s_62_1, s_62_2, s_66, s_67, s_68, s_69, s_70, s_71, s_72, s_73, sws_n, sws_c, lget, lset, fget, fset, nolg, nolong, avc, stw, cnd, isobj_eo, GCi, GCn, retk, List.length_cons, List.length_nil, ↓reduceIte, and_true, true_and, not_true_eq_false, not_false_eq_true, forall_const, Nat.reduceAdd, Nat.reduceLT, Nat.reduceLeDiff, Nat.lt_add_one, Nat.le_refl, Nat.zero_le, Nat.sub_zero, Int.reduceEq, Int.reduceNe, Int.reduceLT, Int.reduceLE, Int.reduceAdd, Int.reduceSub, Int.reduceMul, Int.reduceNeg, Int.reduceTDiv, Int.reduceTMod, ne_eq, reduceCtorEq, Nat.reduceEqDiff, Int.cast_ofNat_Int, true_or, or_true, false_or, or_false, lcq_0, lcq_2, lcq_3, lcq_4, lcq_5, mi_296, i296_290, i296_291, i296_292, i296_293, i296_294, i296_295, i296_296, i296_297, i296_298, i296_299, i296_300, i296_301, i296_302, i296_303, i296_304, i296_305, i296_306, i296_309, i296_310, i296_311, i296_312, i296_313, i296_314, i296_315, i296_316, i296_317, i296_318, i296_319, i296_320, i296_321, i296_322, i296_323, i296_324, i296_325, i296_328, i296_331, i296_332, k24, k184, h4, h1, v0, v2, in32, e1, e2, e3]
  refine ⟨by omega, by omega, by omega, ?_⟩
  refine ⟨by omega, by omega, by omega, ?_⟩
  refine ⟨by omega, by omega, by omega, ?_⟩
  refine Gm_post hG (fun r' W'' hr => ?_)
  obtain ⟨rfl, hJ⟩ := hr
  simp only [s_1, s_2, s_3, s_4, s_76, s_5, s_6, s_7, s_8, s_9, s_10, s_11, s_12, s_13, s_14, s_15, s_16, s_17, s_18, s_19, s_20, s_21, s_22, s_23, s_24, s_25, s_26, s_27, s_28, s_29, s_30, s_31, s_32, s_33, s_34, s_35, s_36, s_37, s_38, s_39, s_40l, s_40i, s_40r, s_41, s_43, t_44, t_45, t_46, t_47, s_48, s_49, s_50, s_51, s_52, s_53, s_54, s_55, s_56, s_57, s_58, s_59, s_60, s_61, s_62_0, s_62_1, s_62_2, s_66, s_67, s_68, s_69, s_70, s_71, s_72, s_73, sws_n, sws_c, lget, lset, fget, fset, nolg, nolong, avc, stw, cnd, isobj_eo, GCi, GCn, retk, List.length_cons, List.length_nil, ↓reduceIte, and_true, true_and, not_true_eq_false, not_false_eq_true, forall_const, Nat.reduceAdd, Nat.reduceLT, Nat.reduceLeDiff, Nat.lt_add_one, Nat.le_refl, Nat.zero_le, Nat.sub_zero, Int.reduceEq, Int.reduceNe, Int.reduceLT, Int.reduceLE, Int.reduceAdd, Int.reduceSub, Int.reduceMul, Int.reduceNeg, Int.reduceTDiv, Int.reduceTMod, ne_eq, reduceCtorEq, Nat.reduceEqDiff, Int.cast_ofNat_Int, true_or, or_true, false_or, or_false, lcq_0, lcq_2, lcq_3, lcq_4, lcq_5, mi_296, i296_290, i296_291, i296_292, i296_293, i296_294, i296_295, i296_296, i296_297, i296_298, i296_299, i296_300, i296_301, i296_302, i296_303, i296_304, i296_305, i296_306, i296_309, i296_310, i296_311, i296_312, i296_313, i296_314, i296_315, i296_316, i296_317, i296_318, i296_319, i296_320, i296_321, i296_322, i296_323, i296_324, i296_325, i296_328, i296_331, i296_332, k24, k184]
  exact hnext W'' hJ
set_option maxRecDepth 10000 in
theorem lw_3 (h0 : W.2 0 = ea 0 L X) (hx : isobj (W.2 67) 11) (hW : 192 ≤ W.1) (hi : i + 6 ≤ L) (hL : L ≤ 3072) (hbc : 0 ≤ bc) (hbs : 0 ≤ bs) (hcall : CallOK J W 43 191 [vi (X (i + 1)), vi (X (i + 2))])
    (hnext : ∀ W'', J W'' → G 296 1266 [some (vr 0), some (vr 67), some (vr 148), some (vi (i : Int))] [] W'' (bc - 0) (bs - 0) Q) : G 296 333 [some (vr 0), some (vr 67), some (vr 148), some (vi (i : Int))] [] W bc bs Q := by
  have e1 : ((i : Int) + 1).toNat = i + 1 := by omega
  have e2 : ((i : Int) + 2).toNat = i + 2 := by omega
  have w0 : 0 < W.1 := by omega
  have w1 : 67 < W.1 := by omega
  have w2 : 148 < W.1 := by omega
  rw [i296_333]
  simp only [s_1, s_2, s_3, s_4, s_76, s_5, s_6, s_7, s_8, s_9, s_10, s_11, s_12, s_13, s_14, s_15, s_16, s_17, s_18, s_19, s_20, s_21, s_22, s_23, s_24, s_25, s_26, s_27, s_28, s_29, s_30, s_31, s_32, s_33, s_34, s_35, s_36, s_37, s_38, s_39, s_40l, s_40i, s_40r, s_41, s_43, t_44, t_45, t_46, t_47, s_48, s_49, s_50, s_51, s_52, s_53, s_54, s_55, s_56, s_57, s_58, s_59, s_60, s_61, s_62_0, s_62_1, s_62_2, s_66, s_67, s_68, s_69, s_70, s_71, s_72, s_73, sws_n, sws_c, lget, lset, fget, fset, nolg, nolong, avc, stw, cnd, isobj_eo, GCi, GCn, retk, List.length_cons, List.length_nil, ↓reduceIte, and_true, true_and, not_true_eq_false, not_false_eq_true, forall_const, Nat.reduceAdd, Nat.reduceLT, Nat.reduceLeDiff, Nat.lt_add_one, Nat.le_refl, Nat.zero_le, Nat.sub_zero, Int.reduceEq, Int.reduceNe, Int.reduceLT, Int.reduceLE, Int.reduceAdd, Int.reduceSub, Int.reduceMul, Int.reduceNeg, Int.reduceTDiv, Int.reduceTMod, ne_eq, reduceCtorEq, Nat.reduceEqDiff, Int.cast_ofNat_Int, true_or, or_true, false_or, or_false, lcq_0, lcq_2, lcq_3, lcq_4, lcq_5, mi_296, i296_333, i296_334, i296_335, i296_336, i296_337, i296_338, i296_339, i296_340, i296_341, i296_342, i296_343, i296_344, i296_347, i296_348, i296_349, i296_350, i296_351, i296_352, i296_353, i296_354, i296_355, i296_356, i296_357, i296_358, i296_361, i296_364, i296_365, k43, k191, h0, hx, w0, w1, hbc, hbs, in32, e1, e2]
  refine ⟨by omega, by omega, by omega, ?_⟩
  refine ⟨by omega, by omega, by omega, ?_⟩
  refine Gm_post hcall (fun r W' hr => ?_)
  obtain ⟨h1, h2, h3, z, rfl, hG⟩ := hr
  have h4 : W'.2 0 = ea 0 L X := h3.trans h0
  have v0 : 0 < W'.1 := by omega
  have v2 : 148 < W'.1 := by omega
  simp only [s_1, s_2, s_3, s_4, s_76, s_5, s_6, s_7, s_8, s_9, s_10, s_11, s_12, s_13, s_14, s_15, s_16, s_17, s_18, s_19, s_20, s_21, s_22, s_23, s_24, s_25, s_26, s_27, s_28, s_29, s_30, s_31, s_32, s_33, s_34, s_35, s_36, s_37, s_38, s_39, s_40l, s_40i, s_40r, s_41, s_43, t_44, t_45, t_46, t_47, s_48, s_49, s_50, s_51, s_52, s_53, s_54, s_55, s_56, s_57, s_58, s_59, s_60, s_61, s_62_0, s_62_1, s_62_2, s_66, s_67, s_68, s_69, s_70, s_71, s_72, s_73, sws_n, sws_c, lget, lset, fget, fset, nolg, nolong, avc, stw, cnd, isobj_eo, GCi, GCn, retk, List.length_cons, List.length_nil, ↓reduceIte, and_true, true_and, not_true_eq_false, not_false_eq_true, forall_const, Nat.reduceAdd, Nat.reduceLT, Nat.reduceLeDiff, Nat.lt_add_one, Nat.le_refl, Nat.zero_le, Nat.sub_zero, Int.reduceEq, Int.reduceNe, Int.reduceLT, Int.reduceLE, Int.reduceAdd, Int.reduceSub, Int.reduceMul, Int.reduceNeg, Int.reduceTDiv, Int.reduceTMod, ne_eq, reduceCtorEq, Nat.reduceEqDiff, Int.cast_ofNat_Int, true_or, or_true, false_or, or_false, lcq_0, lcq_2, lcq_3, lcq_4, lcq_5, mi_296, i296_333, i296_334, i296_335, i296_336, i296_337, i296_338, i296_339, i296_340, i296_341, i296_342, i296_343, i296_344, i296_347, i296_348, i296_349, i296_350, i296_351, i296_352, i296_353, i296_354, i296_355, i296_356, i296_357, i296_358, i296_361, i296_364, i296_365, k43, k191, h4, h1, v0, v2, in32, e1, e2]
  refine ⟨by omega, by omega, by omega, ?_⟩
  refine ⟨by omega, by omega, by omega, ?_⟩
  refine Gm_post hG (fun r' W'' hr => ?_)
  obtain ⟨rfl, hJ⟩ := hr
  simp only [s_1, s_2, s_3, s_4, s_76, s_5, s_6, s_7, s_8, s_9, s_10, s_11, s_12, s_13, s_14, s_15, s_16, s_17, s_18, s_19, s_20, s_21, s_22, s_23, s_24, s_25, s_26, s_27, s_28, s_29, s_30, s_31, s_32, s_33, s_34, s_35, s_36, s_37, s_38, s_39, s_40l, s_40i, s_40r, s_41, s_43, t_44, t_45, t_46, t_47, s_48, s_49, s_50, s_51, s_52, s_53, s_54, s_55, s_56, s_57, s_58, s_59, s_60, s_61, s_62_0, s_62_1, s_62_2, s_66, s_67, s_68, s_69, s_70, s_71, s_72, s_73, sws_n, sws_c, lget, lset, fget, fset, nolg, nolong, avc, stw, cnd, isobj_eo, GCi, GCn, retk, List.length_cons, List.length_nil, ↓reduceIte, and_true, true_and, not_true_eq_false, not_false_eq_true, forall_const, Nat.reduceAdd, Nat.reduceLT, Nat.reduceLeDiff, Nat.lt_add_one, Nat.le_refl, Nat.zero_le, Nat.sub_zero, Int.reduceEq, Int.reduceNe, Int.reduceLT, Int.reduceLE, Int.reduceAdd, Int.reduceSub, Int.reduceMul, Int.reduceNeg, Int.reduceTDiv, Int.reduceTMod, ne_eq, reduceCtorEq, Nat.reduceEqDiff, Int.cast_ofNat_Int, true_or, or_true, false_or, or_false, lcq_0, lcq_2, lcq_3, lcq_4, lcq_5, mi_296, i296_333, i296_334, i296_335, i296_336, i296_337, i296_338, i296_339, i296_340, i296_341, i296_342, i296_343, i296_344, i296_347, i296_348, i296_349, i296_350, i296_351, i296_352, i296_353, i296_354, i296_355, i296_356, i296_357, i296_358, i296_361, i296_364, i296_365, k43, k191]
  exact hnext W'' hJ
set_option maxRecDepth 10000 in
theorem lw_4 (h0 : W.2 0 = ea 0 L X) (hx : isobj (W.2 67) 11) (hW : 192 ≤ W.1) (hi : i + 6 ≤ L) (hL : L ≤ 3072) (hbc : 0 ≤ bc) (hbs : 0 ≤ bs) (hcall : CallOK J W 45 224 [vi (X (i + 1)), vi (X (i + 2)), vi (X (i + 3))])
    (hnext : ∀ W'', J W'' → G 296 1266 [some (vr 0), some (vr 67), some (vr 148), some (vi (i : Int))] [] W'' (bc - 0) (bs - 0) Q) : G 296 366 [some (vr 0), some (vr 67), some (vr 148), some (vi (i : Int))] [] W bc bs Q := by
  have e1 : ((i : Int) + 1).toNat = i + 1 := by omega
  have e2 : ((i : Int) + 2).toNat = i + 2 := by omega
  have e3 : ((i : Int) + 3).toNat = i + 3 := by omega
  have w0 : 0 < W.1 := by omega
  have w1 : 67 < W.1 := by omega
  have w2 : 148 < W.1 := by omega
  rw [i296_366]
  simp only [s_1, s_2, s_3, s_4, s_76, s_5, s_6, s_7, s_8, s_9, s_10, s_11, s_12, s_13, s_14, s_15, s_16, s_17, s_18, s_19, s_20, s_21, s_22, s_23, s_24, s_25, s_26, s_27, s_28, s_29, s_30, s_31, s_32, s_33, s_34, s_35, s_36, s_37, s_38, s_39, s_40l, s_40i, s_40r, s_41, s_43, t_44, t_45, t_46, t_47, s_48, s_49, s_50, s_51, s_52, s_53, s_54, s_55, s_56, s_57, s_58, s_59, s_60, s_61, s_62_0, s_62_1, s_62_2, s_66, s_67, s_68, s_69, s_70, s_71, s_72, s_73, sws_n, sws_c, lget, lset, fget, fset, nolg, nolong, avc, stw, cnd, isobj_eo, GCi, GCn, retk, List.length_cons, List.length_nil, ↓reduceIte, and_true, true_and, not_true_eq_false, not_false_eq_true, forall_const, Nat.reduceAdd, Nat.reduceLT, Nat.reduceLeDiff, Nat.lt_add_one, Nat.le_refl, Nat.zero_le, Nat.sub_zero, Int.reduceEq, Int.reduceNe, Int.reduceLT, Int.reduceLE, Int.reduceAdd, Int.reduceSub, Int.reduceMul, Int.reduceNeg, Int.reduceTDiv, Int.reduceTMod, ne_eq, reduceCtorEq, Nat.reduceEqDiff, Int.cast_ofNat_Int, true_or, or_true, false_or, or_false, lcq_0, lcq_2, lcq_3, lcq_4, lcq_5, mi_296, i296_366, i296_367, i296_368, i296_369, i296_370, i296_371, i296_372, i296_373, i296_374, i296_375, i296_376, i296_377, i296_378, i296_379, i296_380, i296_381, i296_382, i296_385, i296_386, i296_387, i296_388, i296_389, i296_390, i296_391, i296_392, i296_393, i296_394, i296_395, i296_396, i296_397, i296_398, i296_399, i296_400, i296_401, i296_404, i296_407, i296_408, k45, k224, h0, hx, w0, w1, hbc, hbs, in32, e1, e2, e3]
  refine ⟨by omega, by omega, by omega, ?_⟩
  refine ⟨by omega, by omega, by omega, ?_⟩
  refine ⟨by omega, by omega, by omega, ?_⟩
  refine Gm_post hcall (fun r W' hr => ?_)
  obtain ⟨h1, h2, h3, z, rfl, hG⟩ := hr
  have h4 : W'.2 0 = ea 0 L X := h3.trans h0
  have v0 : 0 < W'.1 := by omega
  have v2 : 148 < W'.1 := by omega
  simp only [s_1, s_2, s_3, s_4, s_76, s_5, s_6, s_7, s_8, s_9, s_10, s_11, s_12, s_13, s_14, s_15, s_16, s_17, s_18, s_19, s_20, s_21, s_22, s_23, s_24, s_25, s_26, s_27, s_28, s_29, s_30, s_31, s_32, s_33, s_34, s_35, s_36, s_37, s_38, s_39, s_40l, s_40i, s_40r, s_41, s_43, t_44, t_45, t_46, t_47, s_48, s_49, s_50, s_51, s_52, s_53, s_54, s_55, s_56, s_57, s_58, s_59, s_60, s_61, s_62_0, s_62_1, s_62_2, s_66, s_67, s_68, s_69, s_70, s_71, s_72, s_73, sws_n, sws_c, lget, lset, fget, fset, nolg, nolong, avc, stw, cnd, isobj_eo, GCi, GCn, retk, List.length_cons, List.length_nil, ↓reduceIte, and_true, true_and, not_true_eq_false, not_false_eq_true, forall_const, Nat.reduceAdd, Nat.reduceLT, Nat.reduceLeDiff, Nat.lt_add_one, Nat.le_refl, Nat.zero_le, Nat.sub_zero, Int.reduceEq, Int.reduceNe, Int.reduceLT, Int.reduceLE, Int.reduceAdd, Int.reduceSub, Int.reduceMul, Int.reduceNeg, Int.reduceTDiv, Int.reduceTMod, ne_eq, reduceCtorEq, Nat.reduceEqDiff, Int.cast_ofNat_Int, true_or, or_true, false_or, or_false, lcq_0, lcq_2, lcq_3, lcq_4, lcq_5, mi_296, i296_366, i296_367, i296_368, i296_369, i296_370, i296_371, i296_372, i296_373, i296_374, i296_375, i296_376, i296_377, i296_378, i296_379, i296_380, i296_381, i296_382, i296_385, i296_386, i296_387, i296_388, i296_389, i296_390, i296_391, i296_392, i296_393, i296_394, i296_395, i296_396, i296_397, i296_398, i296_399, i296_400, i296_401, i296_404, i296_407, i296_408, k45, k224, h4, h1, v0, v2, in32, e1, e2, e3]
  refine ⟨by omega, by omega, by omega, ?_⟩
  refine ⟨by omega, by omega, by omega, ?_⟩
  refine ⟨by omega, by omega, by omega, ?_⟩
  refine Gm_post hG (fun r' W'' hr => ?_)
  obtain ⟨rfl, hJ⟩ := hr
  simp only [s_1, s_2, s_3, s_4, s_76, s_5, s_6, s_7, s_8, s_9, s_10, s_11, s_12, s_13, s_14, s_15, s_16, s_17, s_18, s_19, s_20, s_21, s_22, s_23, s_24, s_25, s_26, s_27, s_28, s_29, s_30, s_31, s_32, s_33, s_34, s_35, s_36, s_37, s_38, s_39, s_40l, s_40i, s_40r, s_41, s_43, t_44, t_45, t_46, t_47, s_48, s_49, s_50, s_51, s_52, s_53, s_54, s_55, s_56, s_57, s_58, s_59, s_60, s_61, s_62_0, s_62_1, s_62_2, s_66, s_67, s_68, s_69, s_70, s_71, s_72, s_73, sws_n, sws_c, lget, lset, fget, fset, nolg, nolong, avc, stw, cnd, isobj_eo, GCi, GCn, retk, List.length_cons, List.length_nil, ↓reduceIte, and_true, true_and, not_true_eq_false, not_false_eq_true, forall_const, Nat.reduceAdd, Nat.reduceLT, Nat.reduceLeDiff, Nat.lt_add_one, Nat.le_refl, Nat.zero_le, Nat.sub_zero, Int.reduceEq, Int.reduceNe, Int.reduceLT, Int.reduceLE, Int.reduceAdd, Int.reduceSub, Int.reduceMul, Int.reduceNeg, Int.reduceTDiv, Int.reduceTMod, ne_eq, reduceCtorEq, Nat.reduceEqDiff, Int.cast_ofNat_Int, true_or, or_true, false_or, or_false, lcq_0, lcq_2, lcq_3, lcq_4, lcq_5, mi_296, i296_366, i296_367, i296_368, i296_369, i296_370, i296_371, i296_372, i296_373, i296_374, i296_375, i296_376, i296_377, i296_378, i296_379, i296_380, i296_381, i296_382, i296_385, i296_386, i296_387, i296_388, i296_389, i296_390, i296_391, i296_392, i296_393, i296_394, i296_395, i296_396, i296_397, i296_398, i296_399, i296_400, i296_401, i296_404, i296_407, i296_408, k45, k224]
  exact hnext W'' hJ
set_option maxRecDepth 10000 in
theorem lw_5 (h0 : W.2 0 = ea 0 L X) (hx : isobj (W.2 67) 11) (hW : 192 ≤ W.1) (hi : i + 6 ≤ L) (hL : L ≤ 3072) (hbc : 0 ≤ bc) (hbs : 0 ≤ bs) (hcall : CallOK J W 58 193 [vi (X (i + 1)), vi (X (i + 2)), vi (X (i + 3)), vi (X (i + 4)), vi (X (i + 5))])
    (hnext : ∀ W'', J W'' → G 296 1266 [some (vr 0), some (vr 67), some (vr 148), some (vi (i : Int))] [] W'' (bc - 0) (bs - 0) Q) : G 296 409 [some (vr 0), some (vr 67), some (vr 148), some (vi (i : Int))] [] W bc bs Q := by
  have e1 : ((i : Int) + 1).toNat = i + 1 := by omega
  have e2 : ((i : Int) + 2).toNat = i + 2 := by omega
  have e3 : ((i : Int) + 3).toNat = i + 3 := by omega
  have e4 : ((i : Int) + 4).toNat = i + 4 := by omega
  have e5 : ((i : Int) + 5).toNat = i + 5 := by omega
  have w0 : 0 < W.1 := by omega
  have w1 : 67 < W.1 := by omega
  have w2 : 148 < W.1 := by omega
  rw [i296_409]
  simp only [s_1, s_2, s_3, s_4, s_76, s_5, s_6, s_7, s_8, s_9, s_10, s_11, s_12, s_13, s_14, s_15, s_16, s_17, s_18, s_19, s_20, s_21, s_22, s_23, s_24, s_25, s_26, s_27, s_28, s_29, s_30, s_31, s_32, s_33, s_34, s_35, s_36, s_37, s_38, s_39, s_40l, s_40i, s_40r, s_41, s_43, t_44, t_45, t_46, t_47, s_48, s_49, s_50, s_51, s_52, s_53, s_54, s_55, s_56, s_57, s_58, s_59, s_60, s_61, s_62_0, s_62_1, s_62_2, s_66, s_67, s_68, s_69, s_70, s_71, s_72, s_73, sws_n, sws_c, lget, lset, fget, fset, nolg, nolong, avc, stw, cnd, isobj_eo, GCi, GCn, retk, List.length_cons, List.length_nil, ↓reduceIte, and_true, true_and, not_true_eq_false, not_false_eq_true, forall_const, Nat.reduceAdd, Nat.reduceLT, Nat.reduceLeDiff, Nat.lt_add_one, Nat.le_refl, Nat.zero_le, Nat.sub_zero, Int.reduceEq, Int.reduceNe, Int.reduceLT, Int.reduceLE, Int.reduceAdd, Int.reduceSub, Int.reduceMul, Int.reduceNeg, Int.reduceTDiv, Int.reduceTMod, ne_eq, reduceCtorEq, Nat.reduceEqDiff, Int.cast_ofNat_Int, true_or, or_true, false_or, or_false, lcq_0, lcq_2, lcq_3, lcq_4, lcq_5, mi_296, i296_409, i296_410, i296_411, i296_412, i296_413, i296_414, i296_415, i296_416, i296_417, i296_418, i296_419, i296_420, i296_421, i296_422, i296_423, i296_424, i296_425, i296_426, i296_427, i296_428, i296_429, i296_430, i296_431, i296_432, i296_433, i296_434, i296_435, i296_438, i296_439, i296_440, i296_441, i296_442, i296_443, i296_444, i296_445, i296_446, i296_447, i296_448, i296_449, i296_450, i296_451, i296_452, i296_453, i296_454, i296_455, i296_456, i296_457, i296_458, i296_459, i296_460, i296_461, i296_462, i296_463, i296_464, i296_467, i296_470, i296_471, k58, k193, h0, hx, w0, w1, hbc, hbs, in32, e1, e2, e3, e4, e5]
  refine ⟨by omega, by omega, by omega, ?_⟩
  refine ⟨by omega, by omega, by omega, ?_⟩
  refine ⟨by omega, by omega, by omega, ?_⟩
  refine ⟨by omega, by omega, by omega, ?_⟩
  refine ⟨by omega, by omega, by omega, ?_⟩
  refine Gm_post hcall (fun r W' hr => ?_)
  obtain ⟨h1, h2, h3, z, rfl, hG⟩ := hr
  have h4 : W'.2 0 = ea 0 L X := h3.trans h0
  have v0 : 0 < W'.1 := by omega
  have v2 : 148 < W'.1 := by omega
  simp only [s_1, s_2, s_3, s_4, s_76, s_5, s_6, s_7, s_8, s_9, s_10, s_11, s_12, s_13, s_14, s_15, s_16, s_17, s_18, s_19, s_20, s_21, s_22, s_23, s_24, s_25, s_26, s_27, s_28, s_29, s_30, s_31, s_32, s_33, s_34, s_35, s_36, s_37, s_38, s_39, s_40l, s_40i, s_40r, s_41, s_43, t_44, t_45, t_46, t_47, s_48, s_49, s_50, s_51, s_52, s_53, s_54, s_55, s_56, s_57, s_58, s_59, s_60, s_61, s_62_0, s_62_1, s_62_2, s_66, s_67, s_68, s_69, s_70, s_71, s_72, s_73, sws_n, sws_c, lget, lset, fget, fset, nolg, nolong, avc, stw, cnd, isobj_eo, GCi, GCn, retk, List.length_cons, List.length_nil, ↓reduceIte, and_true, true_and, not_true_eq_false, not_false_eq_true, forall_const, Nat.reduceAdd, Nat.reduceLT, Nat.reduceLeDiff, Nat.lt_add_one, Nat.le_refl, Nat.zero_le, Nat.sub_zero, Int.reduceEq, Int.reduceNe, Int.reduceLT, Int.reduceLE, Int.reduceAdd, Int.reduceSub, Int.reduceMul, Int.reduceNeg, Int.reduceTDiv, Int.reduceTMod, ne_eq, reduceCtorEq, Nat.reduceEqDiff, Int.cast_ofNat_Int, true_or, or_true, false_or, or_false, lcq_0, lcq_2, lcq_3, lcq_4, lcq_5, mi_296, i296_409, i296_410, i296_411, i296_412, i296_413, i296_414, i296_415, i296_416, i296_417, i296_418, i296_419, i296_420, i296_421, i296_422, i296_423, i296_424, i296_425, i296_426, i296_427, i296_428, i296_429, i296_430, i296_431, i296_432, i296_433, i296_434, i296_435, i296_438, i296_439, i296_440, i296_441, i296_442, i296_443, i296_444, i296_445, i296_446, i296_447, i296_448, i296_449, i296_450, i296_451, i296_452, i296_453, i296_454, i296_455, i296_456, i296_457, i296_458, i296_459, i296_460, i296_461, i296_462, i296_463, i296_464, i296_467, i296_470, i296_471, k58, k193, h4, h1, v0, v2, in32, e1, e2, e3, e4, e5]
  refine ⟨by omega, by omega, by omega, ?_⟩
  refine ⟨by omega, by omega, by omega, ?_⟩
  refine ⟨by omega, by omega, by omega, ?_⟩
  refine ⟨by omega, by omega, by omega, ?_⟩
  refine ⟨by omega, by omega, by omega, ?_⟩
  refine Gm_post hG (fun r' W'' hr => ?_)
  obtain ⟨rfl, hJ⟩ := hr
  simp only [s_1, s_2, s_3, s_4, s_76, s_5, s_6, s_7, s_8, s_9, s_10, s_11, s_12, s_13, s_14, s_15, s_16, s_17, s_18, s_19, s_20, s_21, s_22, s_23, s_24, s_25, s_26, s_27, s_28, s_29, s_30, s_31, s_32, s_33, s_34, s_35, s_36, s_37, s_38, s_39, s_40l, s_40i, s_40r, s_41, s_43, t_44, t_45, t_46, t_47, s_48, s_49, s_50, s_51, s_52, s_53, s_54, s_55, s_56, s_57, s_58, s_59, s_60, s_61, s_62_0, s_62_1, s_62_2, s_66, s_67, s_68, s_69, s_70, s_71, s_72, s_73, sws_n, sws_c, lget, lset, fget, fset, nolg, nolong, avc, stw, cnd, isobj_eo, GCi, GCn, retk, List.length_cons, List.length_nil, ↓reduceIte, and_true, true_and, not_true_eq_false, not_false_eq_true, forall_const, Nat.reduceAdd, Nat.reduceLT, Nat.reduceLeDiff, Nat.lt_add_one, Nat.le_refl, Nat.zero_le, Nat.sub_zero, Int.reduceEq, Int.reduceNe, Int.reduceLT, Int.reduceLE, Int.reduceAdd, Int.reduceSub, Int.reduceMul, Int.reduceNeg, Int.reduceTDiv, Int.reduceTMod, ne_eq, reduceCtorEq, Nat.reduceEqDiff, Int.cast_ofNat_Int, true_or, or_true, false_or, or_false, lcq_0, lcq_2, lcq_3, lcq_4, lcq_5, mi_296, i296_409, i296_410, i296_411, i296_412, i296_413, i296_414, i296_415, i296_416, i296_417, i296_418, i296_419, i296_420, i296_421, i296_422, i296_423, i296_424, i296_425, i296_426, i296_427, i296_428, i296_429, i296_430, i296_431, i296_432, i296_433, i296_434, i296_435, i296_438, i296_439, i296_440, i296_441, i296_442, i296_443, i296_444, i296_445, i296_446, i296_447, i296_448, i296_449, i296_450, i296_451, i296_452, i296_453, i296_454, i296_455, i296_456, i296_457, i296_458, i296_459, i296_460, i296_461, i296_462, i296_463, i296_464, i296_467, i296_470, i296_471, k58, k193]
  exact hnext W'' hJ
set_option maxRecDepth 10000 in
theorem lw_6 (h0 : W.2 0 = ea 0 L X) (hx : isobj (W.2 67) 11) (hW : 192 ≤ W.1) (hi : i + 6 ≤ L) (hL : L ≤ 3072) (hbc : 0 ≤ bc) (hbs : 0 ≤ bs) (hcall : CallOK J W 60 195 [vi (X (i + 1))])
    (hnext : ∀ W'', J W'' → G 296 1266 [some (vr 0), some (vr 67), some (vr 148), some (vi (i : Int))] [] W'' (bc - 0) (bs - 0) Q) : G 296 472 [some (vr 0), some (vr 67), some (vr 148), some (vi (i : Int))] [] W bc bs Q := by
  have e1 : ((i : Int) + 1).toNat = i + 1 := by omega
  have w0 : 0 < W.1 := by omega
  have w1 : 67 < W.1 := by omega
  have w2 : 148 < W.1 := by omega
  rw [i296_472]
  simp only [s_1, s_2, s_3, s_4, s_76, s_5, s_6, s_7, s_8, s_9, s_10, s_11, s_12, s_13, s_14, s_15, s_16, s_17, s_18, s_19, s_20, s_21, s_22, s_23, s_24, s_25, s_26, s_27, s_28, s_29, s_30, s_31, s_32, s_33, s_34, s_35, s_36, s_37, s_38, s_39, s_40l, s_40i, s_40r, s_41, s_43, t_44, t_45, t_46, t_47, s_48, s_49, s_50, s_51, s_52, s_53, s_54, s_55, s_56, s_57, s_58, s_59, s_60, s_61, s_62_0, s_62_1, s_62_2, s_66, s_67, s_68, s_69, s_70, s_71, s_72, s_73, sws_n, sws_c, lget, lset, fget, fset, nolg, nolong, avc, stw, cnd, isobj_eo, GCi, GCn, retk, List.length_cons, List.length_nil, ↓reduceIte, and_true, true_and, not_true_eq_false, not_false_eq_true, forall_const, Nat.reduceAdd, Nat.reduceLT, Nat.reduceLeDiff, Nat.lt_add_one, Nat.le_refl, Nat.zero_le, Nat.sub_zero, Int.reduceEq, Int.reduceNe, Int.reduceLT, Int.reduceLE, Int.reduceAdd, Int.reduceSub, Int.reduceMul, Int.reduceNeg, Int.reduceTDiv, Int.reduceTMod, ne_eq, reduceCtorEq, Nat.reduceEqDiff, Int.cast_ofNat_Int, true_or, or_true, false_or, or_false, lcq_0, lcq_2, lcq_3, lcq_4, lcq_5, mi_296, i296_472, i296_473, i296_474, i296_475, i296_476, i296_477, i296_478, i296_481, i296_482, i296_483, i296_484, i296_485, i296_486, i296_487, i296_490, i296_493, i296_494, k60, k195, h0, hx, w0, w1, hbc, hbs, in32, e1]
  refine ⟨by omega, by omega, by omega, ?_⟩
  refine Gm_post hcall (fun r W' hr => ?_)
  obtain ⟨h1, h2, h3, z, rfl, hG⟩ := hr
  have h4 : W'.2 0 = ea 0 L X := h3.trans h0
  have v0 : 0 < W'.1 := by omega
  have v2 : 148 < W'.1 := by omega
  simp only [s_1, s_2, s_3, s_4, s_76, s_5, s_6, s_7, s_8, s_9, s_10, s_11, s_12, s_13, s_14, s_15, s_16, s_17, s_18, s_19, s_20, s_21, s_22, s_23, s_24, s_25, s_26, s_27, s_28, s_29, s_30, s_31, s_32, s_33, s_34, s_35, s_36, s_37, s_38, s_39, s_40l, s_40i, s_40r, s_41, s_43, t_44, t_45, t_46, t_47, s_48, s_49, s_50, s_51, s_52, s_53, s_54, s_55, s_56, s_57, s_58, s_59, s_60, s_61, s_62_0, s_62_1, s_62_2, s_66, s_67, s_68, s_69, s_70, s_71, s_72, s_73, sws_n, sws_c, lget, lset, fget, fset, nolg, nolong, avc, stw, cnd, isobj_eo, GCi, GCn, retk, List.length_cons, List.length_nil, ↓reduceIte, and_true, true_and, not_true_eq_false, not_false_eq_true, forall_const, Nat.reduceAdd, Nat.reduceLT, Nat.reduceLeDiff, Nat.lt_add_one, Nat.le_refl, Nat.zero_le, Nat.sub_zero, Int.reduceEq, Int.reduceNe, Int.reduceLT, Int.reduceLE, Int.reduceAdd, Int.reduceSub, Int.reduceMul, Int.reduceNeg, Int.reduceTDiv, Int.reduceTMod, ne_eq, reduceCtorEq, Nat.reduceEqDiff, Int.cast_ofNat_Int, true_or, or_true, false_or, or_false, lcq_0, lcq_2, lcq_3, lcq_4, lcq_5, mi_296, i296_472, i296_473, i296_474, i296_475, i296_476, i296_477, i296_478, i296_481, i296_482, i296_483, i296_484, i296_485, i296_486, i296_487, i296_490, i296_493, i296_494, k60, k195, h4, h1, v0, v2, in32, e1]
  refine ⟨by omega, by omega, by omega, ?_⟩
  refine Gm_post hG (fun r' W'' hr => ?_)
  obtain ⟨rfl, hJ⟩ := hr
  simp only [s_1, s_2, s_3, s_4, s_76, s_5, s_6, s_7, s_8, s_9, s_10, s_11, s_12, s_13, s_14, s_15, s_16, s_17, s_18, s_19, s_20, s_21, s_22, s_23, s_24, s_25, s_26, s_27, s_28, s_29, s_30, s_31, s_32, s_33, s_34, s_35, s_36, s_37, s_38, s_39, s_40l, s_40i, s_40r, s_41, s_43, t_44, t_45, t_46, t_47, s_48, s_49, s_50, s_51, s_52, s_53, s_54, s_55, s_56, s_57, s_58, s_59, s_60, s_61, s_62_0, s_62_1, s_62_2, s_66, s_67, s_68, s_69, s_70, s_71, s_72, s_73, sws_n, sws_c, lget, lset, fget, fset, nolg, nolong, avc, stw, cnd, isobj_eo, GCi, GCn, retk, List.length_cons, List.length_nil, ↓reduceIte, and_true, true_and, not_true_eq_false, not_false_eq_true, forall_const, Nat.reduceAdd, Nat.reduceLT, Nat.reduceLeDiff, Nat.lt_add_one, Nat.le_refl, Nat.zero_le, Nat.sub_zero, Int.reduceEq, Int.reduceNe, Int.reduceLT, Int.reduceLE, Int.reduceAdd, Int.reduceSub, Int.reduceMul, Int.reduceNeg, Int.reduceTDiv, Int.reduceTMod, ne_eq, reduceCtorEq, Nat.reduceEqDiff, Int.cast_ofNat_Int, true_or, or_true, false_or, or_false, lcq_0, lcq_2, lcq_3, lcq_4, lcq_5, mi_296, i296_472, i296_473, i296_474, i296_475, i296_476, i296_477, i296_478, i296_481, i296_482, i296_483, i296_484, i296_485, i296_486, i296_487, i296_490, i296_493, i296_494, k60, k195]
  exact hnext W'' hJ
set_option maxRecDepth 10000 in
theorem lw_7 (h0 : W.2 0 = ea 0 L X) (hx : isobj (W.2 67) 11) (hW : 192 ≤ W.1) (hi : i + 6 ≤ L) (hL : L ≤ 3072) (hbc : 10 ≤ bc) (hbs : 1635 ≤ bs) (hcall : CallOK J W 61 196 [])
    (hnext : ∀ W'', J W'' → G 296 1266 [some (vr 0), some (vr 67), some (vr 148), some (vi (i : Int))] [] W'' (bc - 10) (bs - 1635) Q) : G 296 495 [some (vr 0), some (vr 67), some (vr 148), some (vi (i : Int))] [] W bc bs Q := by
  have w0 : 0 < W.1 := by omega
  have w1 : 67 < W.1 := by omega
  have w2 : 148 < W.1 := by omega
  rw [i296_495]
  simp only [s_1, s_2, s_3, s_4, s_76, s_5, s_6, s_7, s_8, s_9, s_10, s_11, s_12, s_13, s_14, s_15, s_16, s_17, s_18, s_19, s_20, s_21, s_22, s_23, s_24, s_25, s_26, s_27, s_28, s_29, s_30, s_31, s_32, s_33, s_34, s_35, s_36, s_37, s_38, s_39, s_40l, s_40i, s_40r, s_41, s_43, t_44, t_45, t_46, t_47, s_48, s_49, s_50, s_51, s_52, s_53, s_54, s_55, s_56, s_57, s_58, s_59, s_60, s_61, s_62_0, s_62_1, s_62_2, s_66, s_67, s_68, s_69, s_70, s_71, s_72, s_73, sws_n, sws_c, lget, lset, fget, fset, nolg, nolong, avc, stw, cnd, isobj_eo, GCi, GCn, retk, List.length_cons, List.length_nil, ↓reduceIte, and_true, true_and, not_true_eq_false, not_false_eq_true, forall_const, Nat.reduceAdd, Nat.reduceLT, Nat.reduceLeDiff, Nat.lt_add_one, Nat.le_refl, Nat.zero_le, Nat.sub_zero, Int.reduceEq, Int.reduceNe, Int.reduceLT, Int.reduceLE, Int.reduceAdd, Int.reduceSub, Int.reduceMul, Int.reduceNeg, Int.reduceTDiv, Int.reduceTMod, ne_eq, reduceCtorEq, Nat.reduceEqDiff, Int.cast_ofNat_Int, true_or, or_true, false_or, or_false, lcq_0, lcq_2, lcq_3, lcq_4, lcq_5, mi_296, i296_495, i296_496, i296_499, i296_500, i296_503, i296_506, i296_507, k61, k196, h0, hx, w0, w1, hbc, hbs, in32]
  refine Gm_post hcall (fun r W' hr => ?_)
  obtain ⟨h1, h2, h3, z, rfl, hG⟩ := hr
  have h4 : W'.2 0 = ea 0 L X := h3.trans h0
  have v0 : 0 < W'.1 := by omega
  have v2 : 148 < W'.1 := by omega
  simp only [s_1, s_2, s_3, s_4, s_76, s_5, s_6, s_7, s_8, s_9, s_10, s_11, s_12, s_13, s_14, s_15, s_16, s_17, s_18, s_19, s_20, s_21, s_22, s_23, s_24, s_25, s_26, s_27, s_28, s_29, s_30, s_31, s_32, s_33, s_34, s_35, s_36, s_37, s_38, s_39, s_40l, s_40i, s_40r, s_41, s_43, t_44, t_45, t_46, t_47, s_48, s_49, s_50, s_51, s_52, s_53, s_54, s_55, s_56, s_57, s_58, s_59, s_60, s_61, s_62_0, s_62_1, s_62_2, s_66, s_67, s_68, s_69, s_70, s_71, s_72, s_73, sws_n, sws_c, lget, lset, fget, fset, nolg, nolong, avc, stw, cnd, isobj_eo, GCi, GCn, retk, List.length_cons, List.length_nil, ↓reduceIte, and_true, true_and, not_true_eq_false, not_false_eq_true, forall_const, Nat.reduceAdd, Nat.reduceLT, Nat.reduceLeDiff, Nat.lt_add_one, Nat.le_refl, Nat.zero_le, Nat.sub_zero, Int.reduceEq, Int.reduceNe, Int.reduceLT, Int.reduceLE, Int.reduceAdd, Int.reduceSub, Int.reduceMul, Int.reduceNeg, Int.reduceTDiv, Int.reduceTMod, ne_eq, reduceCtorEq, Nat.reduceEqDiff, Int.cast_ofNat_Int, true_or, or_true, false_or, or_false, lcq_0, lcq_2, lcq_3, lcq_4, lcq_5, mi_296, i296_495, i296_496, i296_499, i296_500, i296_503, i296_506, i296_507, k61, k196, h4, h1, v0, v2, in32]
  refine Gm_post hG (fun r' W'' hr => ?_)
  obtain ⟨rfl, hJ⟩ := hr
  simp only [s_1, s_2, s_3, s_4, s_76, s_5, s_6, s_7, s_8, s_9, s_10, s_11, s_12, s_13, s_14, s_15, s_16, s_17, s_18, s_19, s_20, s_21, s_22, s_23, s_24, s_25, s_26, s_27, s_28, s_29, s_30, s_31, s_32, s_33, s_34, s_35, s_36, s_37, s_38, s_39, s_40l, s_40i, s_40r, s_41, s_43, t_44, t_45, t_46, t_47, s_48, s_49, s_50, s_51, s_52, s_53, s_54, s_55, s_56, s_57, s_58, s_59, s_60, s_61, s_62_0, s_62_1, s_62_2, s_66, s_67, s_68, s_69, s_70, s_71, s_72, s_73, sws_n, sws_c, lget, lset, fget, fset, nolg, nolong, avc, stw, cnd, isobj_eo, GCi, GCn, retk, List.length_cons, List.length_nil, ↓reduceIte, and_true, true_and, not_true_eq_false, not_false_eq_true, forall_const, Nat.reduceAdd, Nat.reduceLT, Nat.reduceLeDiff, Nat.lt_add_one, Nat.le_refl, Nat.zero_le, Nat.sub_zero, Int.reduceEq, Int.reduceNe, Int.reduceLT, Int.reduceLE, Int.reduceAdd, Int.reduceSub, Int.reduceMul, Int.reduceNeg, Int.reduceTDiv, Int.reduceTMod, ne_eq, reduceCtorEq, Nat.reduceEqDiff, Int.cast_ofNat_Int, true_or, or_true, false_or, or_false, lcq_0, lcq_2, lcq_3, lcq_4, lcq_5, mi_296, i296_495, i296_496, i296_499, i296_500, i296_503, i296_506, i296_507, k61, k196]
  exact hnext W'' hJ
set_option maxRecDepth 10000 in
theorem lw_8 (h0 : W.2 0 = ea 0 L X) (hx : isobj (W.2 67) 11) (hW : 192 ≤ W.1) (hi : i + 6 ≤ L) (hL : L ≤ 3072) (hbc : 10 ≤ bc) (hbs : 1635 ≤ bs) (hcall : CallOK J W 102 223 [])
    (hnext : ∀ W'', J W'' → G 296 1266 [some (vr 0), some (vr 67), some (vr 148), some (vi (i : Int))] [] W'' (bc - 10) (bs - 1635) Q) : G 296 508 [some (vr 0), some (vr 67), some (vr 148), some (vi (i : Int))] [] W bc bs Q := by
  have w0 : 0 < W.1 := by omega
  have w1 : 67 < W.1 := by omega
  have w2 : 148 < W.1 := by omega
  rw [i296_508]
  simp only [s_1, s_2, s_3, s_4, s_76, s_5, s_6, s_7, s_8, s_9, s_10, s_11, s_12, s_13, s_14, s_15, s_16, s_17, s_18, s_19, s_20, s_21, s_22, s_23, s_24, s_25, s_26, s_27, s_28, s_29, s_30, s_31, s_32, s_33, s_34, s_35, s_36, s_37, s_38, s_39, s_40l, s_40i, s_40r, s_41, s_43, t_44, t_45, t_46, t_47, s_48, s_49, s_50, s_51, s_52, s_53, s_54, s_55, s_56, s_57, s_58, s_59, s_60, s_61, s_62_0, s_62_1, s_62_2, s_66, s_67, s_68, s_69, s_70, s_71, s_72, s_73, sws_n, sws_c, lget, lset, fget, fset, nolg, nolong, avc, stw, cnd, isobj_eo, GCi, GCn, retk, List.length_cons, List.length_nil, ↓reduceIte, and_true, true_and, not_true_eq_false, not_false_eq_true, forall_const, Nat.reduceAdd, Nat.reduceLT, Nat.reduceLeDiff, Nat.lt_add_one, Nat.le_refl, Nat.zero_le, Nat.sub_zero, Int.reduceEq, Int.reduceNe, Int.reduceLT, Int.reduceLE, Int.reduceAdd, Int.reduceSub, Int.reduceMul, Int.reduceNeg, Int.reduceTDiv, Int.reduceTMod, ne_eq, reduceCtorEq, Nat.reduceEqDiff, Int.cast_ofNat_Int, true_or, or_true, false_or, or_false, lcq_0, lcq_2, lcq_3, lcq_4, lcq_5, mi_296, i296_508, i296_509, i296_512, i296_513, i296_516, i296_519, i296_520, k102, k223, h0, hx, w0, w1, hbc, hbs, in32]
  refine Gm_post hcall (fun r W' hr => ?_)
  obtain ⟨h1, h2, h3, z, rfl, hG⟩ := hr
  have h4 : W'.2 0 = ea 0 L X := h3.trans h0
  have v0 : 0 < W'.1 := by omega
  have v2 : 148 < W'.1 := by omega
  simp only [s_1, s_2, s_3, s_4, s_76, s_5, s_6, s_7, s_8, s_9, s_10, s_11, s_12, s_13, s_14, s_15, s_16, s_17, s_18, s_19, s_20, s_21, s_22, s_23, s_24, s_25, s_26, s_27, s_28, s_29, s_30, s_31, s_32, s_33, s_34, s_35, s_36, s_37, s_38, s_39, s_40l, s_40i, s_40r, s_41, s_43, t_44, t_45, t_46, t_47, s_48, s_49, s_50, s_51, s_52, s_53, s_54, s_55, s_56, s_57, s_58, s_59, s_60, s_61, s_62_0, s_62_1, s_62_2, s_66, s_67, s_68, s_69, s_70, s_71, s_72, s_73, sws_n, sws_c, lget, lset, fget, fset, nolg, nolong, avc, stw, cnd, isobj_eo, GCi, GCn, retk, List.length_cons, List.length_nil, ↓reduceIte, and_true, true_and, not_true_eq_false, not_false_eq_true, forall_const, Nat.reduceAdd, Nat.reduceLT, Nat.reduceLeDiff, Nat.lt_add_one, Nat.le_refl, Nat.zero_le, Nat.sub_zero, Int.reduceEq, Int.reduceNe, Int.reduceLT, Int.reduceLE, Int.reduceAdd, Int.reduceSub, Int.reduceMul, Int.reduceNeg, Int.reduceTDiv, Int.reduceTMod, ne_eq, reduceCtorEq, Nat.reduceEqDiff, Int.cast_ofNat_Int, true_or, or_true, false_or, or_false, lcq_0, lcq_2, lcq_3, lcq_4, lcq_5, mi_296, i296_508, i296_509, i296_512, i296_513, i296_516, i296_519, i296_520, k102, k223, h4, h1, v0, v2, in32]
  refine Gm_post hG (fun r' W'' hr => ?_)
  obtain ⟨rfl, hJ⟩ := hr
  simp only [s_1, s_2, s_3, s_4, s_76, s_5, s_6, s_7, s_8, s_9, s_10, s_11, s_12, s_13, s_14, s_15, s_16, s_17, s_18, s_19, s_20, s_21, s_22, s_23, s_24, s_25, s_26, s_27, s_28, s_29, s_30, s_31, s_32, s_33, s_34, s_35, s_36, s_37, s_38, s_39, s_40l, s_40i, s_40r, s_41, s_43, t_44, t_45, t_46, t_47, s_48, s_49, s_50, s_51, s_52, s_53, s_54, s_55, s_56, s_57, s_58, s_59, s_60, s_61, s_62_0, s_62_1, s_62_2, s_66, s_67, s_68, s_69, s_70, s_71, s_72, s_73, sws_n, sws_c, lget, lset, fget, fset, nolg, nolong, avc, stw, cnd, isobj_eo, GCi, GCn, retk, List.length_cons, List.length_nil, ↓reduceIte, and_true, true_and, not_true_eq_false, not_false_eq_true, forall_const, Nat.reduceAdd, Nat.reduceLT, Nat.reduceLeDiff, Nat.lt_add_one, Nat.le_refl, Nat.zero_le, Nat.sub_zero, Int.reduceEq, Int.reduceNe, Int.reduceLT, Int.reduceLE, Int.reduceAdd, Int.reduceSub, Int.reduceMul, Int.reduceNeg, Int.reduceTDiv, Int.reduceTMod, ne_eq, reduceCtorEq, Nat.reduceEqDiff, Int.cast_ofNat_Int, true_or, or_true, false_or, or_false, lcq_0, lcq_2, lcq_3, lcq_4, lcq_5, mi_296, i296_508, i296_509, i296_512, i296_513, i296_516, i296_519, i296_520, k102, k223]
  exact hnext W'' hJ
set_option maxRecDepth 10000 in
theorem lw_9 (h0 : W.2 0 = ea 0 L X) (hx : isobj (W.2 67) 11) (hW : 192 ≤ W.1) (hi : i + 6 ≤ L) (hL : L ≤ 3072) (hbc : 0 ≤ bc) (hbs : 0 ≤ bs) (hcall : CallOK J W 103 236 [vi (X (i + 1)), vi (X (i + 2))])
    (hnext : ∀ W'', J W'' → G 296 1266 [some (vr 0), some (vr 67), some (vr 148), some (vi (i : Int))] [] W'' (bc - 0) (bs - 0) Q) : G 296 521 [some (vr 0), some (vr 67), some (vr 148), some (vi (i : Int))] [] W bc bs Q := by
  have e1 : ((i : Int) + 1).toNat = i + 1 := by omega
  have e2 : ((i : Int) + 2).toNat = i + 2 := by omega
  have w0 : 0 < W.1 := by omega
  have w1 : 67 < W.1 := by omega
  have w2 : 148 < W.1 := by omega
  rw [i296_521]
  simp only [s_1, s_2, s_3, s_4, s_76, s_5, s_6, s_7, s_8, s_9, s_10, s_11, s_12, s_13, s_14, s_15, s_16, s_17, s_18, s_19, s_20, s_21, s_22, s_23, s_24, s_25, s_26, s_27, s_28, s_29, s_30, s_31, s_32, s_33, s_34, s_35, s_36, s_37, s_38, s_39, s_40l, s_40i, s_40r, s_41, s_43, t_44, t_45, t_46, t_47, s_48, s_49, s_50, s_51, s_52, s_53, s_54, s_55, s_56, s_57, s_58, s_59, s_60, s_61, s_62_0, s_62_1, s_62_2, s_66, s_67, s_68, s_69, s_70, s_71, s_72, s_73, sws_n, sws_c, lget, lset, fget, fset, nolg, nolong, avc, stw, cnd, isobj_eo, GCi, GCn, retk, List.length_cons, List.length_nil, ↓reduceIte, and_true, true_and, not_true_eq_false, not_false_eq_true, forall_const, Nat.reduceAdd, Nat.reduceLT, Nat.reduceLeDiff, Nat.lt_add_one, Nat.le_refl, Nat.zero_le, Nat.sub_zero, Int.reduceEq, Int.reduceNe, Int.reduceLT, Int.reduceLE, Int.reduceAdd, Int.reduceSub, Int.reduceMul, Int.reduceNeg, Int.reduceTDiv, Int.reduceTMod, ne_eq, reduceCtorEq, Nat.reduceEqDiff, Int.cast_ofNat_Int, true_or, or_true, false_or, or_false, lcq_0, lcq_2, lcq_3, lcq_4, lcq_5, mi_296, i296_521, i296_522, i296_523, i296_524, i296_525, i296_526, i296_527, i296_528, i296_529, i296_530, i296_531, i296_532, i296_535, i296_536, i296_537, i296_538, i296_539, i296_540, i296_541, i296_542, i296_543, i296_544, i296_545, i296_546, i296_549, i296_552, i296_553, k103, k236, h0, hx, w0, w1, hbc, hbs, in32, e1, e2]
  refine ⟨by omega, by omega, by omega, ?_⟩
  refine ⟨by omega, by omega, by omega, ?_⟩
  refine Gm_post hcall (fun r W' hr => ?_)
  obtain ⟨h1, h2, h3, z, rfl, hG⟩ := hr
  have h4 : W'.2 0 = ea 0 L X := h3.trans h0
  have v0 : 0 < W'.1 := by omega
  have v2 : 148 < W'.1 := by omega
  simp only [s_1, s_2, s_3, s_4, s_76, s_5, s_6, s_7, s_8, s_9, s_10, s_11, s_12, s_13, s_14, s_15, s_16, s_17, s_18, s_19, s_20, s_21, s_22, s_23, s_24, s_25, s_26, s_27, s_28, s_29, s_30, s_31, s_32, s_33, s_34, s_35, s_36, s_37, s_38, s_39, s_40l, s_40i, s_40r, s_41, s_43, t_44, t_45, t_46, t_47, s_48, s_49, s_50, s_51, s_52, s_53, s_54, s_55, s_56, s_57, s_58, s_59, s_60, s_61, s_62_0, s_62_1, s_62_2, s_66, s_67, s_68, s_69, s_70, s_71, s_72, s_73, sws_n, sws_c, lget, lset, fget, fset, nolg, nolong, avc, stw, cnd, isobj_eo, GCi, GCn, retk, List.length_cons, List.length_nil, ↓reduceIte, and_true, true_and, not_true_eq_false, not_false_eq_true, forall_const, Nat.reduceAdd, Nat.reduceLT, Nat.reduceLeDiff, Nat.lt_add_one, Nat.le_refl, Nat.zero_le, Nat.sub_zero, Int.reduceEq, Int.reduceNe, Int.reduceLT, Int.reduceLE, Int.reduceAdd, Int.reduceSub, Int.reduceMul, Int.reduceNeg, Int.reduceTDiv, Int.reduceTMod, ne_eq, reduceCtorEq, Nat.reduceEqDiff, Int.cast_ofNat_Int, true_or, or_true, false_or, or_false, lcq_0, lcq_2, lcq_3, lcq_4, lcq_5, mi_296, i296_521, i296_522, i296_523, i296_524, i296_525, i296_526, i296_527, i296_528, i296_529, i296_530, i296_531, i296_532, i296_535, i296_536, i296_537, i296_538, i296_539, i296_540, i296_541, i296_542, i296_543, i296_544, i296_545, i296_546, i296_549, i296_552, i296_553, k103, k236, h4, h1, v0, v2, in32, e1, e2]
  refine ⟨by omega, by omega, by omega, ?_⟩
  refine ⟨by omega, by omega, by omega, ?_⟩
  refine Gm_post hG (fun r' W'' hr => ?_)
  obtain ⟨rfl, hJ⟩ := hr
  simp only [s_1, s_2, s_3, s_4, s_76, s_5, s_6, s_7, s_8, s_9, s_10, s_11, s_12, s_13, s_14, s_15, s_16, s_17, s_18, s_19, s_20, s_21, s_22, s_23, s_24, s_25, s_26, s_27, s_28, s_29, s_30, s_31, s_32, s_33, s_34, s_35, s_36, s_37, s_38, s_39, s_40l, s_40i, s_40r, s_41, s_43, t_44, t_45, t_46, t_47, s_48, s_49, s_50, s_51, s_52, s_53, s_54, s_55, s_56, s_57, s_58, s_59, s_60, s_61, s_62_0, s_62_1, s_62_2, s_66, s_67, s_68, s_69, s_70, s_71, s_72, s_73, sws_n, sws_c, lget, lset, fget, fset, nolg, nolong, avc, stw, cnd, isobj_eo, GCi, GCn, retk, List.length_cons, List.length_nil, ↓reduceIte, and_true, true_and, not_true_eq_false, not_false_eq_true, forall_const, Nat.reduceAdd, Nat.reduceLT, Nat.reduceLeDiff, Nat.lt_add_one, Nat.le_refl, Nat.zero_le, Nat.sub_zero, Int.reduceEq, Int.reduceNe, Int.reduceLT, Int.reduceLE, Int.reduceAdd, Int.reduceSub, Int.reduceMul, Int.reduceNeg, Int.reduceTDiv, Int.reduceTMod, ne_eq, reduceCtorEq, Nat.reduceEqDiff, Int.cast_ofNat_Int, true_or, or_true, false_or, or_false, lcq_0, lcq_2, lcq_3, lcq_4, lcq_5, mi_296, i296_521, i296_522, i296_523, i296_524, i296_525, i296_526, i296_527, i296_528, i296_529, i296_530, i296_531, i296_532, i296_535, i296_536, i296_537, i296_538, i296_539, i296_540, i296_541, i296_542, i296_543, i296_544, i296_545, i296_546, i296_549, i296_552, i296_553, k103, k236]
  exact hnext W'' hJ
set_option maxRecDepth 10000 in
theorem lw_10 (h0 : W.2 0 = ea 0 L X) (hx : isobj (W.2 67) 11) (hW : 192 ≤ W.1) (hi : i + 6 ≤ L) (hL : L ≤ 3072) (hbc : 0 ≤ bc) (hbs : 0 ≤ bs) (hcall : CallOK J W 119 250 [vi (X (i + 1)), vi (X (i + 2))])
    (hnext : ∀ W'', J W'' → G 296 1266 [some (vr 0), some (vr 67), some (vr 148), some (vi (i : Int))] [] W'' (bc - 0) (bs - 0) Q) : G 296 554 [some (vr 0), some (vr 67), some (vr 148), some (vi (i : Int))] [] W bc bs Q := by
  have e1 : ((i : Int) + 1).toNat = i + 1 := by omega
  have e2 : ((i : Int) + 2).toNat = i + 2 := by omega
  have w0 : 0 < W.1 := by omega
  have w1 : 67 < W.1 := by omega
  have w2 : 148 < W.1 := by omega
  rw [i296_554]
  simp only [s_1, s_2, s_3, s_4, s_76, s_5, s_6, s_7, s_8, s_9, s_10, s_11, s_12, s_13, s_14, s_15, s_16, s_17, s_18, s_19, s_20, s_21, s_22, s_23, s_24, s_25, s_26, s_27, s_28, s_29, s_30, s_31, s_32, s_33, s_34, s_35, s_36, s_37, s_38, s_39, s_40l, s_40i, s_40r, s_41, s_43, t_44, t_45, t_46, t_47, s_48, s_49, s_50, s_51, s_52, s_53, s_54, s_55, s_56, s_57, s_58, s_59, s_60, s_61, s_62_0, s_62_1, s_62_2, s_66, s_67, s_68, s_69, s_70, s_71, s_72, s_73, sws_n, sws_c, lget, lset, fget, fset, nolg, nolong, avc, stw, cnd, isobj_eo, GCi, GCn, retk, List.length_cons, List.length_nil, ↓reduceIte, and_true, true_and, not_true_eq_false, not_false_eq_true, forall_const, Nat.reduceAdd, Nat.reduceLT, Nat.reduceLeDiff, Nat.lt_add_one, Nat.le_refl, Nat.zero_le, Nat.sub_zero, Int.reduceEq, Int.reduceNe, Int.reduceLT, Int.reduceLE, Int.reduceAdd, Int.reduceSub, Int.reduceMul, Int.reduceNeg, Int.reduceTDiv, Int.reduceTMod, ne_eq, reduceCtorEq, Nat.reduceEqDiff, Int.cast_ofNat_Int, true_or, or_true, false_or, or_false, lcq_0, lcq_2, lcq_3, lcq_4, lcq_5, mi_296, i296_554, i296_555, i296_556, i296_557, i296_558, i296_559, i296_560, i296_561, i296_562, i296_563, i296_564, i296_565, i296_568, i296_569, i296_570, i296_571, i296_572, i296_573, i296_574, i296_575, i296_576, i296_577, i296_578, i296_579, i296_582, i296_585, i296_586, k119, k250, h0, hx, w0, w1, hbc, hbs, in32, e1, e2]
  refine ⟨by omega, by omega, by omega, ?_⟩
  refine ⟨by omega, by omega, by omega, ?_⟩
  refine Gm_post hcall (fun r W' hr => ?_)
  obtain ⟨h1, h2, h3, z, rfl, hG⟩ := hr
  have h4 : W'.2 0 = ea 0 L X := h3.trans h0
  have v0 : 0 < W'.1 := by omega
  have v2 : 148 < W'.1 := by omega
  simp only [s_1, s_2, s_3, s_4, s_76, s_5, s_6, s_7, s_8, s_9, s_10, s_11, s_12, s_13, s_14, s_15, s_16, s_17, s_18, s_19, s_20, s_21, s_22, s_23, s_24, s_25, s_26, s_27, s_28, s_29, s_30, s_31, s_32, s_33, s_34, s_35, s_36, s_37, s_38, s_39, s_40l, s_40i, s_40r, s_41, s_43, t_44, t_45, t_46, t_47, s_48, s_49, s_50, s_51, s_52, s_53, s_54, s_55, s_56, s_57, s_58, s_59, s_60, s_61, s_62_0, s_62_1, s_62_2, s_66, s_67, s_68, s_69, s_70, s_71, s_72, s_73, sws_n, sws_c, lget, lset, fget, fset, nolg, nolong, avc, stw, cnd, isobj_eo, GCi, GCn, retk, List.length_cons, List.length_nil, ↓reduceIte, and_true, true_and, not_true_eq_false, not_false_eq_true, forall_const, Nat.reduceAdd, Nat.reduceLT, Nat.reduceLeDiff, Nat.lt_add_one, Nat.le_refl, Nat.zero_le, Nat.sub_zero, Int.reduceEq, Int.reduceNe, Int.reduceLT, Int.reduceLE, Int.reduceAdd, Int.reduceSub, Int.reduceMul, Int.reduceNeg, Int.reduceTDiv, Int.reduceTMod, ne_eq, reduceCtorEq, Nat.reduceEqDiff, Int.cast_ofNat_Int, true_or, or_true, false_or, or_false, lcq_0, lcq_2, lcq_3, lcq_4, lcq_5, mi_296, i296_554, i296_555, i296_556, i296_557, i296_558, i296_559, i296_560, i296_561, i296_562, i296_563, i296_564, i296_565, i296_568, i296_569, i296_570, i296_571, i296_572, i296_573, i296_574, i296_575, i296_576, i296_577, i296_578, i296_579, i296_582, i296_585, i296_586, k119, k250, h4, h1, v0, v2, in32, e1, e2]
  refine ⟨by omega, by omega, by omega, ?_⟩
  refine ⟨by omega, by omega, by omega, ?_⟩
  refine Gm_post hG (fun r' W'' hr => ?_)
  obtain ⟨rfl, hJ⟩ := hr
  simp only [s_1, s_2, s_3, s_4, s_76, s_5, s_6, s_7, s_8, s_9, s_10, s_11, s_12, s_13, s_14, s_15, s_16, s_17, s_18, s_19, s_20, s_21, s_22, s_23, s_24, s_25, s_26, s_27, s_28, s_29, s_30, s_31, s_32, s_33, s_34, s_35, s_36, s_37, s_38, s_39, s_40l, s_40i, s_40r, s_41, s_43, t_44, t_45, t_46, t_47, s_48, s_49, s_50, s_51, s_52, s_53, s_54, s_55, s_56, s_57, s_58, s_59, s_60, s_61, s_62_0, s_62_1, s_62_2, s_66, s_67, s_68, s_69, s_70, s_71, s_72, s_73, sws_n, sws_c, lget, lset, fget, fset, nolg, nolong, avc, stw, cnd, isobj_eo, GCi, GCn, retk, List.length_cons, List.length_nil, ↓reduceIte, and_true, true_and, not_true_eq_false, not_false_eq_true, forall_const, Nat.reduceAdd, Nat.reduceLT, Nat.reduceLeDiff, Nat.lt_add_one, Nat.le_refl, Nat.zero_le, Nat.sub_zero, Int.reduceEq, Int.reduceNe, Int.reduceLT, Int.reduceLE, Int.reduceAdd, Int.reduceSub, Int.reduceMul, Int.reduceNeg, Int.reduceTDiv, Int.reduceTMod, ne_eq, reduceCtorEq, Nat.reduceEqDiff, Int.cast_ofNat_Int, true_or, or_true, false_or, or_false, lcq_0, lcq_2, lcq_3, lcq_4, lcq_5, mi_296, i296_554, i296_555, i296_556, i296_557, i296_558, i296_559, i296_560, i296_561, i296_562, i296_563, i296_564, i296_565, i296_568, i296_569, i296_570, i296_571, i296_572, i296_573, i296_574, i296_575, i296_576, i296_577, i296_578, i296_579, i296_582, i296_585, i296_586, k119, k250]
  exact hnext W'' hJ
set_option maxRecDepth 10000 in
theorem lw_11 (h0 : W.2 0 = ea 0 L X) (hx : isobj (W.2 67) 11) (hW : 192 ≤ W.1) (hi : i + 6 ≤ L) (hL : L ≤ 3072) (hbc : 0 ≤ bc) (hbs : 0 ≤ bs) (hcall : CallOK J W 124 253 [vi (X (i + 1)), vi (X (i + 2))])
    (hnext : ∀ W'', J W'' → G 296 1266 [some (vr 0), some (vr 67), some (vr 148), some (vi (i : Int))] [] W'' (bc - 0) (bs - 0) Q) : G 296 587 [some (vr 0), some (vr 67), some (vr 148), some (vi (i : Int))] [] W bc bs Q := by
  have e1 : ((i : Int) + 1).toNat = i + 1 := by omega
  have e2 : ((i : Int) + 2).toNat = i + 2 := by omega
  have w0 : 0 < W.1 := by omega
  have w1 : 67 < W.1 := by omega
  have w2 : 148 < W.1 := by omega
  rw [i296_587]
  simp only [s_1, s_2, s_3, s_4, s_76, s_5, s_6, s_7, s_8, s_9, s_10, s_11, s_12, s_13, s_14, s_15, s_16, s_17, s_18, s_19, s_20, s_21, s_22, s_23, s_24, s_25, s_26, s_27, s_28, s_29, s_30, s_31, s_32, s_33, s_34, s_35, s_36, s_37, s_38, s_39, s_40l, s_40i, s_40r, s_41, s_43, t_44, t_45, t_46, t_47, s_48, s_49, s_50, s_51, s_52, s_53, s_54, s_55, s_56, s_57, s_58, s_59, s_60, s_61, s_62_0, s_62_1, s_62_2, s_66, s_67, s_68, s_69, s_70, s_71, s_72, s_73, sws_n, sws_c, lget, lset, fget, fset, nolg, nolong, avc, stw, cnd, isobj_eo, GCi, GCn, retk, List.length_cons, List.length_nil, ↓reduceIte, and_true, true_and, not_true_eq_false, not_false_eq_true, forall_const, Nat.reduceAdd, Nat.reduceLT, Nat.reduceLeDiff, Nat.lt_add_one, Nat.le_refl, Nat.zero_le, Nat.sub_zero, Int.reduceEq, Int.reduceNe, Int.reduceLT, Int.reduceLE, Int.reduceAdd, Int.reduceSub, Int.reduceMul, Int.reduceNeg, Int.reduceTDiv, Int.reduceTMod, ne_eq, reduceCtorEq, Nat.reduceEqDiff, Int.cast_ofNat_Int, true_or, or_true, false_or, or_false, lcq_0, lcq_2, lcq_3, lcq_4, lcq_5, mi_296, i296_587, i296_588, i296_589, i296_590, i296_591, i296_592, i296_593, i296_594, i296_595, i296_596, i296_597, i296_598, i296_601, i296_602, i296_603, i296_604, i296_605, i296_606, i296_607, i296_608, i296_609, i296_610, i296_611, i296_612, i296_615, i296_618, i296_619, k124, k253, h0, hx, w0, w1, hbc, hbs, in32, e1, e2]
  refine ⟨by omega, by omega, by omega, ?_⟩
  refine ⟨by omega, by omega, by omega, ?_⟩
  refine Gm_post hcall (fun r W' hr => ?_)
  obtain ⟨h1, h2, h3, z, rfl, hG⟩ := hr
  have h4 : W'.2 0 = ea 0 L X := h3.trans h0
  have v0 : 0 < W'.1 := by omega
  have v2 : 148 < W'.1 := by omega
  simp only [s_1, s_2, s_3, s_4, s_76, s_5, s_6, s_7, s_8, s_9, s_10, s_11, s_12, s_13, s_14, s_15, s_16, s_17, s_18, s_19, s_20, s_21, s_22, s_23, s_24, s_25, s_26, s_27, s_28, s_29, s_30, s_31, s_32, s_33, s_34, s_35, s_36, s_37, s_38, s_39, s_40l, s_40i, s_40r, s_41, s_43, t_44, t_45, t_46, t_47, s_48, s_49, s_50, s_51, s_52, s_53, s_54, s_55, s_56, s_57, s_58, s_59, s_60, s_61, s_62_0, s_62_1, s_62_2, s_66, s_67, s_68, s_69, s_70, s_71, s_72, s_73, sws_n, sws_c, lget, lset, fget, fset, nolg, nolong, avc, stw, cnd, isobj_eo, GCi, GCn, retk, List.length_cons, List.length_nil, ↓reduceIte, and_true, true_and, not_true_eq_false, not_false_eq_true, forall_const, Nat.reduceAdd, Nat.reduceLT, Nat.reduceLeDiff, Nat.lt_add_one, Nat.le_refl, Nat.zero_le, Nat.sub_zero, Int.reduceEq, Int.reduceNe, Int.reduceLT, Int.reduceLE, Int.reduceAdd, Int.reduceSub, Int.reduceMul, Int.reduceNeg, Int.reduceTDiv, Int.reduceTMod, ne_eq, reduceCtorEq, Nat.reduceEqDiff, Int.cast_ofNat_Int, true_or, or_true, false_or, or_false, lcq_0, lcq_2, lcq_3, lcq_4, lcq_5, mi_296, i296_587, i296_588, i296_589, i296_590, i296_591, i296_592, i296_593, i296_594, i296_595, i296_596, i296_597, i296_598, i296_601, i296_602, i296_603, i296_604, i296_605, i296_606, i296_607, i296_608, i296_609, i296_610, i296_611, i296_612, i296_615, i296_618, i296_619, k124, k253, h4, h1, v0, v2, in32, e1, e2]
  refine ⟨by omega, by omega, by omega, ?_⟩
  refine ⟨by omega, by omega, by omega, ?_⟩
  refine Gm_post hG (fun r' W'' hr => ?_)
  obtain ⟨rfl, hJ⟩ := hr
  simp only [s_1, s_2, s_3, s_4, s_76, s_5, s_6, s_7, s_8, s_9, s_10, s_11, s_12, s_13, s_14, s_15, s_16, s_17, s_18, s_19, s_20, s_21, s_22, s_23, s_24, s_25, s_26, s_27, s_28, s_29, s_30, s_31, s_32, s_33, s_34, s_35, s_36, s_37, s_38, s_39, s_40l, s_40i, s_40r, s_41, s_43, t_44, t_45, t_46, t_47, s_48, s_49, s_50, s_51, s_52, s_53, s_54, s_55, s_56, s_57, s_58, s_59, s_60, s_61, s_62_0, s_62_1, s_62_2, s_66, s_67, s_68, s_69, s_70, s_71, s_72, s_73, sws_n, sws_c, lget, lset, fget, fset, nolg, nolong, avc, stw, cnd, isobj_eo, GCi, GCn, retk, List.length_cons, List.length_nil, ↓reduceIte, and_true, true_and, not_true_eq_false, not_false_eq_true, forall_const, Nat.reduceAdd, Nat.reduceLT, Nat.reduceLeDiff, Nat.lt_add_one, Nat.le_refl, Nat.zero_le, Nat.sub_zero, Int.reduceEq, Int.reduceNe, Int.reduceLT, Int.reduceLE, Int.reduceAdd, Int.reduceSub, Int.reduceMul, Int.reduceNeg, Int.reduceTDiv, Int.reduceTMod, ne_eq, reduceCtorEq, Nat.reduceEqDiff, Int.cast_ofNat_Int, true_or, or_true, false_or, or_false, lcq_0, lcq_2, lcq_3, lcq_4, lcq_5, mi_296, i296_587, i296_588, i296_589, i296_590, i296_591, i296_592, i296_593, i296_594, i296_595, i296_596, i296_597, i296_598, i296_601, i296_602, i296_603, i296_604, i296_605, i296_606, i296_607, i296_608, i296_609, i296_610, i296_611, i296_612, i296_615, i296_618, i296_619, k124, k253]
  exact hnext W'' hJ
set_option maxRecDepth 10000 in
theorem lw_12 (h0 : W.2 0 = ea 0 L X) (hx : isobj (W.2 67) 11) (hW : 192 ≤ W.1) (hi : i + 6 ≤ L) (hL : L ≤ 3072) (hbc : 0 ≤ bc) (hbs : 0 ≤ bs) (hcall : CallOK J W 126 255 [vi (X (i + 1)), vi (X (i + 2))])
    (hnext : ∀ W'', J W'' → G 296 1266 [some (vr 0), some (vr 67), some (vr 148), some (vi (i : Int))] [] W'' (bc - 0) (bs - 0) Q) : G 296 620 [some (vr 0), some (vr 67), some (vr 148), some (vi (i : Int))] [] W bc bs Q := by
  have e1 : ((i : Int) + 1).toNat = i + 1 := by omega
  have e2 : ((i : Int) + 2).toNat = i + 2 := by omega
  have w0 : 0 < W.1 := by omega
  have w1 : 67 < W.1 := by omega
  have w2 : 148 < W.1 := by omega
  rw [i296_620]
  simp only [s_1, s_2, s_3, s_4, s_76, s_5, s_6, s_7, s_8, s_9, s_10, s_11, s_12, s_13, s_14, s_15, s_16, s_17, s_18, s_19, s_20, s_21, s_22, s_23, s_24, s_25, s_26, s_27, s_28, s_29, s_30, s_31, s_32, s_33, s_34, s_35, s_36, s_37, s_38, s_39, s_40l, s_40i, s_40r, s_41, s_43, t_44, t_45, t_46, t_47, s_48, s_49, s_50, s_51, s_52, s_53, s_54, s_55, s_56, s_57, s_58, s_59, s_60, s_61, s_62_0, s_62_1, s_62_2, s_66, s_67, s_68, s_69, s_70, s_71, s_72, s_73, sws_n, sws_c, lget, lset, fget, fset, nolg, nolong, avc, stw, cnd, isobj_eo, GCi, GCn, retk, List.length_cons, List.length_nil, ↓reduceIte, and_true, true_and, not_true_eq_false, not_false_eq_true, forall_const, Nat.reduceAdd, Nat.reduceLT, Nat.reduceLeDiff, Nat.lt_add_one, Nat.le_refl, Nat.zero_le, Nat.sub_zero, Int.reduceEq, Int.reduceNe, Int.reduceLT, Int.reduceLE, Int.reduceAdd, Int.reduceSub, Int.reduceMul, Int.reduceNeg, Int.reduceTDiv, Int.reduceTMod, ne_eq, reduceCtorEq, Nat.reduceEqDiff, Int.cast_ofNat_Int, true_or, or_true, false_or, or_false, lcq_0, lcq_2, lcq_3, lcq_4, lcq_5, mi_296, i296_620, i296_621, i296_622, i296_623, i296_624, i296_625, i296_626, i296_627, i296_628, i296_629, i296_630, i296_631, i296_634, i296_635, i296_636, i296_637, i296_638, i296_639, i296_640, i296_641, i296_642, i296_643, i296_644, i296_645, i296_648, i296_651, i296_652, k126, k255, h0, hx, w0, w1, hbc, hbs, in32, e1, e2]
  refine ⟨by omega, by omega, by omega, ?_⟩
  refine ⟨by omega, by omega, by omega, ?_⟩
  refine Gm_post hcall (fun r W' hr => ?_)
  obtain ⟨h1, h2, h3, z, rfl, hG⟩ := hr
  have h4 : W'.2 0 = ea 0 L X := h3.trans h0
  have v0 : 0 < W'.1 := by omega
  have v2 : 148 < W'.1 := by omega
  simp only [s_1, s_2, s_3, s_4, s_76, s_5, s_6, s_7, s_8, s_9, s_10, s_11, s_12, s_13, s_14, s_15, s_16, s_17, s_18, s_19, s_20, s_21, s_22, s_23, s_24, s_25, s_26, s_27, s_28, s_29, s_30, s_31, s_32, s_33, s_34, s_35, s_36, s_37, s_38, s_39, s_40l, s_40i, s_40r, s_41, s_43, t_44, t_45, t_46, t_47, s_48, s_49, s_50, s_51, s_52, s_53, s_54, s_55, s_56, s_57, s_58, s_59, s_60, s_61, s_62_0, s_62_1, s_62_2, s_66, s_67, s_68, s_69, s_70, s_71, s_72, s_73, sws_n, sws_c, lget, lset, fget, fset, nolg, nolong, avc, stw, cnd, isobj_eo, GCi, GCn, retk, List.length_cons, List.length_nil, ↓reduceIte, and_true, true_and, not_true_eq_false, not_false_eq_true, forall_const, Nat.reduceAdd, Nat.reduceLT, Nat.reduceLeDiff, Nat.lt_add_one, Nat.le_refl, Nat.zero_le, Nat.sub_zero, Int.reduceEq, Int.reduceNe, Int.reduceLT, Int.reduceLE, Int.reduceAdd, Int.reduceSub, Int.reduceMul, Int.reduceNeg, Int.reduceTDiv, Int.reduceTMod, ne_eq, reduceCtorEq, Nat.reduceEqDiff, Int.cast_ofNat_Int, true_or, or_true, false_or, or_false, lcq_0, lcq_2, lcq_3, lcq_4, lcq_5, mi_296, i296_620, i296_621, i296_622, i296_623, i296_624, i296_625, i296_626, i296_627, i296_628, i296_629, i296_630, i296_631, i296_634, i296_635, i296_636, i296_637, i296_638, i296_639, i296_640, i296_641, i296_642, i296_643, i296_644, i296_645, i296_648, i296_651, i296_652, k126, k255, h4, h1, v0, v2, in32, e1, e2]
  refine ⟨by omega, by omega, by omega, ?_⟩
  refine ⟨by omega, by omega, by omega, ?_⟩
  refine Gm_post hG (fun r' W'' hr => ?_)
  obtain ⟨rfl, hJ⟩ := hr
  simp only [s_1, s_2, s_3, s_4, s_76, s_5, s_6, s_7, s_8, s_9, s_10, s_11, s_12, s_13, s_14, s_15, s_16, s_17, s_18, s_19, s_20, s_21, s_22, s_23, s_24, s_25, s_26, s_27, s_28, s_29, s_30, s_31, s_32, s_33, s_34, s_35, s_36, s_37, s_38, s_39, s_40l, s_40i, s_40r, s_41, s_43, t_44, t_45, t_46, t_47, s_48, s_49, s_50, s_51, s_52, s_53, s_54, s_55, s_56, s_57, s_58, s_59, s_60, s_61, s_62_0, s_62_1, s_62_2, s_66, s_67, s_68, s_69, s_70, s_71, s_72, s_73, sws_n, sws_c, lget, lset, fget, fset, nolg, nolong, avc, stw, cnd, isobj_eo, GCi, GCn, retk, List.length_cons, List.length_nil, ↓reduceIte, and_true, true_and, not_true_eq_false, not_false_eq_true, forall_const, Nat.reduceAdd, Nat.reduceLT, Nat.reduceLeDiff, Nat.lt_add_one, Nat.le_refl, Nat.zero_le, Nat.sub_zero, Int.reduceEq, Int.reduceNe, Int.reduceLT, Int.reduceLE, Int.reduceAdd, Int.reduceSub, Int.reduceMul, Int.reduceNeg, Int.reduceTDiv, Int.reduceTMod, ne_eq, reduceCtorEq, Nat.reduceEqDiff, Int.cast_ofNat_Int, true_or, or_true, false_or, or_false, lcq_0, lcq_2, lcq_3, lcq_4, lcq_5, mi_296, i296_620, i296_621, i296_622, i296_623, i296_624, i296_625, i296_626, i296_627, i296_628, i296_629, i296_630, i296_631, i296_634, i296_635, i296_636, i296_637, i296_638, i296_639, i296_640, i296_641, i296_642, i296_643, i296_644, i296_645, i296_648, i296_651, i296_652, k126, k255]
  exact hnext W'' hJ
set_option maxRecDepth 10000 in
theorem lw_13 (h0 : W.2 0 = ea 0 L X) (hx : isobj (W.2 67) 11) (hW : 192 ≤ W.1) (hi : i + 6 ≤ L) (hL : L ≤ 3072) (hbc : 0 ≤ bc) (hbs : 0 ≤ bs) (hcall : CallOK J W 127 256 [vi (X (i + 1))])
    (hnext : ∀ W'', J W'' → G 296 1266 [some (vr 0), some (vr 67), some (vr 148), some (vi (i : Int))] [] W'' (bc - 0) (bs - 0) Q) : G 296 653 [some (vr 0), some (vr 67), some (vr 148), some (vi (i : Int))] [] W bc bs Q := by
  have e1 : ((i : Int) + 1).toNat = i + 1 := by omega
  have w0 : 0 < W.1 := by omega
  have w1 : 67 < W.1 := by omega
  have w2 : 148 < W.1 := by omega
  rw [i296_653]
  simp only [s_1, s_2, s_3, s_4, s_76, s_5, s_6, s_7, s_8, s_9, s_10, s_11, s_12, s_13, s_14, s_15, s_16, s_17, s_18, s_19, s_20, s_21, s_22, s_23, s_24, s_25, s_26, s_27, s_28, s_29, s_30, s_31, s_32, s_33, s_34, s_35, s_36, s_37, s_38, s_39, s_40l, s_40i, s_40r, s_41, s_43, t_44, t_45, t_46, t_47, s_48, s_49, s_50, s_51, s_52, s_53, s_54, s_55, s_56, s_57, s_58, s_59, s_60, s_61, s_62_0, s_62_1, s_62_2, s_66, s_67, s_68, s_69, s_70, s_71, s_72, s_73, sws_n, sws_c, lget, lset, fget, fset, nolg, nolong, avc, stw, cnd, isobj_eo, GCi, GCn, retk, List.length_cons, List.length_nil, ↓reduceIte, and_true, true_and, not_true_eq_false, not_false_eq_true, forall_const, Nat.reduceAdd, Nat.reduceLT, Nat.reduceLeDiff, Nat.lt_add_one, Nat.le_refl, Nat.zero_le, Nat.sub_zero, Int.reduceEq, Int.reduceNe, Int.reduceLT, Int.reduceLE, Int.reduceAdd, Int.reduceSub, Int.reduceMul, Int.reduceNeg, Int.reduceTDiv, Int.reduceTMod, ne_eq, reduceCtorEq, Nat.reduceEqDiff, Int.cast_ofNat_Int, true_or, or_true, false_or, or_false, lcq_0, lcq_2, lcq_3, lcq_4, lcq_5, mi_296, i296_653, i296_654, i296_655, i296_656, i296_657, i296_658, i296_659, i296_662, i296_663, i296_664, i296_665, i296_666, i296_667, i296_668, i296_671, i296_674, i296_675, k127, k256, h0, hx, w0, w1, hbc, hbs, in32, e1]
  refine ⟨by omega, by omega, by omega, ?_⟩
  refine Gm_post hcall (fun r W' hr => ?_)
  obtain ⟨h1, h2, h3, z, rfl, hG⟩ := hr
  have h4 : W'.2 0 = ea 0 L X := h3.trans h0
  have v0 : 0 < W'.1 := by omega
  have v2 : 148 < W'.1 := by omega
  simp only [s_1, s_2, s_3, s_4, s_76, s_5, s_6, s_7, s_8, s_9, s_10, s_11, s_12, s_13, s_14, s_15, s_16, s_17, s_18, s_19, s_20, s_21, s_22, s_23, s_24, s_25, s_26, s_27, s_28, s_29, s_30, s_31, s_32, s_33, s_34, s_35, s_36, s_37, s_38, s_39, s_40l, s_40i, s_40r, s_41, s_43, t_44, t_45, t_46, t_47, s_48, s_49, s_50, s_51, s_52, s_53, s_54, s_55, s_56, s_57, s_58, s_59, s_60, s_61, s_62_0, s_62_1, s_62_2, s_66, s_67, s_68, s_69, s_70, s_71, s_72, s_73, sws_n, sws_c, lget, lset, fget, fset, nolg, nolong, avc, stw, cnd, isobj_eo, GCi, GCn, retk, List.length_cons, List.length_nil, ↓reduceIte, and_true, true_and, not_true_eq_false, not_false_eq_true, forall_const, Nat.reduceAdd, Nat.reduceLT, Nat.reduceLeDiff, Nat.lt_add_one, Nat.le_refl, Nat.zero_le, Nat.sub_zero, Int.reduceEq, Int.reduceNe, Int.reduceLT, Int.reduceLE, Int.reduceAdd, Int.reduceSub, Int.reduceMul, Int.reduceNeg, Int.reduceTDiv, Int.reduceTMod, ne_eq, reduceCtorEq, Nat.reduceEqDiff, Int.cast_ofNat_Int, true_or, or_true, false_or, or_false, lcq_0, lcq_2, lcq_3, lcq_4, lcq_5, mi_296, i296_653, i296_654, i296_655, i296_656, i296_657, i296_658, i296_659, i296_662, i296_663, i296_664, i296_665, i296_666, i296_667, i296_668, i296_671, i296_674, i296_675, k127, k256, h4, h1, v0, v2, in32, e1]
  refine ⟨by omega, by omega, by omega, ?_⟩
  refine Gm_post hG (fun r' W'' hr => ?_)
  obtain ⟨rfl, hJ⟩ := hr
  simp only [s_1, s_2, s_3, s_4, s_76, s_5, s_6, s_7, s_8, s_9, s_10, s_11, s_12, s_13, s_14, s_15, s_16, s_17, s_18, s_19, s_20, s_21, s_22, s_23, s_24, s_25, s_26, s_27, s_28, s_29, s_30, s_31, s_32, s_33, s_34, s_35, s_36, s_37, s_38, s_39, s_40l, s_40i, s_40r, s_41, s_43, t_44, t_45, t_46, t_47, s_48, s_49, s_50, s_51, s_52, s_53, s_54, s_55, s_56, s_57, s_58, s_59, s_60, s_61, s_62_0, s_62_1, s_62_2, s_66, s_67, s_68, s_69, s_70, s_71, s_72, s_73, sws_n, sws_c, lget, lset, fget, fset, nolg, nolong, avc, stw, cnd, isobj_eo, GCi, GCn, retk, List.length_cons, List.length_nil, ↓reduceIte, and_true, true_and, not_true_eq_false, not_false_eq_true, forall_const, Nat.reduceAdd, Nat.reduceLT, Nat.reduceLeDiff, Nat.lt_add_one, Nat.le_refl, Nat.zero_le, Nat.sub_zero, Int.reduceEq, Int.reduceNe, Int.reduceLT, Int.reduceLE, Int.reduceAdd, Int.reduceSub, Int.reduceMul, Int.reduceNeg, Int.reduceTDiv, Int.reduceTMod, ne_eq, reduceCtorEq, Nat.reduceEqDiff, Int.cast_ofNat_Int, true_or, or_true, false_or, or_false, lcq_0, lcq_2, lcq_3, lcq_4, lcq_5, mi_296, i296_653, i296_654, i296_655, i296_656, i296_657, i296_658, i296_659, i296_662, i296_663, i296_664, i296_665, i296_666, i296_667, i296_668, i296_671, i296_674, i296_675, k127, k256]
  exact hnext W'' hJ
set_option maxRecDepth 10000 in
theorem lw_14 (h0 : W.2 0 = ea 0 L X) (hx : isobj (W.2 67) 11) (hW : 192 ≤ W.1) (hi : i + 6 ≤ L) (hL : L ≤ 3072) (hbc : 0 ≤ bc) (hbs : 0 ≤ bs) (hcall : CallOK J W 130 259 [vi (X (i + 1))])
    (hnext : ∀ W'', J W'' → G 296 1266 [some (vr 0), some (vr 67), some (vr 148), some (vi (i : Int))] [] W'' (bc - 0) (bs - 0) Q) : G 296 676 [some (vr 0), some (vr 67), some (vr 148), some (vi (i : Int))] [] W bc bs Q := by
  have e1 : ((i : Int) + 1).toNat = i + 1 := by omega
  have w0 : 0 < W.1 := by omega
  have w1 : 67 < W.1 := by omega
  have w2 : 148 < W.1 := by omega
  rw [i296_676]
  simp only [s_1, s_2, s_3, s_4, s_76, s_5, s_6, s_7, s_8, s_9, s_10, s_11, s_12, s_13, s_14, s_15, s_16, s_17, s_18, s_19, s_20, s_21, s_22, s_23, s_24, s_25, s_26, s_27, s_28, s_29, s_30, s_31, s_32, s_33, s_34, s_35, s_36, s_37, s_38, s_39, s_40l, s_40i, s_40r, s_41, s_43, t_44, t_45, t_46, t_47, s_48, s_49, s_50, s_51, s_52, s_53, s_54, s_55, s_56, s_57, s_58, s_59, s_60, s_61, s_62_0, s_62_1, s_62_2, s_66, s_67, s_68, s_69, s_70, s_71, s_72, s_73, sws_n, sws_c, lget, lset, fget, fset, nolg, nolong, avc, stw, cnd, isobj_eo, GCi, GCn, retk, List.length_cons, List.length_nil, ↓reduceIte, and_true, true_and, not_true_eq_false, not_false_eq_true, forall_const, Nat.reduceAdd, Nat.reduceLT, Nat.reduceLeDiff, Nat.lt_add_one, Nat.le_refl, Nat.zero_le, Nat.sub_zero, Int.reduceEq, Int.reduceNe, Int.reduceLT, Int.reduceLE, Int.reduceAdd, Int.reduceSub, Int.reduceMul, Int.reduceNeg, Int.reduceTDiv, Int.reduceTMod, ne_eq, reduceCtorEq, Nat.reduceEqDiff, Int.cast_ofNat_Int, true_or, or_true, false_or, or_false, lcq_0, lcq_2, lcq_3, lcq_4, lcq_5, mi_296, i296_676, i296_677, i296_678, i296_679, i296_680, i296_681, i296_682, i296_685, i296_686, i296_687, i296_688, i296_689, i296_690, i296_691, i296_694, i296_697, i296_698, k130, k259, h0, hx, w0, w1, hbc, hbs, in32, e1]
  refine ⟨by omega, by omega, by omega, ?_⟩
  refine Gm_post hcall (fun r W' hr => ?_)
  obtain ⟨h1, h2, h3, z, rfl, hG⟩ := hr
  have h4 : W'.2 0 = ea 0 L X := h3.trans h0
  have v0 : 0 < W'.1 := by omega
  have v2 : 148 < W'.1 := by omega
  simp only [s_1, s_2, s_3, s_4, s_76, s_5, s_6, s_7, s_8, s_9, s_10, s_11, s_12, s_13, s_14, s_15, s_16, s_17, s_18, s_19, s_20, s_21, s_22, s_23, s_24, s_25, s_26, s_27, s_28, s_29, s_30, s_31, s_32, s_33, s_34, s_35, s_36, s_37, s_38, s_39, s_40l, s_40i, s_40r, s_41, s_43, t_44, t_45, t_46, t_47, s_48, s_49, s_50, s_51, s_52, s_53, s_54, s_55, s_56, s_57, s_58, s_59, s_60, s_61, s_62_0, s_62_1, s_62_2, s_66, s_67, s_68, s_69, s_70, s_71, s_72, s_73, sws_n, sws_c, lget, lset, fget, fset, nolg, nolong, avc, stw, cnd, isobj_eo, GCi, GCn, retk, List.length_cons, List.length_nil, ↓reduceIte, and_true, true_and, not_true_eq_false, not_false_eq_true, forall_const, Nat.reduceAdd, Nat.reduceLT, Nat.reduceLeDiff, Nat.lt_add_one, Nat.le_refl, Nat.zero_le, Nat.sub_zero, Int.reduceEq, Int.reduceNe, Int.reduceLT, Int.reduceLE, Int.reduceAdd, Int.reduceSub, Int.reduceMul, Int.reduceNeg, Int.reduceTDiv, Int.reduceTMod, ne_eq, reduceCtorEq, Nat.reduceEqDiff, Int.cast_ofNat_Int, true_or, or_true, false_or, or_false, lcq_0, lcq_2, lcq_3, lcq_4, lcq_5, mi_296, i296_676, i296_677, i296_678, i296_679, i296_680, i296_681, i296_682, i296_685, i296_686, i296_687, i296_688, i296_689, i296_690, i296_691, i296_694, i296_697, i296_698, k130, k259, h4, h1, v0, v2, in32, e1]
  refine ⟨by omega, by omega, by omega, ?_⟩
  refine Gm_post hG (fun r' W'' hr => ?_)
  obtain ⟨rfl, hJ⟩ := hr
  simp only [s_1, s_2, s_3, s_4, s_76, s_5, s_6, s_7, s_8, s_9, s_10, s_11, s_12, s_13, s_14, s_15, s_16, s_17, s_18, s_19, s_20, s_21, s_22, s_23, s_24, s_25, s_26, s_27, s_28, s_29, s_30, s_31, s_32, s_33, s_34, s_35, s_36, s_37, s_38, s_39, s_40l, s_40i, s_40r, s_41, s_43, t_44, t_45, t_46, t_47, s_48, s_49, s_50, s_51, s_52, s_53, s_54, s_55, s_56, s_57, s_58, s_59, s_60, s_61, s_62_0, s_62_1, s_62_2, s_66, s_67, s_68, s_69, s_70, s_71, s_72, s_73, sws_n, sws_c, lget, lset, fget, fset, nolg, nolong, avc, stw, cnd, isobj_eo, GCi, GCn, retk, List.length_cons, List.length_nil, ↓reduceIte, and_true, true_and, not_true_eq_false, not_false_eq_true, forall_const, Nat.reduceAdd, Nat.reduceLT, Nat.reduceLeDiff, Nat.lt_add_one, Nat.le_refl, Nat.zero_le, Nat.sub_zero, Int.reduceEq, Int.reduceNe, Int.reduceLT, Int.reduceLE, Int.reduceAdd, Int.reduceSub, Int.reduceMul, Int.reduceNeg, Int.reduceTDiv, Int.reduceTMod, ne_eq, reduceCtorEq, Nat.reduceEqDiff, Int.cast_ofNat_Int, true_or, or_true, false_or, or_false, lcq_0, lcq_2, lcq_3, lcq_4, lcq_5, mi_296, i296_676, i296_677, i296_678, i296_679, i296_680, i296_681, i296_682, i296_685, i296_686, i296_687, i296_688, i296_689, i296_690, i296_691, i296_694, i296_697, i296_698, k130, k259]
  exact hnext W'' hJ
set_option maxRecDepth 10000 in
theorem lw_15 (h0 : W.2 0 = ea 0 L X) (hx : isobj (W.2 67) 11) (hW : 192 ≤ W.1) (hi : i + 6 ≤ L) (hL : L ≤ 3072) (hbc : 0 ≤ bc) (hbs : 0 ≤ bs) (hcall : CallOK J W 134 262 [])
    (hnext : ∀ W'', J W'' → G 296 1266 [some (vr 0), some (vr 67), some (vr 148), some (vi (i : Int))] [] W'' (bc - 0) (bs - 0) Q) : G 296 699 [some (vr 0), some (vr 67), some (vr 148), some (vi (i : Int))] [] W bc bs Q := by
  have w0 : 0 < W.1 := by omega
  have w1 : 67 < W.1 := by omega
  have w2 : 148 < W.1 := by omega
  rw [i296_699]
  simp only [s_1, s_2, s_3, s_4, s_76, s_5, s_6, s_7, s_8, s_9, s_10, s_11, s_12, s_13, s_14, s_15, s_16, s_17, s_18, s_19, s_20, s_21, s_22, s_23, s_24, s_25, s_26, s_27, s_28, s_29, s_30, s_31, s_32, s_33, s_34, s_35, s_36, s_37, s_38, s_39, s_40l, s_40i, s_40r, s_41, s_43, t_44, t_45, t_46, t_47, s_48, s_49, s_50, s_51, s_52, s_53, s_54, s_55, s_56, s_57, s_58, s_59, s_60, s_61, s_62_0, s_62_1, s_62_2, s_66, s_67, s_68, s_69, s_70, s_71, s_72, s_73, sws_n, sws_c, lget, lset, fget, fset, nolg, nolong, avc, stw, cnd, isobj_eo, GCi, GCn, retk, List.length_cons, List.length_nil, ↓reduceIte, and_true, true_and, not_true_eq_false, not_false_eq_true, forall_const, Nat.reduceAdd, Nat.reduceLT, Nat.reduceLeDiff, Nat.lt_add_one, Nat.le_refl, Nat.zero_le, Nat.sub_zero, Int.reduceEq, Int.reduceNe, Int.reduceLT, Int.reduceLE, Int.reduceAdd, Int.reduceSub, Int.reduceMul, Int.reduceNeg, Int.reduceTDiv, Int.reduceTMod, ne_eq, reduceCtorEq, Nat.reduceEqDiff, Int.cast_ofNat_Int, true_or, or_true, false_or, or_false, lcq_0, lcq_2, lcq_3, lcq_4, lcq_5, mi_296, i296_699, i296_700, i296_703, i296_704, i296_707, i296_710, i296_711, k134, k262, h0, hx, w0, w1, hbc, hbs, in32]
  refine Gm_post hcall (fun r W' hr => ?_)
  obtain ⟨h1, h2, h3, z, rfl, hG⟩ := hr
  have h4 : W'.2 0 = ea 0 L X := h3.trans h0
  have v0 : 0 < W'.1 := by omega
  have v2 : 148 < W'.1 := by omega
  simp only [s_1, s_2, s_3, s_4, s_76, s_5, s_6, s_7, s_8, s_9, s_10, s_11, s_12, s_13, s_14, s_15, s_16, s_17, s_18, s_19, s_20, s_21, s_22, s_23, s_24, s_25, s_26, s_27, s_28, s_29, s_30, s_31, s_32, s_33, s_34, s_35, s_36, s_37, s_38, s_39, s_40l, s_40i, s_40r, s_41, s_43, t_44, t_45, t_46, t_47, s_48, s_49, s_50, s_51, s_52, s_53, s_54, s_55, s_56, s_57, s_58, s_59, s_60, s_61, s_62_0, s_62_1, s_62_2, s_66, s_67, s_68, s_69, s_70, s_71, s_72, s_73, sws_n, sws_c, lget, lset, fget, fset, nolg, nolong, avc, stw, cnd, isobj_eo, GCi, GCn, retk, List.length_cons, List.length_nil, ↓reduceIte, and_true, true_and, not_true_eq_false, not_false_eq_true, forall_const, Nat.reduceAdd, Nat.reduceLT, Nat.reduceLeDiff, Nat.lt_add_one, Nat.le_refl, Nat.zero_le, Nat.sub_zero, Int.reduceEq, Int.reduceNe, Int.reduceLT, Int.reduceLE, Int.reduceAdd, Int.reduceSub, Int.reduceMul, Int.reduceNeg, Int.reduceTDiv, Int.reduceTMod, ne_eq, reduceCtorEq, Nat.reduceEqDiff, Int.cast_ofNat_Int, true_or, or_true, false_or, or_false, lcq_0, lcq_2, lcq_3, lcq_4, lcq_5, mi_296, i296_699, i296_700, i296_703, i296_704, i296_707, i296_710, i296_711, k134, k262, h4, h1, v0, v2, in32]
  refine Gm_post hG (fun r' W'' hr => ?_)
  obtain ⟨rfl, hJ⟩ := hr
  simp only [s_1, s_2, s_3, s_4, s_76, s_5, s_6, s_7, s_8, s_9, s_10, s_11, s_12, s_13, s_14, s_15, s_16, s_17, s_18, s_19, s_20, s_21, s_22, s_23, s_24, s_25, s_26, s_27, s_28, s_29, s_30, s_31, s_32, s_33, s_34, s_35, s_36, s_37, s_38, s_39, s_40l, s_40i, s_40r, s_41, s_43, t_44, t_45, t_46, t_47, s_48, s_49, s_50, s_51, s_52, s_53, s_54, s_55, s_56, s_57, s_58, s_59, s_60, s_61, s_62_0, s_62_1, s_62_2, s_66, s_67, s_68, s_69, s_70, s_71, s_72, s_73, sws_n, sws_c, lget, lset, fget, fset, nolg, nolong, avc, stw, cnd, isobj_eo, GCi, GCn, retk, List.length_cons, List.length_nil, ↓reduceIte, and_true, true_and, not_true_eq_false, not_false_eq_true, forall_const, Nat.reduceAdd, Nat.reduceLT, Nat.reduceLeDiff, Nat.lt_add_one, Nat.le_refl, Nat.zero_le, Nat.sub_zero, Int.reduceEq, Int.reduceNe, Int.reduceLT, Int.reduceLE, Int.reduceAdd, Int.reduceSub, Int.reduceMul, Int.reduceNeg, Int.reduceTDiv, Int.reduceTMod, ne_eq, reduceCtorEq, Nat.reduceEqDiff, Int.cast_ofNat_Int, true_or, or_true, false_or, or_false, lcq_0, lcq_2, lcq_3, lcq_4, lcq_5, mi_296, i296_699, i296_700, i296_703, i296_704, i296_707, i296_710, i296_711, k134, k262]
  exact hnext W'' hJ
set_option maxRecDepth 10000 in
theorem lw_16 (h0 : W.2 0 = ea 0 L X) (hx : isobj (W.2 67) 11) (hW : 192 ≤ W.1) (hi : i + 6 ≤ L) (hL : L ≤ 3072) (hbc : 0 ≤ bc) (hbs : 0 ≤ bs) (hcall : CallOK J W 136 263 [vi (X (i + 1)), vi (X (i + 2))])
    (hnext : ∀ W'', J W'' → G 296 1266 [some (vr 0), some (vr 67), some (vr 148), some (vi (i : Int))] [] W'' (bc - 0) (bs - 0) Q) : G 296 712 [some (vr 0), some (vr 67), some (vr 148), some (vi (i : Int))] [] W bc bs Q := by
  have e1 : ((i : Int) + 1).toNat = i + 1 := by omega
  have e2 : ((i : Int) + 2).toNat = i + 2 := by omega
  have w0 : 0 < W.1 := by omega
  have w1 : 67 < W.1 := by omega
  have w2 : 148 < W.1 := by omega
  rw [i296_712]
  simp only [s_1, s_2, s_3, s_4, s_76, s_5, s_6, s_7, s_8, s_9, s_10, s_11, s_12, s_13, s_14, s_15, s_16, s_17, s_18, s_19, s_20, s_21, s_22, s_23, s_24, s_25, s_26, s_27, s_28, s_29, s_30, s_31, s_32, s_33, s_34, s_35, s_36, s_37, s_38, s_39, s_40l, s_40i, s_40r, s_41, s_43, t_44, t_45, t_46, t_47, s_48, s_49, s_50, s_51, s_52, s_53, s_54, s_55, s_56, s_57, s_58, s_59, s_60, s_61, s_62_0, s_62_1, s_62_2, s_66, s_67, s_68, s_69, s_70, s_71, s_72, s_73, sws_n, sws_c, lget, lset, fget, fset, nolg, nolong, avc, stw, cnd, isobj_eo, GCi, GCn, retk, List.length_cons, List.length_nil, ↓reduceIte, and_true, true_and, not_true_eq_false, not_false_eq_true, forall_const, Nat.reduceAdd, Nat.reduceLT, Nat.reduceLeDiff, Nat.lt_add_one, Nat.le_refl, Nat.zero_le, Nat.sub_zero, Int.reduceEq, Int.reduceNe, Int.reduceLT, Int.reduceLE, Int.reduceAdd, Int.reduceSub, Int.reduceMul, Int.reduceNeg, Int.reduceTDiv, Int.reduceTMod, ne_eq, reduceCtorEq, Nat.reduceEqDiff, Int.cast_ofNat_Int, true_or, or_true, false_or, or_false, lcq_0, lcq_2, lcq_3, lcq_4, lcq_5, mi_296, i296_712, i296_713, i296_714, i296_715, i296_716, i296_717, i296_718, i296_719, i296_720, i296_721, i296_722, i296_723, i296_726, i296_727, i296_728, i296_729, i296_730, i296_731, i296_732, i296_733, i296_734, i296_735, i296_736, i296_737, i296_740, i296_743, i296_744, k136, k263, h0, hx, w0, w1, hbc, hbs, in32, e1, e2]
  refine ⟨by omega, by omega, by omega, ?_⟩
  refine ⟨by omega, by omega, by omega, ?_⟩
  refine Gm_post hcall (fun r W' hr => ?_)
  obtain ⟨h1, h2, h3, z, rfl, hG⟩ := hr
  have h4 : W'.2 0 = ea 0 L X := h3.trans h0
  have v0 : 0 < W'.1 := by omega
  have v2 : 148 < W'.1 := by omega
  simp only [s_1, s_2, s_3, s_4, s_76, s_5, s_6, s_7, s_8, s_9, s_10, s_11, s_12, s_13, s_14, s_15, s_16, s_17, s_18, s_19, s_20, s_21, s_22, s_23, s_24, s_25, s_26, s_27, s_28, s_29, s_30, s_31, s_32, s_33, s_34, s_35, s_36, s_37, s_38, s_39, s_40l, s_40i, s_40r, s_41, s_43, t_44, t_45, t_46, t_47, s_48, s_49, s_50, s_51, s_52, s_53, s_54, s_55, s_56, s_57, s_58, s_59, s_60, s_61, s_62_0, s_62_1, s_62_2, s_66, s_67, s_68, s_69, s_70, s_71, s_72, s_73, sws_n, sws_c, lget, lset, fget, fset, nolg, nolong, avc, stw, cnd, isobj_eo, GCi, GCn, retk, List.length_cons, List.length_nil, ↓reduceIte, and_true, true_and, not_true_eq_false, not_false_eq_true, forall_const, Nat.reduceAdd, Nat.reduceLT, Nat.reduceLeDiff, Nat.lt_add_one, Nat.le_refl, Nat.zero_le, Nat.sub_zero, Int.reduceEq, Int.reduceNe, Int.reduceLT, Int.reduceLE, Int.reduceAdd, Int.reduceSub, Int.reduceMul, Int.reduceNeg, Int.reduceTDiv, Int.reduceTMod, ne_eq, reduceCtorEq, Nat.reduceEqDiff, Int.cast_ofNat_Int, true_or, or_true, false_or, or_false, lcq_0, lcq_2, lcq_3, lcq_4, lcq_5, mi_296, i296_712, i296_713, i296_714, i296_715, i296_716, i296_717, i296_718, i296_719, i296_720, i296_721, i296_722, i296_723, i296_726, i296_727, i296_728, i296_729, i296_730, i296_731, i296_732, i296_733, i296_734, i296_735, i296_736, i296_737, i296_740, i296_743, i296_744, k136, k263, h4, h1, v0, v2, in32, e1, e2]
  refine ⟨by omega, by omega, by omega, ?_⟩
  refine ⟨by omega, by omega, by omega, ?_⟩
  refine Gm_post hG (fun r' W'' hr => ?_)
  obtain ⟨rfl, hJ⟩ := hr
  simp only [s_1, s_2, s_3, s_4, s_76, s_5, s_6, s_7, s_8, s_9, s_10, s_11, s_12, s_13, s_14, s_15, s_16, s_17, s_18, s_19, s_20, s_21, s_22, s_23, s_24, s_25, s_26, s_27, s_28, s_29, s_30, s_31, s_32, s_33, s_34, s_35, s_36, s_37, s_38, s_39, s_40l, s_40i, s_40r, s_41, s_43, t_44, t_45, t_46, t_47, s_48, s_49, s_50, s_51, s_52, s_53, s_54, s_55, s_56, s_57, s_58, s_59, s_60, s_61, s_62_0, s_62_1, s_62_2, s_66, s_67, s_68, s_69, s_70, s_71, s_72, s_73, sws_n, sws_c, lget, lset, fget, fset, nolg, nolong, avc, stw, cnd, isobj_eo, GCi, GCn, retk, List.length_cons, List.length_nil, ↓reduceIte, and_true, true_and, not_true_eq_false, not_false_eq_true, forall_const, Nat.reduceAdd, Nat.reduceLT, Nat.reduceLeDiff, Nat.lt_add_one, Nat.le_refl, Nat.zero_le, Nat.sub_zero, Int.reduceEq, Int.reduceNe, Int.reduceLT, Int.reduceLE, Int.reduceAdd, Int.reduceSub, Int.reduceMul, Int.reduceNeg, Int.reduceTDiv, Int.reduceTMod, ne_eq, reduceCtorEq, Nat.reduceEqDiff, Int.cast_ofNat_Int, true_or, or_true, false_or, or_false, lcq_0, lcq_2, lcq_3, lcq_4, lcq_5, mi_296, i296_712, i296_713, i296_714, i296_715, i296_716, i296_717, i296_718, i296_719, i296_720, i296_721, i296_722, i296_723, i296_726, i296_727, i296_728, i296_729, i296_730, i296_731, i296_732, i296_733, i296_734, i296_735, i296_736, i296_737, i296_740, i296_743, i296_744, k136, k263]
  exact hnext W'' hJ
set_option maxRecDepth 10000 in
theorem lw_17 (h0 : W.2 0 = ea 0 L X) (hx : isobj (W.2 67) 11) (hW : 192 ≤ W.1) (hi : i + 6 ≤ L) (hL : L ≤ 3072) (hbc : 0 ≤ bc) (hbs : 0 ≤ bs) (hcall : CallOK J W 139 266 [vi (X (i + 1))])
    (hnext : ∀ W'', J W'' → G 296 1266 [some (vr 0), some (vr 67), some (vr 148), some (vi (i : Int))] [] W'' (bc - 0) (bs - 0) Q) : G 296 745 [some (vr 0), some (vr 67), some (vr 148), some (vi (i : Int))] [] W bc bs Q := by
  have e1 : ((i : Int) + 1).toNat = i + 1 := by omega
  have w0 : 0 < W.1 := by omega
  have w1 : 67 < W.1 := by omega
  have w2 : 148 < W.1 := by omega
  rw [i296_745]
  simp only [s_1, s_2, s_3, s_4, s_76, s_5, s_6, s_7, s_8, s_9, s_10, s_11, s_12, s_13, s_14, s_15, s_16, s_17, s_18, s_19, s_20, s_21, s_22, s_23, s_24, s_25, s_26, s_27, s_28, s_29, s_30, s_31, s_32, s_33, s_34, s_35, s_36, s_37, s_38, s_39, s_40l, s_40i, s_40r, s_41, s_43, t_44, t_45, t_46, t_47, s_48, s_49, s_50, s_51, s_52, s_53, s_54, s_55, s_56, s_57, s_58, s_59, s_60, s_61, s_62_0, s_62_1, s_62_2, s_66, s_67, s_68, s_69, s_70, s_71, s_72, s_73, sws_n, sws_c, lget, lset, fget, fset, nolg, nolong, avc, stw, cnd, isobj_eo, GCi, GCn, retk, List.length_cons, List.length_nil, ↓reduceIte, and_true, true_and, not_true_eq_false, not_false_eq_true, forall_const, Nat.reduceAdd, Nat.reduceLT, Nat.reduceLeDiff, Nat.lt_add_one, Nat.le_refl, Nat.zero_le, Nat.sub_zero, Int.reduceEq, Int.reduceNe, Int.reduceLT, Int.reduceLE, Int.reduceAdd, Int.reduceSub, Int.reduceMul, Int.reduceNeg, Int.reduceTDiv, Int.reduceTMod, ne_eq, reduceCtorEq, Nat.reduceEqDiff, Int.cast_ofNat_Int, true_or, or_true, false_or, or_false, lcq_0, lcq_2, lcq_3, lcq_4, lcq_5, mi_296, i296_745, i296_746, i296_747, i296_748, i296_749, i296_750, i296_751, i296_754, i296_755, i296_756, i296_757, i296_758, i296_759, i296_760, i296_763, i296_766, i296_767, k139, k266, h0, hx, w0, w1, hbc, hbs, in32, e1]
  refine ⟨by omega, by omega, by omega, ?_⟩
  refine Gm_post hcall (fun r W' hr => ?_)
  obtain ⟨h1, h2, h3, z, rfl, hG⟩ := hr
  have h4 : W'.2 0 = ea 0 L X := h3.trans h0
  have v0 : 0 < W'.1 := by omega
  have v2 : 148 < W'.1 := by omega
  simp only [s_1, s_2, s_3, s_4, s_76, s_5, s_6, s_7, s_8, s_9, s_10, s_11, s_12, s_13, s_14, s_15, s_16, s_17, s_18, s_19, s_20, s_21, s_22, s_23, s_24, s_25, s_26, s_27, s_28, s_29, s_30, s_31, s_32, s_33, s_34, s_35, s_36, s_37, s_38, s_39, s_40l, s_40i, s_40r, s_41, s_43, t_44, t_45, t_46, t_47, s_48, s_49, s_50, s_51, s_52, s_53, s_54, s_55, s_56, s_57, s_58, s_59, s_60, s_61, s_62_0, s_62_1, s_62_2, s_66, s_67, s_68, s_69, s_70, s_71, s_72, s_73, sws_n, sws_c, lget, lset, fget, fset, nolg, nolong, avc, stw, cnd, isobj_eo, GCi, GCn, retk, List.length_cons, List.length_nil, ↓reduceIte, and_true, true_and, not_true_eq_false, not_false_eq_true, forall_const, Nat.reduceAdd, Nat.reduceLT, Nat.reduceLeDiff, Nat.lt_add_one, Nat.le_refl, Nat.zero_le, Nat.sub_zero, Int.reduceEq, Int.reduceNe, Int.reduceLT, Int.reduceLE, Int.reduceAdd, Int.reduceSub, Int.reduceMul, Int.reduceNeg, Int.reduceTDiv, Int.reduceTMod, ne_eq, reduceCtorEq, Nat.reduceEqDiff, Int.cast_ofNat_Int, true_or, or_true, false_or, or_false, lcq_0, lcq_2, lcq_3, lcq_4, lcq_5, mi_296, i296_745, i296_746, i296_747, i296_748, i296_749, i296_750, i296_751, i296_754, i296_755, i296_756, i296_757, i296_758, i296_759, i296_760, i296_763, i296_766, i296_767, k139, k266, h4, h1, v0, v2, in32, e1]
  refine ⟨by omega, by omega, by omega, ?_⟩
  refine Gm_post hG (fun r' W'' hr => ?_)
  obtain ⟨rfl, hJ⟩ := hr
  simp only [s_1, s_2, s_3, s_4, s_76, s_5, s_6, s_7, s_8, s_9, s_10, s_11, s_12, s_13, s_14, s_15, s_16, s_17, s_18, s_19, s_20, s_21, s_22, s_23, s_24, s_25, s_26, s_27, s_28, s_29, s_30, s_31, s_32, s_33, s_34, s_35, s_36, s_37, s_38, s_39, s_40l, s_40i, s_40r, s_41, s_43, t_44, t_45, t_46, t_47, s_48, s_49, s_50, s_51, s_52, s_53, s_54, s_55, s_56, s_57, s_58, s_59, s_60, s_61, s_62_0, s_62_1, s_62_2, s_66, s_67, s_68, s_69, s_70, s_71, s_72, s_73, sws_n, sws_c, lget, lset, fget, fset, nolg, nolong, avc, stw, cnd, isobj_eo, GCi, GCn, retk, List.length_cons, List.length_nil, ↓reduceIte, and_true, true_and, not_true_eq_false, not_false_eq_true, forall_const, Nat.reduceAdd, Nat.reduceLT, Nat.reduceLeDiff, Nat.lt_add_one, Nat.le_refl, Nat.zero_le, Nat.sub_zero, Int.reduceEq, Int.reduceNe, Int.reduceLT, Int.reduceLE, Int.reduceAdd, Int.reduceSub, Int.reduceMul, Int.reduceNeg, Int.reduceTDiv, Int.reduceTMod, ne_eq, reduceCtorEq, Nat.reduceEqDiff, Int.cast_ofNat_Int, true_or, or_true, false_or, or_false, lcq_0, lcq_2, lcq_3, lcq_4, lcq_5, mi_296, i296_745, i296_746, i296_747, i296_748, i296_749, i296_750, i296_751, i296_754, i296_755, i296_756, i296_757, i296_758, i296_759, i296_760, i296_763, i296_766, i296_767, k139, k266]
  exact hnext W'' hJ
set_option maxRecDepth 10000 in
theorem lw_18 (h0 : W.2 0 = ea 0 L X) (hx : isobj (W.2 67) 11) (hW : 192 ≤ W.1) (hi : i + 6 ≤ L) (hL : L ≤ 3072) (hbc : 0 ≤ bc) (hbs : 0 ≤ bs) (hcall : CallOK J W 142 268 [vi (X (i + 1)), vi (X (i + 2))])
    (hnext : ∀ W'', J W'' → G 296 1266 [some (vr 0), some (vr 67), some (vr 148), some (vi (i : Int))] [] W'' (bc - 0) (bs - 0) Q) : G 296 768 [some (vr 0), some (vr 67), some (vr 148), some (vi (i : Int))] [] W bc bs Q := by
  have e1 : ((i : Int) + 1).toNat = i + 1 := by omega
  have e2 : ((i : Int) + 2).toNat = i + 2 := by omega
  have w0 : 0 < W.1 := by omega
  have w1 : 67 < W.1 := by omega
  have w2 : 148 < W.1 := by omega
  rw [i296_768]
  simp only [s_1, s_2, s_3, s_4, s_76, s_5, s_6, s_7, s_8, s_9, s_10, s_11, s_12, s_13, s_14, s_15, s_16, s_17, s_18, s_19, s_20, s_21, s_22, s_23, s_24, s_25, s_26, s_27, s_28, s_29, s_30, s_31, s_32, s_33, s_34, s_35, s_36, s_37, s_38, s_39, s_40l, s_40i, s_40r, s_41, s_43, t_44, t_45, t_46, t_47, s_48, s_49, s_50, s_51, s_52, s_53, s_54, s_55, s_56, s_57, s_58, s_59, s_60, s_61, s_62_0, s_62_1, s_62_2, s_66, s_67, s_68, s_69, s_70, s_71, s_72, s_73, sws_n, sws_c, lget, lset, fget, fset, nolg, nolong, avc, stw, cnd, isobj_eo, GCi, GCn, retk, List.length_cons, List.length_nil, ↓reduceIte, and_true, true_and, not_true_eq_false, not_false_eq_true, forall_const, Nat.reduceAdd, Nat.reduceLT, Nat.reduceLeDiff, Nat.lt_add_one, Nat.le_refl, Nat.zero_le, Nat.sub_zero, Int.reduceEq, Int.reduceNe, Int.reduceLT, Int.reduceLE, Int.reduceAdd, Int.reduceSub, Int.reduceMul, Int.reduceNeg, Int.reduceTDiv, Int.reduceTMod, ne_eq, reduceCtorEq, Nat.reduceEqDiff, Int.cast_ofNat_Int, true_or, or_true, false_or, or_false, lcq_0, lcq_2, lcq_3, lcq_4, lcq_5, mi_296, i296_768, i296_769, i296_770, i296_771, i296_772, i296_773, i296_774, i296_775, i296_776, i296_777, i296_778, i296_779, i296_782, i296_783, i296_784, i296_785, i296_786, i296_787, i296_788, i296_789, i296_790, i296_791, i296_792, i296_793, i296_796, i296_799, i296_800, k142, k268, h0, hx, w0, w1, hbc, hbs, in32, e1, e2]
  refine ⟨by omega, by omega, by omega, ?_⟩
  refine ⟨by omega, by omega, by omega, ?_⟩
  refine Gm_post hcall (fun r W' hr => ?_)
  obtain ⟨h1, h2, h3, z, rfl, hG⟩ := hr
  have h4 : W'.2 0 = ea 0 L X := h3.trans h0
  have v0 : 0 < W'.1 := by omega
  have v2 : 148 < W'.1 := by omega
  simp only [s_1, s_2, s_3, s_4, s_76, s_5, s_6, s_7, s_8, s_9, s_10, s_11, s_12, s_13, s_14, s_15, s_16, s_17, s_18, s_19, s_20, s_21, s_22, s_23, s_24, s_25, s_26, s_27, s_28, s_29, s_30, s_31, s_32, s_33, s_34, s_35, s_36, s_37, s_38, s_39, s_40l, s_40i, s_40r, s_41, s_43, t_44, t_45, t_46, t_47, s_48, s_49, s_50, s_51, s_52, s_53, s_54, s_55, s_56, s_57, s_58, s_59, s_60, s_61, s_62_0, s_62_1, s_62_2, s_66, s_67, s_68, s_69, s_70, s_71, s_72, s_73, sws_n, sws_c, lget, lset, fget, fset, nolg, nolong, avc, stw, cnd, isobj_eo, GCi, GCn, retk, List.length_cons, List.length_nil, ↓reduceIte, and_true, true_and, not_true_eq_false, not_false_eq_true, forall_const, Nat.reduceAdd, Nat.reduceLT, Nat.reduceLeDiff, Nat.lt_add_one, Nat.le_refl, Nat.zero_le, Nat.sub_zero, Int.reduceEq, Int.reduceNe, Int.reduceLT, Int.reduceLE, Int.reduceAdd, Int.reduceSub, Int.reduceMul, Int.reduceNeg, Int.reduceTDiv, Int.reduceTMod, ne_eq, reduceCtorEq, Nat.reduceEqDiff, Int.cast_ofNat_Int, true_or, or_true, false_or, or_false, lcq_0, lcq_2, lcq_3, lcq_4, lcq_5, mi_296, i296_768, i296_769, i296_770, i296_771, i296_772, i296_773, i296_774, i296_775, i296_776, i296_777, i296_778, i296_779, i296_782, i296_783, i296_784, i296_785, i296_786, i296_787, i296_788, i296_789, i296_790, i296_791, i296_792, i296_793, i296_796, i296_799, i296_800, k142, k268, h4, h1, v0, v2, in32, e1, e2]
  refine ⟨by omega, by omega, by omega, ?_⟩
  refine ⟨by omega, by omega, by omega, ?_⟩
  refine Gm_post hG (fun r' W'' hr => ?_)
  obtain ⟨rfl, hJ⟩ := hr
  simp only [s_1, s_2, s_3, s_4, s_76, s_5, s_6, s_7, s_8, s_9, s_10, s_11, s_12, s_13, s_14, s_15, s_16, s_17, s_18, s_19, s_20, s_21, s_22, s_23, s_24, s_25, s_26, s_27, s_28, s_29, s_30, s_31, s_32, s_33, s_34, s_35, s_36, s_37, s_38, s_39, s_40l, s_40i, s_40r, s_41, s_43, t_44, t_45, t_46, t_47, s_48, s_49, s_50, s_51, s_52, s_53, s_54, s_55, s_56, s_57, s_58, s_59, s_60, s_61, s_62_0, s_62_1, s_62_2, s_66, s_67, s_68, s_69, s_70, s_71, s_72, s_73, sws_n, sws_c, lget, lset, fget, fset, nolg, nolong, avc, stw, cnd, isobj_eo, GCi, GCn, retk, List.length_cons, List.length_nil, ↓reduceIte, and_true, true_and, not_true_eq_false, not_false_eq_true, forall_const, Nat.reduceAdd, Nat.reduceLT, Nat.reduceLeDiff, Nat.lt_add_one, Nat.le_refl, Nat.zero_le, Nat.sub_zero, Int.reduceEq, Int.reduceNe, Int.reduceLT, Int.reduceLE, Int.reduceAdd, Int.reduceSub, Int.reduceMul, Int.reduceNeg, Int.reduceTDiv, Int.reduceTMod, ne_eq, reduceCtorEq, Nat.reduceEqDiff, Int.cast_ofNat_Int, true_or, or_true, false_or, or_false, lcq_0, lcq_2, lcq_3, lcq_4, lcq_5, mi_296, i296_768, i296_769, i296_770, i296_771, i296_772, i296_773, i296_774, i296_775, i296_776, i296_777, i296_778, i296_779, i296_782, i296_783, i296_784, i296_785, i296_786, i296_787, i296_788, i296_789, i296_790, i296_791, i296_792, i296_793, i296_796, i296_799, i296_800, k142, k268]
  exact hnext W'' hJ
set_option maxRecDepth 10000 in
theorem lw_19 (h0 : W.2 0 = ea 0 L X) (hx : isobj (W.2 67) 11) (hW : 192 ≤ W.1) (hi : i + 6 ≤ L) (hL : L ≤ 3072) (hbc : 0 ≤ bc) (hbs : 0 ≤ bs) (hcall : CallOK J W 147 272 [vi (X (i + 1))])
    (hnext : ∀ W'', J W'' → G 296 1266 [some (vr 0), some (vr 67), some (vr 148), some (vi (i : Int))] [] W'' (bc - 0) (bs - 0) Q) : G 296 801 [some (vr 0), some (vr 67), some (vr 148), some (vi (i : Int))] [] W bc bs Q := by
  have e1 : ((i : Int) + 1).toNat = i + 1 := by omega
  have w0 : 0 < W.1 := by omega
  have w1 : 67 < W.1 := by omega
  have w2 : 148 < W.1 := by omega
  rw [i296_801]
  simp only [s_1, s_2, s_3, s_4, s_76, s_5, s_6, s_7, s_8, s_9, s_10, s_11, s_12, s_13, s_14, s_15, s_16, s_17, s_18, s_19, s_20, s_21, s_22, s_23, s_24, s_25, s_26, s_27, s_28, s_29, s_30, s_31, s_32, s_33, s_34, s_35, s_36, s_37, s_38, s_39, s_40l, s_40i, s_40r, s_41, s_43, t_44, t_45, t_46, t_47, s_48, s_49, s_50, s_51, s_52, s_53, s_54, s_55, s_56, s_57, s_58, s_59, s_60, s_61, s_62_0, s_62_1, s_62_2, s_66, s_67, s_68, s_69, s_70, s_71, s_72, s_73, sws_n, sws_c, lget, lset, fget, fset, nolg, nolong, avc, stw, cnd, isobj_eo, GCi, GCn, retk, List.length_cons, List.length_nil, ↓reduceIte, and_true, true_and, not_true_eq_false, not_false_eq_true, forall_const, Nat.reduceAdd, Nat.reduceLT, Nat.reduceLeDiff, Nat.lt_add_one, Nat.le_refl, Nat.zero_le, Nat.sub_zero, Int.reduceEq, Int.reduceNe, Int.reduceLT, Int.reduceLE, Int.reduceAdd, Int.reduceSub, Int.reduceMul, Int.reduceNeg, Int.reduceTDiv, Int.reduceTMod, ne_eq, reduceCtorEq, Nat.reduceEqDiff, Int.cast_ofNat_Int, true_or, or_true, false_or, or_false, lcq_0, lcq_2, lcq_3, lcq_4, lcq_5, mi_296, i296_801, i296_802, i296_803, i296_804, i296_805, i296_806, i296_807, i296_810, i296_811, i296_812, i296_813, i296_814, i296_815, i296_816, i296_819, i296_822, i296_823, k147, k272, h0, hx, w0, w1, hbc, hbs, in32, e1]
  refine ⟨by omega, by omega, by omega, ?_⟩
  refine Gm_post hcall (fun r W' hr => ?_)
  obtain ⟨h1, h2, h3, z, rfl, hG⟩ := hr
  have h4 : W'.2 0 = ea 0 L X := h3.trans h0
  have v0 : 0 < W'.1 := by omega
  have v2 : 148 < W'.1 := by omega
  simp only [s_1, s_2, s_3, s_4, s_76, s_5, s_6, s_7, s_8, s_9, s_10, s_11, s_12, s_13, s_14, s_15, s_16, s_17, s_18, s_19, s_20, s_21, s_22, s_23, s_24, s_25, s_26, s_27, s_28, s_29, s_30, s_31, s_32, s_33, s_34, s_35, s_36, s_37, s_38, s_39, s_40l, s_40i, s_40r, s_41, s_43, t_44, t_45, t_46, t_47, s_48, s_49, s_50, s_51, s_52, s_53, s_54, s_55, s_56, s_57, s_58, s_59, s_60, s_61, s_62_0, s_62_1, s_62_2, s_66, s_67, s_68, s_69, s_70, s_71, s_72, s_73, sws_n, sws_c, lget, lset, fget, fset, nolg, nolong, avc, stw, cnd, isobj_eo, GCi, GCn, retk, List.length_cons, List.length_nil, ↓reduceIte, and_true, true_and, not_true_eq_false, not_false_eq_true, forall_const, Nat.reduceAdd, Nat.reduceLT, Nat.reduceLeDiff, Nat.lt_add_one, Nat.le_refl, Nat.zero_le, Nat.sub_zero, Int.reduceEq, Int.reduceNe, Int.reduceLT, Int.reduceLE, Int.reduceAdd, Int.reduceSub, Int.reduceMul, Int.reduceNeg, Int.reduceTDiv, Int.reduceTMod, ne_eq, reduceCtorEq, Nat.reduceEqDiff, Int.cast_ofNat_Int, true_or, or_true, false_or, or_false, lcq_0, lcq_2, lcq_3, lcq_4, lcq_5, mi_296, i296_801, i296_802, i296_803, i296_804, i296_805, i296_806, i296_807, i296_810, i296_811, i296_812, i296_813, i296_814, i296_815, i296_816, i296_819, i296_822, i296_823, k147, k272, h4, h1, v0, v2, in32, e1]
  refine ⟨by omega, by omega, by omega, ?_⟩
  refine Gm_post hG (fun r' W'' hr => ?_)
  obtain ⟨rfl, hJ⟩ := hr
  simp only [s_1, s_2, s_3, s_4, s_76, s_5, s_6, s_7, s_8, s_9, s_10, s_11, s_12, s_13, s_14, s_15, s_16, s_17, s_18, s_19, s_20, s_21, s_22, s_23, s_24, s_25, s_26, s_27, s_28, s_29, s_30, s_31, s_32, s_33, s_34, s_35, s_36, s_37, s_38, s_39, s_40l, s_40i, s_40r, s_41, s_43, t_44, t_45, t_46, t_47, s_48, s_49, s_50, s_51, s_52, s_53, s_54, s_55, s_56, s_57, s_58, s_59, s_60, s_61, s_62_0, s_62_1, s_62_2, s_66, s_67, s_68, s_69, s_70, s_71, s_72, s_73, sws_n, sws_c, lget, lset, fget, fset, nolg, nolong, avc, stw, cnd, isobj_eo, GCi, GCn, retk, List.length_cons, List.length_nil, ↓reduceIte, and_true, true_and, not_true_eq_false, not_false_eq_true, forall_const, Nat.reduceAdd, Nat.reduceLT, Nat.reduceLeDiff, Nat.lt_add_one, Nat.le_refl, Nat.zero_le, Nat.sub_zero, Int.reduceEq, Int.reduceNe, Int.reduceLT, Int.reduceLE, Int.reduceAdd, Int.reduceSub, Int.reduceMul, Int.reduceNeg, Int.reduceTDiv, Int.reduceTMod, ne_eq, reduceCtorEq, Nat.reduceEqDiff, Int.cast_ofNat_Int, true_or, or_true, false_or, or_false, lcq_0, lcq_2, lcq_3, lcq_4, lcq_5, mi_296, i296_801, i296_802, i296_803, i296_804, i296_805, i296_806, i296_807, i296_810, i296_811, i296_812, i296_813, i296_814, i296_815, i296_816, i296_819, i296_822, i296_823, k147, k272]
  exact hnext W'' hJ
set_option maxRecDepth 10000 in
theorem lw_20 (h0 : W.2 0 = ea 0 L X) (hx : isobj (W.2 67) 11) (hW : 192 ≤ W.1) (hi : i + 6 ≤ L) (hL : L ≤ 3072) (hbc : 0 ≤ bc) (hbs : 0 ≤ bs) (hcall : CallOK J W 150 273 [vi (X (i + 1))])
    (hnext : ∀ W'', J W'' → G 296 1266 [some (vr 0), some (vr 67), some (vr 148), some (vi (i : Int))] [] W'' (bc - 0) (bs - 0) Q) : G 296 824 [some (vr 0), some (vr 67), some (vr 148), some (vi (i : Int))] [] W bc bs Q := by
  have e1 : ((i : Int) + 1).toNat = i + 1 := by omega
  have w0 : 0 < W.1 := by omega
  have w1 : 67 < W.1 := by omega
  have w2 : 148 < W.1 := by omega
  rw [i296_824]
  simp only [s_1, s_2, s_3, s_4, s_76, s_5, s_6, s_7, s_8, s_9, s_10, s_11, s_12, s_13, s_14, s_15, s_16, s_17, s_18, s_19, s_20, s_21, s_22, s_23, s_24, s_25, s_26, s_27, s_28, s_29, s_30, s_31, s_32, s_33, s_34, s_35, s_36, s_37, s_38, s_39, s_40l, s_40i, s_40r, s_41, s_43, t_44, t_45, t_46, t_47, s_48, s_49, s_50, s_51, s_52, s_53, s_54, s_55, s_56, s_57, s_58, s_59, s_60, s_61, s_62_0, s_62_1, s_62_2, s_66, s_67, s_68, s_69, s_70, s_71, s_72, s_73, sws_n, sws_c, lget, lset, fget, fset, nolg, nolong, avc, stw, cnd, isobj_eo, GCi, GCn, retk, List.length_cons, List.length_nil, ↓reduceIte, and_true, true_and, not_true_eq_false, not_false_eq_true, forall_const, Nat.reduceAdd, Nat.reduceLT, Nat.reduceLeDiff, Nat.lt_add_one, Nat.le_refl, Nat.zero_le, Nat.sub_zero, Int.reduceEq, Int.reduceNe, Int.reduceLT, Int.reduceLE, Int.reduceAdd, Int.reduceSub, Int.reduceMul, Int.reduceNeg, Int.reduceTDiv, Int.reduceTMod, ne_eq, reduceCtorEq, Nat.reduceEqDiff, Int.cast_ofNat_Int, true_or, or_true, false_or, or_false, lcq_0, lcq_2, lcq_3, lcq_4, lcq_5, mi_296, i296_824, i296_825, i296_826, i296_827, i296_828, i296_829, i296_830, i296_833, i296_834, i296_835, i296_836, i296_837, i296_838, i296_839, i296_842, i296_845, i296_846, k150, k273, h0, hx, w0, w1, hbc, hbs, in32, e1]
  refine ⟨by omega, by omega, by omega, ?_⟩
  refine Gm_post hcall (fun r W' hr => ?_)
  obtain ⟨h1, h2, h3, z, rfl, hG⟩ := hr
  have h4 : W'.2 0 = ea 0 L X := h3.trans h0
  have v0 : 0 < W'.1 := by omega
  have v2 : 148 < W'.1 := by omega
  simp only [s_1, s_2, s_3, s_4, s_76, s_5, s_6, s_7, s_8, s_9, s_10, s_11, s_12, s_13, s_14, s_15, s_16, s_17, s_18, s_19, s_20, s_21, s_22, s_23, s_24, s_25, s_26, s_27, s_28, s_29, s_30, s_31, s_32, s_33, s_34, s_35, s_36, s_37, s_38, s_39, s_40l, s_40i, s_40r, s_41, s_43, t_44, t_45, t_46, t_47, s_48, s_49, s_50, s_51, s_52, s_53, s_54, s_55, s_56, s_57, s_58, s_59, s_60, s_61, s_62_0, s_62_1, s_62_2, s_66, s_67, s_68, s_69, s_70, s_71, s_72, s_73, sws_n, sws_c, lget, lset, fget, fset, nolg, nolong, avc, stw, cnd, isobj_eo, GCi, GCn, retk, List.length_cons, List.length_nil, ↓reduceIte, and_true, true_and, not_true_eq_false, not_false_eq_true, forall_const, Nat.reduceAdd, Nat.reduceLT, Nat.reduceLeDiff, Nat.lt_add_one, Nat.le_refl, Nat.zero_le, Nat.sub_zero, Int.reduceEq, Int.reduceNe, Int.reduceLT, Int.reduceLE, Int.reduceAdd, Int.reduceSub, Int.reduceMul, Int.reduceNeg, Int.reduceTDiv, Int.reduceTMod, ne_eq, reduceCtorEq, Nat.reduceEqDiff, Int.cast_ofNat_Int, true_or, or_true, false_or, or_false, lcq_0, lcq_2, lcq_3, lcq_4, lcq_5, mi_296, i296_824, i296_825, i296_826, i296_827, i296_828, i296_829, i296_830, i296_833, i296_834, i296_835, i296_836, i296_837, i296_838, i296_839, i296_842, i296_845, i296_846, k150, k273, h4, h1, v0, v2, in32, e1]
  refine ⟨by omega, by omega, by omega, ?_⟩
  refine Gm_post hG (fun r' W'' hr => ?_)
  obtain ⟨rfl, hJ⟩ := hr
  simp only [s_1, s_2, s_3, s_4, s_76, s_5, s_6, s_7, s_8, s_9, s_10, s_11, s_12, s_13, s_14, s_15, s_16, s_17, s_18, s_19, s_20, s_21, s_22, s_23, s_24, s_25, s_26, s_27, s_28, s_29, s_30, s_31, s_32, s_33, s_34, s_35, s_36, s_37, s_38, s_39, s_40l, s_40i, s_40r, s_41, s_43, t_44, t_45, t_46, t_47, s_48, s_49, s_50, s_51, s_52, s_53, s_54, s_55, s_56, s_57, s_58, s_59, s_60, s_61, s_62_0, s_62_1, s_62_2, s_66, s_67, s_68, s_69, s_70, s_71, s_72, s_73, sws_n, sws_c, lget, lset, fget, fset, nolg, nolong, avc, stw, cnd, isobj_eo, GCi, GCn, retk, List.length_cons, List.length_nil, ↓reduceIte, and_true, true_and, not_true_eq_false, not_false_eq_true, forall_const, Nat.reduceAdd, Nat.reduceLT, Nat.reduceLeDiff, Nat.lt_add_one, Nat.le_refl, Nat.zero_le, Nat.sub_zero, Int.reduceEq, Int.reduceNe, Int.reduceLT, Int.reduceLE, Int.reduceAdd, Int.reduceSub, Int.reduceMul, Int.reduceNeg, Int.reduceTDiv, Int.reduceTMod, ne_eq, reduceCtorEq, Nat.reduceEqDiff, Int.cast_ofNat_Int, true_or, or_true, false_or, or_false, lcq_0, lcq_2, lcq_3, lcq_4, lcq_5, mi_296, i296_824, i296_825, i296_826, i296_827, i296_828, i296_829, i296_830, i296_833, i296_834, i296_835, i296_836, i296_837, i296_838, i296_839, i296_842, i296_845, i296_846, k150, k273]
  exact hnext W'' hJ
set_option maxRecDepth 10000 in
theorem lw_21 (h0 : W.2 0 = ea 0 L X) (hx : isobj (W.2 67) 11) (hW : 192 ≤ W.1) (hi : i + 6 ≤ L) (hL : L ≤ 3072) (hbc : 0 ≤ bc) (hbs : 0 ≤ bs) (hcall : CallOK J W 152 274 [vi (X (i + 1))])
    (hnext : ∀ W'', J W'' → G 296 1266 [some (vr 0), some (vr 67), some (vr 148), some (vi (i : Int))] [] W'' (bc - 0) (bs - 0) Q) : G 296 847 [some (vr 0), some (vr 67), some (vr 148), some (vi (i : Int))] [] W bc bs Q := by
  have e1 : ((i : Int) + 1).toNat = i + 1 := by omega
  have w0 : 0 < W.1 := by omega
  have w1 : 67 < W.1 := by omega
  have w2 : 148 < W.1 := by omega
  rw [i296_847]
  simp only [s_1, s_2, s_3, s_4, s_76, s_5, s_6, s_7, s_8, s_9, s_10, s_11, s_12, s_13, s_14, s_15, s_16, s_17, s_18, s_19, s_20, s_21, s_22, s_23, s_24, s_25, s_26, s_27, s_28, s_29, s_30, s_31, s_32, s_33, s_34, s_35, s_36, s_37, s_38, s_39, s_40l, s_40i, s_40r, s_41, s_43, t_44, t_45, t_46, t_47, s_48, s_49, s_50, s_51, s_52, s_53, s_54, s_55, s_56, s_57, s_58, s_59, s_60, s_61, s_62_0, s_62_1, s_62_2, s_66, s_67, s_68, s_69, s_70, s_71, s_72, s_73, sws_n, sws_c, lget, lset, fget, fset, nolg, nolong, avc, stw, cnd, isobj_eo, GCi, GCn, retk, List.length_cons, List.length_nil, ↓reduceIte, and_true, true_and, not_true_eq_false, not_false_eq_true, forall_const, Nat.reduceAdd, Nat.reduceLT, Nat.reduceLeDiff, Nat.lt_add_one, Nat.le_refl, Nat.zero_le, Nat.sub_zero, Int.reduceEq, Int.reduceNe, Int.reduceLT, Int.reduceLE, Int.reduceAdd, Int.reduceSub, Int.reduceMul, Int.reduceNeg, Int.reduceTDiv, Int.reduceTMod, ne_eq, reduceCtorEq, Nat.reduceEqDiff, Int.cast_ofNat_Int, true_or, or_true, false_or, or_false, lcq_0, lcq_2, lcq_3, lcq_4, lcq_5, mi_296, i296_847, i296_848, i296_849, i296_850, i296_851, i296_852, i296_853, i296_856, i296_857, i296_858, i296_859, i296_860, i296_861, i296_862, i296_865, i296_868, i296_869, k152, k274, h0, hx, w0, w1, hbc, hbs, in32, e1]
  refine ⟨by omega, by omega, by omega, ?_⟩
  refine Gm_post hcall (fun r W' hr => ?_)
  obtain ⟨h1, h2, h3, z, rfl, hG⟩ := hr
  have h4 : W'.2 0 = ea 0 L X := h3.trans h0
  have v0 : 0 < W'.1 := by omega
  have v2 : 148 < W'.1 := by omega
  simp only [s_1, s_2, s_3, s_4, s_76, s_5, s_6, s_7, s_8, s_9, s_10, s_11, s_12, s_13, s_14, s_15, s_16, s_17, s_18, s_19, s_20, s_21, s_22, s_23, s_24, s_25, s_26, s_27, s_28, s_29, s_30, s_31, s_32, s_33, s_34, s_35, s_36, s_37, s_38, s_39, s_40l, s_40i, s_40r, s_41, s_43, t_44, t_45, t_46, t_47, s_48, s_49, s_50, s_51, s_52, s_53, s_54, s_55, s_56, s_57, s_58, s_59, s_60, s_61, s_62_0, s_62_1, s_62_2, s_66, s_67, s_68, s_69, s_70, s_71, s_72, s_73, sws_n, sws_c, lget, lset, fget, fset, nolg, nolong, avc, stw, cnd, isobj_eo, GCi, GCn, retk, List.length_cons, List.length_nil, ↓reduceIte, and_true, true_and, not_true_eq_false, not_false_eq_true, forall_const, Nat.reduceAdd, Nat.reduceLT, Nat.reduceLeDiff, Nat.lt_add_one, Nat.le_refl, Nat.zero_le, Nat.sub_zero, Int.reduceEq, Int.reduceNe, Int.reduceLT, Int.reduceLE, Int.reduceAdd, Int.reduceSub, Int.reduceMul, Int.reduceNeg, Int.reduceTDiv, Int.reduceTMod, ne_eq, reduceCtorEq, Nat.reduceEqDiff, Int.cast_ofNat_Int, true_or, or_true, false_or, or_false, lcq_0, lcq_2, lcq_3, lcq_4, lcq_5, mi_296, i296_847, i296_848, i296_849, i296_850, i296_851, i296_852, i296_853, i296_856, i296_857, i296_858, i296_859, i296_860, i296_861, i296_862, i296_865, i296_868, i296_869, k152, k274, h4, h1, v0, v2, in32, e1]
  refine ⟨by omega, by omega, by omega, ?_⟩
  refine Gm_post hG (fun r' W'' hr => ?_)
  obtain ⟨rfl, hJ⟩ := hr
  simp only [s_1, s_2, s_3, s_4, s_76, s_5, s_6, s_7, s_8, s_9, s_10, s_11, s_12, s_13, s_14, s_15, s_16, s_17, s_18, s_19, s_20, s_21, s_22, s_23, s_24, s_25, s_26, s_27, s_28, s_29, s_30, s_31, s_32, s_33, s_34, s_35, s_36, s_37, s_38, s_39, s_40l, s_40i, s_40r, s_41, s_43, t_44, t_45, t_46, t_47, s_48, s_49, s_50, s_51, s_52, s_53, s_54, s_55, s_56, s_57, s_58, s_59, s_60, s_61, s_62_0, s_62_1, s_62_2, s_66, s_67, s_68, s_69, s_70, s_71, s_72, s_73, sws_n, sws_c, lget, lset, fget, fset, nolg, nolong, avc, stw, cnd, isobj_eo, GCi, GCn, retk, List.length_cons, List.length_nil, ↓reduceIte, and_true, true_and, not_true_eq_false, not_false_eq_true, forall_const, Nat.reduceAdd, Nat.reduceLT, Nat.reduceLeDiff, Nat.lt_add_one, Nat.le_refl, Nat.zero_le, Nat.sub_zero, Int.reduceEq, Int.reduceNe, Int.reduceLT, Int.reduceLE, Int.reduceAdd, Int.reduceSub, Int.reduceMul, Int.reduceNeg, Int.reduceTDiv, Int.reduceTMod, ne_eq, reduceCtorEq, Nat.reduceEqDiff, Int.cast_ofNat_Int, true_or, or_true, false_or, or_false, lcq_0, lcq_2, lcq_3, lcq_4, lcq_5, mi_296, i296_847, i296_848, i296_849, i296_850, i296_851, i296_852, i296_853, i296_856, i296_857, i296_858, i296_859, i296_860, i296_861, i296_862, i296_865, i296_868, i296_869, k152, k274]
  exact hnext W'' hJ
set_option maxRecDepth 10000 in
theorem lw_22 (h0 : W.2 0 = ea 0 L X) (hx : isobj (W.2 67) 11) (hW : 192 ≤ W.1) (hi : i + 6 ≤ L) (hL : L ≤ 3072) (hbc : 0 ≤ bc) (hbs : 0 ≤ bs) (hcall : CallOK J W 153 279 [vi (X (i + 1)), vi (X (i + 2)), vi (X (i + 3))])
    (hnext : ∀ W'', J W'' → G 296 1266 [some (vr 0), some (vr 67), some (vr 148), some (vi (i : Int))] [] W'' (bc - 0) (bs - 0) Q) : G 296 870 [some (vr 0), some (vr 67), some (vr 148), some (vi (i : Int))] [] W bc bs Q := by
  have e1 : ((i : Int) + 1).toNat = i + 1 := by omega
  have e2 : ((i : Int) + 2).toNat = i + 2 := by omega
  have e3 : ((i : Int) + 3).toNat = i + 3 := by omega
  have w0 : 0 < W.1 := by omega
  have w1 : 67 < W.1 := by omega
  have w2 : 148 < W.1 := by omega
  rw [i296_870]
  simp only [s_1, s_2, s_3, s_4, s_76, s_5, s_6, s_7, s_8, s_9, s_10, s_11, s_12, s_13, s_14, s_15, s_16, s_17, s_18, s_19, s_20, s_21, s_22, s_23, s_24, s_25, s_26, s_27, s_28, s_29, s_30, s_31, s_32, s_33, s_34, s_35, s_36, s_37, s_38, s_39, s_40l, s_40i, s_40r, s_41, s_43, t_44, t_45, t_46, t_47, s_48, s_49, s_50, s_51, s_52, s_53, s_54, s_55, s_56, s_57, s_58, s_59, s_60, s_61, s_62_0, s_62_1, s_62_2, s_66, s_67, s_68, s_69, s_70, s_71, s_72, s_73, sws_n, sws_c, lget, lset, fget, fset, nolg, nolong, avc, stw, cnd, isobj_eo, GCi, GCn, retk, List.length_cons, List.length_nil, ↓reduceIte, and_true, true_and, not_true_eq_false, not_false_eq_true, forall_const, Nat.reduceAdd, Nat.reduceLT, Nat.reduceLeDiff, Nat.lt_add_one, Nat.le_refl, Nat.zero_le, Nat.sub_zero, Int.reduceEq, Int.reduceNe, Int.reduceLT, Int.reduceLE, Int.reduceAdd, Int.reduceSub, Int.reduceMul, Int.reduceNeg, Int.reduceTDiv, Int.reduceTMod, ne_eq, reduceCtorEq, Nat.reduceEqDiff, Int.cast_ofNat_Int, true_or, or_true, false_or, or_false, lcq_0, lcq_2, lcq_3, lcq_4, lcq_5, mi_296, i296_870, i296_871, i296_872, i296_873, i296_874, i296_875, i296_876, i296_877, i296_878, i296_879, i296_880, i296_881, i296_882, i296_883, i296_884, i296_885, i296_886, i296_889, i296_890, i296_891, i296_892, i296_893, i296_894, i296_895, i296_896, i296_897, i296_898, i296_899, i296_900, i296_901, i296_902, i296_903, i296_904, i296_905, i296_908, i296_911, i296_912, k153, k279, h0, hx, w0, w1, hbc, hbs, in32, e1, e2, e3]
  refine ⟨by omega, by omega, by omega, ?_⟩
  refine ⟨by omega, by omega, by omega, ?_⟩
  refine ⟨by omega, by omega, by omega, ?_⟩
  refine Gm_post hcall (fun r W' hr => ?_)
  obtain ⟨h1, h2, h3, z, rfl, hG⟩ := hr
  have h4 : W'.2 0 = ea 0 L X := h3.trans h0
  have v0 : 0 < W'.1 := by omega
  have v2 : 148 < W'.1 := by omega
  simp only [s_1, s_2, s_3, s_4, s_76, s_5, s_6, s_7, s_8, s_9, s_10, s_11, s_12, s_13, s_14, s_15, s_16, s_17, s_18, s_19, s_20, s_21, s_22, s_23, s_24, s_25, s_26, s_27, s_28, s_29, s_30, s_31, s_32, s_33, s_34, s_35, s_36, s_37, s_38, s_39, s_40l, s_40i, s_40r, s_41, s_43, t_44, t_45, t_46, t_47, s_48, s_49, s_50, s_51, s_52, s_53, s_54, s_55, s_56, s_57, s_58, s_59, s_60, s_61, s_62_0, s_62_1, s_62_2, s_66, s_67, s_68, s_69, s_70, s_71, s_72, s_73, sws_n, sws_c, lget, lset, fget, fset, nolg, nolong, avc, stw, cnd, isobj_eo, GCi, GCn, retk, List.length_cons, List.length_nil, ↓reduceIte, and_true, true_and, not_true_eq_false, not_false_eq_true, forall_const, Nat.reduceAdd, Nat.reduceLT, Nat.reduceLeDiff, Nat.lt_add_one, Nat.le_refl, Nat.zero_le, Nat.sub_zero, Int.reduceEq, Int.reduceNe, Int.reduceLT, Int.reduceLE, Int.reduceAdd, Int.reduceSub, Int.reduceMul, Int.reduceNeg, Int.reduceTDiv, Int.reduceTMod, ne_eq, reduceCtorEq, Nat.reduceEqDiff, Int.cast_ofNat_Int, true_or, or_true, false_or, or_false, lcq_0, lcq_2, lcq_3, lcq_4, lcq_5, mi_296, i296_870, i296_871, i296_872, i296_873, i296_874, i296_875, i296_876, i296_877, i296_878, i296_879, i296_880, i296_881, i296_882, i296_883, i296_884, i296_885, i296_886, i296_889, i296_890, i296_891, i296_892, i296_893, i296_894, i296_895, i296_896, i296_897, i296_898, i296_899, i296_900, i296_901, i296_902, i296_903, i296_904, i296_905, i296_908, i296_911, i296_912, k153, k279, h4, h1, v0, v2, in32, e1, e2, e3]
  refine ⟨by omega, by omega, by omega, ?_⟩
  refine ⟨by omega, by omega, by omega, ?_⟩
  refine ⟨by omega, by omega, by omega, ?_⟩
  refine Gm_post hG (fun r' W'' hr => ?_)
  obtain ⟨rfl, hJ⟩ := hr
  simp only [s_1, s_2, s_3, s_4, s_76, s_5, s_6, s_7, s_8, s_9, s_10, s_11, s_12, s_13, s_14, s_15, s_16, s_17, s_18, s_19, s_20, s_21, s_22, s_23, s_24, s_25, s_26, s_27, s_28, s_29, s_30, s_31, s_32, s_33, s_34, s_35, s_36, s_37, s_38, s_39, s_40l, s_40i, s_40r, s_41, s_43, t_44, t_45, t_46, t_47, s_48, s_49, s_50, s_51, s_52, s_53, s_54, s_55, s_56, s_57, s_58, s_59, s_60, s_61, s_62_0, s_62_1, s_62_2, s_66, s_67, s_68, s_69, s_70, s_71, s_72, s_73, sws_n, sws_c, lget, lset, fget, fset, nolg, nolong, avc, stw, cnd, isobj_eo, GCi, GCn, retk, List.length_cons, List.length_nil, ↓reduceIte, and_true, true_and, not_true_eq_false, not_false_eq_true, forall_const, Nat.reduceAdd, Nat.reduceLT, Nat.reduceLeDiff, Nat.lt_add_one, Nat.le_refl, Nat.zero_le, Nat.sub_zero, Int.reduceEq, Int.reduceNe, Int.reduceLT, Int.reduceLE, Int.reduceAdd, Int.reduceSub, Int.reduceMul, Int.reduceNeg, Int.reduceTDiv, Int.reduceTMod, ne_eq, reduceCtorEq, Nat.reduceEqDiff, Int.cast_ofNat_Int, true_or, or_true, false_or, or_false, lcq_0, lcq_2, lcq_3, lcq_4, lcq_5, mi_296, i296_870, i296_871, i296_872, i296_873, i296_874, i296_875, i296_876, i296_877, i296_878, i296_879, i296_880, i296_881, i296_882, i296_883, i296_884, i296_885, i296_886, i296_889, i296_890, i296_891, i296_892, i296_893, i296_894, i296_895, i296_896, i296_897, i296_898, i296_899, i296_900, i296_901, i296_902, i296_903, i296_904, i296_905, i296_908, i296_911, i296_912, k153, k279]
  exact hnext W'' hJ
set_option maxRecDepth 10000 in
theorem lw_23 (h0 : W.2 0 = ea 0 L X) (hx : isobj (W.2 67) 11) (hW : 192 ≤ W.1) (hi : i + 6 ≤ L) (hL : L ≤ 3072) (hbc : 0 ≤ bc) (hbs : 0 ≤ bs) (hcall : CallOK J W 156 283 [vi (X (i + 1)), vi (X (i + 2)), vi (X (i + 3))])
    (hnext : ∀ W'', J W'' → G 296 1266 [some (vr 0), some (vr 67), some (vr 148), some (vi (i : Int))] [] W'' (bc - 0) (bs - 0) Q) : G 296 913 [some (vr 0), some (vr 67), some (vr 148), some (vi (i : Int))] [] W bc bs Q := by
  have e1 : ((i : Int) + 1).toNat = i + 1 := by omega
  have e2 : ((i : Int) + 2).toNat = i + 2 := by omega
  have e3 : ((i : Int) + 3).toNat = i + 3 := by omega
  have w0 : 0 < W.1 := by omega
  have w1 : 67 < W.1 := by omega
  have w2 : 148 < W.1 := by omega
  rw [i296_913]
  simp only [s_1, s_2, s_3, s_4, s_76, s_5, s_6, s_7, s_8, s_9, s_10, s_11, s_12, s_13, s_14, s_15, s_16, s_17, s_18, s_19, s_20, s_21, s_22, s_23, s_24, s_25, s_26, s_27, s_28, s_29, s_30, s_31, s_32, s_33, s_34, s_35, s_36, s_37, s_38, s_39, s_40l, s_40i, s_40r, s_41, s_43, t_44, t_45, t_46, t_47, s_48, s_49, s_50, s_51, s_52, s_53, s_54, s_55, s_56, s_57, s_58, s_59, s_60, s_61, s_62_0, s_62_1, s_62_2, s_66, s_67, s_68, s_69, s_70, s_71, s_72, s_73, sws_n, sws_c, lget, lset, fget, fset, nolg, nolong, avc, stw, cnd, isobj_eo, GCi, GCn, retk, List.length_cons, List.length_nil, ↓reduceIte, and_true, true_and, not_true_eq_false, not_false_eq_true, forall_const, Nat.reduceAdd, Nat.reduceLT, Nat.reduceLeDiff, Nat.lt_add_one, Nat.le_refl, Nat.zero_le, Nat.sub_zero, Int.reduceEq, Int.reduceNe, Int.reduceLT, Int.reduceLE, Int.reduceAdd, Int.reduceSub, Int.reduceMul, Int.reduceNeg, Int.reduceTDiv, Int.reduceTMod, ne_eq, reduceCtorEq, Nat.reduceEqDiff, Int.cast_ofNat_Int, true_or, or_true, false_or, or_false, lcq_0, lcq_2, lcq_3, lcq_4, lcq_5, mi_296, i296_913, i296_914, i296_915, i296_916, i296_917, i296_918, i296_919, i296_920, i296_921, i296_922, i296_923, i296_924, i296_925, i296_926, i296_927, i296_928, i296_929, i296_932, i296_933, i296_934, i296_935, i296_936, i296_937, i296_938, i296_939, i296_940, i296_941, i296_942, i296_943, i296_944, i296_945, i296_946, i296_947, i296_948, i296_951, i296_954, i296_955, k156, k283, h0, hx, w0, w1, hbc, hbs, in32, e1, e2, e3]
  refine ⟨by omega, by omega, by omega, ?_⟩
  refine ⟨by omega, by omega, by omega, ?_⟩
  refine ⟨by omega, by omega, by omega, ?_⟩
  refine Gm_post hcall (fun r W' hr => ?_)
  obtain ⟨h1, h2, h3, z, rfl, hG⟩ := hr
  have h4 : W'.2 0 = ea 0 L X := h3.trans h0
  have v0 : 0 < W'.1 := by omega
  have v2 : 148 < W'.1 := by omega
  simp only [s_1, s_2, s_3, s_4, s_76, s_5, s_6, s_7, s_8, s_9, s_10, s_11, s_12, s_13, s_14, s_15, s_16, s_17, s_18, s_19, s_20, s_21, s_22, s_23, s_24, s_25, s_26, s_27, s_28, s_29, s_30, s_31, s_32, s_33, s_34, s_35, s_36, s_37, s_38, s_39, s_40l, s_40i, s_40r, s_41, s_43, t_44, t_45, t_46, t_47, s_48, s_49, s_50, s_51, s_52, s_53, s_54, s_55, s_56, s_57, s_58, s_59, s_60, s_61, s_62_0, s_62_1, s_62_2, s_66, s_67, s_68, s_69, s_70, s_71, s_72, s_73, sws_n, sws_c, lget, lset, fget, fset, nolg, nolong, avc, stw, cnd, isobj_eo, GCi, GCn, retk, List.length_cons, List.length_nil, ↓reduceIte, and_true, true_and, not_true_eq_false, not_false_eq_true, forall_const, Nat.reduceAdd, Nat.reduceLT, Nat.reduceLeDiff, Nat.lt_add_one, Nat.le_refl, Nat.zero_le, Nat.sub_zero, Int.reduceEq, Int.reduceNe, Int.reduceLT, Int.reduceLE, Int.reduceAdd, Int.reduceSub, Int.reduceMul, Int.reduceNeg, Int.reduceTDiv, Int.reduceTMod, ne_eq, reduceCtorEq, Nat.reduceEqDiff, Int.cast_ofNat_Int, true_or, or_true, false_or, or_false, lcq_0, lcq_2, lcq_3, lcq_4, lcq_5, mi_296, i296_913, i296_914, i296_915, i296_916, i296_917, i296_918, i296_919, i296_920, i296_921, i296_922, i296_923, i296_924, i296_925, i296_926, i296_927, i296_928, i296_929, i296_932, i296_933, i296_934, i296_935, i296_936, i296_937, i296_938, i296_939, i296_940, i296_941, i296_942, i296_943, i296_944, i296_945, i296_946, i296_947, i296_948, i296_951, i296_954, i296_955, k156, k283, h4, h1, v0, v2, in32, e1, e2, e3]
  refine ⟨by omega, by omega, by omega, ?_⟩
  refine ⟨by omega, by omega, by omega, ?_⟩
  refine ⟨by omega, by omega, by omega, ?_⟩
  refine Gm_post hG (fun r' W'' hr => ?_)
  obtain ⟨rfl, hJ⟩ := hr
  simp only [s_1, s_2, s_3, s_4, s_76, s_5, s_6, s_7, s_8, s_9, s_10, s_11, s_12, s_13, s_14, s_15, s_16, s_17, s_18, s_19, s_20, s_21, s_22, s_23, s_24, s_25, s_26, s_27, s_28, s_29, s_30, s_31, s_32, s_33, s_34, s_35, s_36, s_37, s_38, s_39, s_40l, s_40i, s_40r, s_41, s_43, t_44, t_45, t_46, t_47, s_48, s_49, s_50, s_51, s_52, s_53, s_54, s_55, s_56, s_57, s_58, s_59, s_60, s_61, s_62_0, s_62_1, s_62_2, s_66, s_67, s_68, s_69, s_70, s_71, s_72, s_73, sws_n, sws_c, lget, lset, fget, fset, nolg, nolong, avc, stw, cnd, isobj_eo, GCi, GCn, retk, List.length_cons, List.length_nil, ↓reduceIte, and_true, true_and, not_true_eq_false, not_false_eq_true, forall_const, Nat.reduceAdd, Nat.reduceLT, Nat.reduceLeDiff, Nat.lt_add_one, Nat.le_refl, Nat.zero_le, Nat.sub_zero, Int.reduceEq, Int.reduceNe, Int.reduceLT, Int.reduceLE, Int.reduceAdd, Int.reduceSub, Int.reduceMul, Int.reduceNeg, Int.reduceTDiv, Int.reduceTMod, ne_eq, reduceCtorEq, Nat.reduceEqDiff, Int.cast_ofNat_Int, true_or, or_true, false_or, or_false, lcq_0, lcq_2, lcq_3, lcq_4, lcq_5, mi_296, i296_913, i296_914, i296_915, i296_916, i296_917, i296_918, i296_919, i296_920, i296_921, i296_922, i296_923, i296_924, i296_925, i296_926, i296_927, i296_928, i296_929, i296_932, i296_933, i296_934, i296_935, i296_936, i296_937, i296_938, i296_939, i296_940, i296_941, i296_942, i296_943, i296_944, i296_945, i296_946, i296_947, i296_948, i296_951, i296_954, i296_955, k156, k283]
  exact hnext W'' hJ
set_option maxRecDepth 10000 in
theorem lw_24 (h0 : W.2 0 = ea 0 L X) (hx : isobj (W.2 67) 11) (hW : 192 ≤ W.1) (hi : i + 6 ≤ L) (hL : L ≤ 3072) (hbc : 0 ≤ bc) (hbs : 0 ≤ bs) (hcall : CallOK J W 157 284 [vi (X (i + 1)), vi (X (i + 2))])
    (hnext : ∀ W'', J W'' → G 296 1266 [some (vr 0), some (vr 67), some (vr 148), some (vi (i : Int))] [] W'' (bc - 0) (bs - 0) Q) : G 296 956 [some (vr 0), some (vr 67), some (vr 148), some (vi (i : Int))] [] W bc bs Q := by
  have e1 : ((i : Int) + 1).toNat = i + 1 := by omega
  have e2 : ((i : Int) + 2).toNat = i + 2 := by omega
  have w0 : 0 < W.1 := by omega
  have w1 : 67 < W.1 := by omega
  have w2 : 148 < W.1 := by omega
  rw [i296_956]
  simp only [s_1, s_2, s_3, s_4, s_76, s_5, s_6, s_7, s_8, s_9, s_10, s_11, s_12, s_13, s_14, s_15, s_16, s_17, s_18, s_19, s_20, s_21, s_22, s_23, s_24, s_25, s_26, s_27, s_28, s_29, s_30, s_31, s_32, s_33, s_34, s_35, s_36, s_37, s_38, s_39, s_40l, s_40i, s_40r, s_41, s_43, t_44, t_45, t_46, t_47, s_48, s_49, s_50, s_51, s_52, s_53, s_54, s_55, s_56, s_57, s_58, s_59, s_60, s_61, s_62_0, s_62_1, s_62_2, s_66, s_67, s_68, s_69, s_70, s_71, s_72, s_73, sws_n, sws_c, lget, lset, fget, fset, nolg, nolong, avc, stw, cnd, isobj_eo, GCi, GCn, retk, List.length_cons, List.length_nil, ↓reduceIte, and_true, true_and, not_true_eq_false, not_false_eq_true, forall_const, Nat.reduceAdd, Nat.reduceLT, Nat.reduceLeDiff, Nat.lt_add_one, Nat.le_refl, Nat.zero_le, Nat.sub_zero, Int.reduceEq, Int.reduceNe, Int.reduceLT, Int.reduceLE, Int.reduceAdd, Int.reduceSub, Int.reduceMul, Int.reduceNeg, Int.reduceTDiv, Int.reduceTMod, ne_eq, reduceCtorEq, Nat.reduceEqDiff, Int.cast_ofNat_Int, true_or, or_true, false_or, or_false, lcq_0, lcq_2, lcq_3, lcq_4, lcq_5, mi_296, i296_956, i296_957, i296_958, i296_959, i296_960, i296_961, i296_962, i296_963, i296_964, i296_965, i296_966, i296_967, i296_970, i296_971, i296_972, i296_973, i296_974, i296_975, i296_976, i296_977, i296_978, i296_979, i296_980, i296_981, i296_984, i296_987, i296_988, k157, k284, h0, hx, w0, w1, hbc, hbs, in32, e1, e2]
  refine ⟨by omega, by omega, by omega, ?_⟩
  refine ⟨by omega, by omega, by omega, ?_⟩
  refine Gm_post hcall (fun r W' hr => ?_)
  obtain ⟨h1, h2, h3, z, rfl, hG⟩ := hr
  have h4 : W'.2 0 = ea 0 L X := h3.trans h0
  have v0 : 0 < W'.1 := by omega
  have v2 : 148 < W'.1 := by omega
  simp only [s_1, s_2, s_3, s_4, s_76, s_5, s_6, s_7, s_8, s_9, s_10, s_11, s_12, s_13, s_14, s_15, s_16, s_17, s_18, s_19, s_20, s_21, s_22, s_23, s_24, s_25, s_26, s_27, s_28, s_29, s_30, s_31, s_32, s_33, s_34, s_35, s_36, s_37, s_38, s_39, s_40l, s_40i, s_40r, s_41, s_43, t_44, t_45, t_46, t_47, s_48, s_49, s_50, s_51, s_52, s_53, s_54, s_55, s_56, s_57, s_58, s_59, s_60, s_61, s_62_0, s_62_1, s_62_2, s_66, s_67, s_68, s_69, s_70, s_71, s_72, s_73, sws_n, sws_c, lget, lset, fget, fset, nolg, nolong, avc, stw, cnd, isobj_eo, GCi, GCn, retk, List.length_cons, List.length_nil, ↓reduceIte, and_true, true_and, not_true_eq_false, not_false_eq_true, forall_const, Nat.reduceAdd, Nat.reduceLT, Nat.reduceLeDiff, Nat.lt_add_one, Nat.le_refl, Nat.zero_le, Nat.sub_zero, Int.reduceEq, Int.reduceNe, Int.reduceLT, Int.reduceLE, Int.reduceAdd, Int.reduceSub, Int.reduceMul, Int.reduceNeg, Int.reduceTDiv, Int.reduceTMod, ne_eq, reduceCtorEq, Nat.reduceEqDiff, Int.cast_ofNat_Int, true_or, or_true, false_or, or_false, lcq_0, lcq_2, lcq_3, lcq_4, lcq_5, mi_296, i296_956, i296_957, i296_958, i296_959, i296_960, i296_961, i296_962, i296_963, i296_964, i296_965, i296_966, i296_967, i296_970, i296_971, i296_972, i296_973, i296_974, i296_975, i296_976, i296_977, i296_978, i296_979, i296_980, i296_981, i296_984, i296_987, i296_988, k157, k284, h4, h1, v0, v2, in32, e1, e2]
  refine ⟨by omega, by omega, by omega, ?_⟩
  refine ⟨by omega, by omega, by omega, ?_⟩
  refine Gm_post hG (fun r' W'' hr => ?_)
  obtain ⟨rfl, hJ⟩ := hr
  simp only [s_1, s_2, s_3, s_4, s_76, s_5, s_6, s_7, s_8, s_9, s_10, s_11, s_12, s_13, s_14, s_15, s_16, s_17, s_18, s_19, s_20, s_21, s_22, s_23, s_24, s_25, s_26, s_27, s_28, s_29, s_30, s_31, s_32, s_33, s_34, s_35, s_36, s_37, s_38, s_39, s_40l, s_40i, s_40r, s_41, s_43, t_44, t_45, t_46, t_47, s_48, s_49, s_50, s_51, s_52, s_53, s_54, s_55, s_56, s_57, s_58, s_59, s_60, s_61, s_62_0, s_62_1, s_62_2, s_66, s_67, s_68, s_69, s_70, s_71, s_72, s_73, sws_n, sws_c, lget, lset, fget, fset, nolg, nolong, avc, stw, cnd, isobj_eo, GCi, GCn, retk, List.length_cons, List.length_nil, ↓reduceIte, and_true, true_and, not_true_eq_false, not_false_eq_true, forall_const, Nat.reduceAdd, Nat.reduceLT, Nat.reduceLeDiff, Nat.lt_add_one, Nat.le_refl, Nat.zero_le, Nat.sub_zero, Int.reduceEq, Int.reduceNe, Int.reduceLT, Int.reduceLE, Int.reduceAdd, Int.reduceSub, Int.reduceMul, Int.reduceNeg, Int.reduceTDiv, Int.reduceTMod, ne_eq, reduceCtorEq, Nat.reduceEqDiff, Int.cast_ofNat_Int, true_or, or_true, false_or, or_false, lcq_0, lcq_2, lcq_3, lcq_4, lcq_5, mi_296, i296_956, i296_957, i296_958, i296_959, i296_960, i296_961, i296_962, i296_963, i296_964, i296_965, i296_966, i296_967, i296_970, i296_971, i296_972, i296_973, i296_974, i296_975, i296_976, i296_977, i296_978, i296_979, i296_980, i296_981, i296_984, i296_987, i296_988, k157, k284]
  exact hnext W'' hJ
set_option maxRecDepth 10000 in
theorem lw_25 (h0 : W.2 0 = ea 0 L X) (hx : isobj (W.2 67) 11) (hW : 192 ≤ W.1) (hi : i + 6 ≤ L) (hL : L ≤ 3072) (hbc : 0 ≤ bc) (hbs : 0 ≤ bs) (hcall : CallOK J W 161 287 [vi (X (i + 1))])
    (hnext : ∀ W'', J W'' → G 296 1266 [some (vr 0), some (vr 67), some (vr 148), some (vi (i : Int))] [] W'' (bc - 0) (bs - 0) Q) : G 296 989 [some (vr 0), some (vr 67), some (vr 148), some (vi (i : Int))] [] W bc bs Q := by
  have e1 : ((i : Int) + 1).toNat = i + 1 := by omega
  have w0 : 0 < W.1 := by omega
  have w1 : 67 < W.1 := by omega
  have w2 : 148 < W.1 := by omega
  rw [i296_989]
  simp only [s_1, s_2, s_3, s_4, s_76, s_5, s_6, s_7, s_8, s_9, s_10, s_11, s_12, s_13, s_14, s_15, s_16, s_17, s_18, s_19, s_20, s_21, s_22, s_23, s_24, s_25, s_26, s_27, s_28, s_29, s_30, s_31, s_32, s_33, s_34, s_35, s_36, s_37, s_38, s_39, s_40l, s_40i, s_40r, s_41, s_43, t_44, t_45, t_46, t_47, s_48, s_49, s_50, s_51, s_52, s_53, s_54, s_55, s_56, s_57, s_58, s_59, s_60, s_61, s_62_0, s_62_1, s_62_2, s_66, s_67, s_68, s_69, s_70, s_71, s_72, s_73, sws_n, sws_c, lget, lset, fget, fset, nolg, nolong, avc, stw, cnd, isobj_eo, GCi, GCn, retk, List.length_cons, List.length_nil, ↓reduceIte, and_true, true_and, not_true_eq_false, not_false_eq_true, forall_const, Nat.reduceAdd, Nat.reduceLT, Nat.reduceLeDiff, Nat.lt_add_one, Nat.le_refl, Nat.zero_le, Nat.sub_zero, Int.reduceEq, Int.reduceNe, Int.reduceLT, Int.reduceLE, Int.reduceAdd, Int.reduceSub, Int.reduceMul, Int.reduceNeg, Int.reduceTDiv, Int.reduceTMod, ne_eq, reduceCtorEq, Nat.reduceEqDiff, Int.cast_ofNat_Int, true_or, or_true, false_or, or_false, lcq_0, lcq_2, lcq_3, lcq_4, lcq_5, mi_296, i296_989, i296_990, i296_991, i296_992, i296_993, i296_994, i296_995, i296_998, i296_999, i296_1000, i296_1001, i296_1002, i296_1003, i296_1004, i296_1007, i296_1010, i296_1011, k161, k287, h0, hx, w0, w1, hbc, hbs, in32, e1]
  refine ⟨by omega, by omega, by omega, ?_⟩
  refine Gm_post hcall (fun r W' hr => ?_)
  obtain ⟨h1, h2, h3, z, rfl, hG⟩ := hr
  have h4 : W'.2 0 = ea 0 L X := h3.trans h0
  have v0 : 0 < W'.1 := by omega
  have v2 : 148 < W'.1 := by omega
  simp only [s_1, s_2, s_3, s_4, s_76, s_5, s_6, s_7, s_8, s_9, s_10, s_11, s_12, s_13, s_14, s_15, s_16, s_17, s_18, s_19, s_20, s_21, s_22, s_23, s_24, s_25, s_26, s_27, s_28, s_29, s_30, s_31, s_32, s_33, s_34, s_35, s_36, s_37, s_38, s_39, s_40l, s_40i, s_40r, s_41, s_43, t_44, t_45, t_46, t_47, s_48, s_49, s_50, s_51, s_52, s_53, s_54, s_55, s_56, s_57, s_58, s_59, s_60, s_61, s_62_0, s_62_1, s_62_2, s_66, s_67, s_68, s_69, s_70, s_71, s_72, s_73, sws_n, sws_c, lget, lset, fget, fset, nolg, nolong, avc, stw, cnd, isobj_eo, GCi, GCn, retk, List.length_cons, List.length_nil, ↓reduceIte, and_true, true_and, not_true_eq_false, not_false_eq_true, forall_const, Nat.reduceAdd, Nat.reduceLT, Nat.reduceLeDiff, Nat.lt_add_one, Nat.le_refl, Nat.zero_le, Nat.sub_zero, Int.reduceEq, Int.reduceNe, Int.reduceLT, Int.reduceLE, Int.reduceAdd, Int.reduceSub, Int.reduceMul, Int.reduceNeg, Int.reduceTDiv, Int.reduceTMod, ne_eq, reduceCtorEq, Nat.reduceEqDiff, Int.cast_ofNat_Int, true_or, or_true, false_or, or_false, lcq_0, lcq_2, lcq_3, lcq_4, lcq_5, mi_296, i296_989, i296_990, i296_991, i296_992, i296_993, i296_994, i296_995, i296_998, i296_999, i296_1000, i296_1001, i296_1002, i296_1003, i296_1004, i296_1007, i296_1010, i296_1011, k161, k287, h4, h1, v0, v2, in32, e1]
  refine ⟨by omega, by omega, by omega, ?_⟩
  refine Gm_post hG (fun r' W'' hr => ?_)
  obtain ⟨rfl, hJ⟩ := hr
  simp only [s_1, s_2, s_3, s_4, s_76, s_5, s_6, s_7, s_8, s_9, s_10, s_11, s_12, s_13, s_14, s_15, s_16, s_17, s_18, s_19, s_20, s_21, s_22, s_23, s_24, s_25, s_26, s_27, s_28, s_29, s_30, s_31, s_32, s_33, s_34, s_35, s_36, s_37, s_38, s_39, s_40l, s_40i, s_40r, s_41, s_43, t_44, t_45, t_46, t_47, s_48, s_49, s_50, s_51, s_52, s_53, s_54, s_55, s_56, s_57, s_58, s_59, s_60, s_61, s_62_0, s_62_1, s_62_2, s_66, s_67, s_68, s_69, s_70, s_71, s_72, s_73, sws_n, sws_c, lget, lset, fget, fset, nolg, nolong, avc, stw, cnd, isobj_eo, GCi, GCn, retk, List.length_cons, List.length_nil, ↓reduceIte, and_true, true_and, not_true_eq_false, not_false_eq_true, forall_const, Nat.reduceAdd, Nat.reduceLT, Nat.reduceLeDiff, Nat.lt_add_one, Nat.le_refl, Nat.zero_le, Nat.sub_zero, Int.reduceEq, Int.reduceNe, Int.reduceLT, Int.reduceLE, Int.reduceAdd, Int.reduceSub, Int.reduceMul, Int.reduceNeg, Int.reduceTDiv, Int.reduceTMod, ne_eq, reduceCtorEq, Nat.reduceEqDiff, Int.cast_ofNat_Int, true_or, or_true, false_or, or_false, lcq_0, lcq_2, lcq_3, lcq_4, lcq_5, mi_296, i296_989, i296_990, i296_991, i296_992, i296_993, i296_994, i296_995, i296_998, i296_999, i296_1000, i296_1001, i296_1002, i296_1003, i296_1004, i296_1007, i296_1010, i296_1011, k161, k287]
  exact hnext W'' hJ
set_option maxRecDepth 10000 in
theorem lw_26 (h0 : W.2 0 = ea 0 L X) (hx : isobj (W.2 67) 11) (hW : 192 ≤ W.1) (hi : i + 6 ≤ L) (hL : L ≤ 3072) (hbc : 0 ≤ bc) (hbs : 0 ≤ bs) (hcall : CallOK J W 162 288 [vi (X (i + 1)), vi (X (i + 2)), vi (X (i + 3))])
    (hnext : ∀ W'', J W'' → G 296 1266 [some (vr 0), some (vr 67), some (vr 148), some (vi (i : Int))] [] W'' (bc - 0) (bs - 0) Q) : G 296 1012 [some (vr 0), some (vr 67), some (vr 148), some (vi (i : Int))] [] W bc bs Q := by
  have e1 : ((i : Int) + 1).toNat = i + 1 := by omega
  have e2 : ((i : Int) + 2).toNat = i + 2 := by omega
  have e3 : ((i : Int) + 3).toNat = i + 3 := by omega
  have w0 : 0 < W.1 := by omega
  have w1 : 67 < W.1 := by omega
  have w2 : 148 < W.1 := by omega
  rw [i296_1012]
  simp only [s_1, s_2, s_3, s_4, s_76, s_5, s_6, s_7, s_8, s_9, s_10, s_11, s_12, s_13, s_14, s_15, s_16, s_17, s_18, s_19, s_20, s_21, s_22, s_23, s_24, s_25, s_26, s_27, s_28, s_29, s_30, s_31, s_32, s_33, s_34, s_35, s_36, s_37, s_38, s_39, s_40l, s_40i, s_40r, s_41, s_43, t_44, t_45, t_46, t_47, s_48, s_49, s_50, s_51, s_52, s_53, s_54, s_55, s_56, s_57, s_58, s_59, s_60, s_61, s_62_0, s_62_1, s_62_2, s_66, s_67, s_68, s_69, s_70, s_71, s_72, s_73, sws_n, sws_c, lget, lset, fget, fset, nolg, nolong, avc, stw, cnd, isobj_eo, GCi, GCn, retk, List.length_cons, List.length_nil, ↓reduceIte, and_true, true_and, not_true_eq_false, not_false_eq_true, forall_const, Nat.reduceAdd, Nat.reduceLT, Nat.reduceLeDiff, Nat.lt_add_one, Nat.le_refl, Nat.zero_le, Nat.sub_zero, Int.reduceEq, Int.reduceNe, Int.reduceLT, Int.reduceLE, Int.reduceAdd, Int.reduceSub, Int.reduceMul, Int.reduceNeg, Int.reduceTDiv, Int.reduceTMod, ne_eq, reduceCtorEq, Nat.reduceEqDiff, Int.cast_ofNat_Int, true_or, or_true, false_or, or_false, lcq_0, lcq_2, lcq_3, lcq_4, lcq_5, mi_296, i296_1012, i296_1013, i296_1014, i296_1015, i296_1016, i296_1017, i296_1018, i296_1019, i296_1020, i296_1021, i296_1022, i296_1023, i296_1024, i296_1025, i296_1026, i296_1027, i296_1028, i296_1031, i296_1032, i296_1033, i296_1034, i296_1035, i296_1036, i296_1037, i296_1038, i296_1039, i296_1040, i296_1041, i296_1042, i296_1043, i296_1044, i296_1045, i296_1046, i296_1047, i296_1050, i296_1053, i296_1054, k162, k288, h0, hx, w0, w1, hbc, hbs, in32, e1, e2, e3]
  refine ⟨by omega, by omega, by omega, ?_⟩
  refine ⟨by omega, by omega, by omega, ?_⟩
  refine ⟨by omega, by omega, by omega, ?_⟩
  refine Gm_post hcall (fun r W' hr => ?_)
  obtain ⟨h1, h2, h3, z, rfl, hG⟩ := hr
  have h4 : W'.2 0 = ea 0 L X := h3.trans h0
  have v0 : 0 < W'.1 := by omega
  have v2 : 148 < W'.1 := by omega
  simp only [s_1, s_2, s_3, s_4, s_76, s_5, s_6, s_7, s_8, s_9, s_10, s_11, s_12, s_13, s_14, s_15, s_16, s_17, s_18, s_19, s_20, s_21, s_22, s_23, s_24, s_25, s_26, s_27, s_28, s_29, s_30, s_31, s_32, s_33, s_34, s_35, s_36, s_37, s_38, s_39, s_40l, s_40i, s_40r, s_41, s_43, t_44, t_45, t_46, t_47, s_48, s_49, s_50, s_51, s_52, s_53, s_54, s_55, s_56, s_57, s_58, s_59, s_60, s_61, s_62_0, s_62_1, s_62_2, s_66, s_67, s_68, s_69, s_70, s_71, s_72, s_73, sws_n, sws_c, lget, lset, fget, fset, nolg, nolong, avc, stw, cnd, isobj_eo, GCi, GCn, retk, List.length_cons, List.length_nil, ↓reduceIte, and_true, true_and, not_true_eq_false, not_false_eq_true, forall_const, Nat.reduceAdd, Nat.reduceLT, Nat.reduceLeDiff, Nat.lt_add_one, Nat.le_refl, Nat.zero_le, Nat.sub_zero, Int.reduceEq, Int.reduceNe, Int.reduceLT, Int.reduceLE, Int.reduceAdd, Int.reduceSub, Int.reduceMul, Int.reduceNeg, Int.reduceTDiv, Int.reduceTMod, ne_eq, reduceCtorEq, Nat.reduceEqDiff, Int.cast_ofNat_Int, true_or, or_true, false_or, or_false, lcq_0, lcq_2, lcq_3, lcq_4, lcq_5, mi_296, i296_1012, i296_1013, i296_1014, i296_1015, i296_1016, i296_1017, i296_1018, i296_1019, i296_1020, i296_1021, i296_1022, i296_1023, i296_1024, i296_1025, i296_1026, i296_1027, i296_1028, i296_1031, i296_1032, i296_1033, i296_1034, i296_1035, i296_1036, i296_1037, i296_1038, i296_1039, i296_1040, i296_1041, i296_1042, i296_1043, i296_1044, i296_1045, i296_1046, i296_1047, i296_1050, i296_1053, i296_1054, k162, k288, h4, h1, v0, v2, in32, e1, e2, e3]
  refine ⟨by omega, by omega, by omega, ?_⟩
  refine ⟨by omega, by omega, by omega, ?_⟩
  refine ⟨by omega, by omega, by omega, ?_⟩
  refine Gm_post hG (fun r' W'' hr => ?_)
  obtain ⟨rfl, hJ⟩ := hr
  simp only [s_1, s_2, s_3, s_4, s_76, s_5, s_6, s_7, s_8, s_9, s_10, s_11, s_12, s_13, s_14, s_15, s_16, s_17, s_18, s_19, s_20, s_21, s_22, s_23, s_24, s_25, s_26, s_27, s_28, s_29, s_30, s_31, s_32, s_33, s_34, s_35, s_36, s_37, s_38, s_39, s_40l, s_40i, s_40r, s_41, s_43, t_44, t_45, t_46, t_47, s_48, s_49, s_50, s_51, s_52, s_53, s_54, s_55, s_56, s_57, s_58, s_59, s_60, s_61, s_62_0, s_62_1, s_62_2, s_66, s_67, s_68, s_69, s_70, s_71, s_72, s_73, sws_n, sws_c, lget, lset, fget, fset, nolg, nolong, avc, stw, cnd, isobj_eo, GCi, GCn, retk, List.length_cons, List.length_nil, ↓reduceIte, and_true, true_and, not_true_eq_false, not_false_eq_true, forall_const, Nat.reduceAdd, Nat.reduceLT, Nat.reduceLeDiff, Nat.lt_add_one, Nat.le_refl, Nat.zero_le, Nat.sub_zero, Int.reduceEq, Int.reduceNe, Int.reduceLT, Int.reduceLE, Int.reduceAdd, Int.reduceSub, Int.reduceMul, Int.reduceNeg, Int.reduceTDiv, Int.reduceTMod, ne_eq, reduceCtorEq, Nat.reduceEqDiff, Int.cast_ofNat_Int, true_or, or_true, false_or, or_false, lcq_0, lcq_2, lcq_3, lcq_4, lcq_5, mi_296, i296_1012, i296_1013, i296_1014, i296_1015, i296_1016, i296_1017, i296_1018, i296_1019, i296_1020, i296_1021, i296_1022, i296_1023, i296_1024, i296_1025, i296_1026, i296_1027, i296_1028, i296_1031, i296_1032, i296_1033, i296_1034, i296_1035, i296_1036, i296_1037, i296_1038, i296_1039, i296_1040, i296_1041, i296_1042, i296_1043, i296_1044, i296_1045, i296_1046, i296_1047, i296_1050, i296_1053, i296_1054, k162, k288]
  exact hnext W'' hJ
set_option maxRecDepth 10000 in
theorem lw_27 (h0 : W.2 0 = ea 0 L X) (hx : isobj (W.2 67) 11) (hW : 192 ≤ W.1) (hi : i + 6 ≤ L) (hL : L ≤ 3072) (hbc : 0 ≤ bc) (hbs : 0 ≤ bs) (hcall : CallOK J W 163 289 [vi (X (i + 1)), vi (X (i + 2)), vi (X (i + 3))])
    (hnext : ∀ W'', J W'' → G 296 1266 [some (vr 0), some (vr 67), some (vr 148), some (vi (i : Int))] [] W'' (bc - 0) (bs - 0) Q) : G 296 1055 [some (vr 0), some (vr 67), some (vr 148), some (vi (i : Int))] [] W bc bs Q := by
  have e1 : ((i : Int) + 1).toNat = i + 1 := by omega
  have e2 : ((i : Int) + 2).toNat = i + 2 := by omega
  have e3 : ((i : Int) + 3).toNat = i + 3 := by omega
  have w0 : 0 < W.1 := by omega
  have w1 : 67 < W.1 := by omega
  have w2 : 148 < W.1 := by omega
  rw [i296_1055]
  simp only [s_1, s_2, s_3, s_4, s_76, s_5, s_6, s_7, s_8, s_9, s_10, s_11, s_12, s_13, s_14, s_15, s_16, s_17, s_18, s_19, s_20, s_21, s_22, s_23, s_24, s_25, s_26, s_27, s_28, s_29, s_30, s_31, s_32, s_33, s_34, s_35, s_36, s_37, s_38, s_39, s_40l, s_40i, s_40r, s_41, s_43, t_44, t_45, t_46, t_47, s_48, s_49, s_50, s_51, s_52, s_53, s_54, s_55, s_56, s_57, s_58, s_59, s_60, s_61, s_62_0, s_62_1, s_62_2, s_66, s_67, s_68, s_69, s_70, s_71, s_72, s_73, sws_n, sws_c, lget, lset, fget, fset, nolg, nolong, avc, stw, cnd, isobj_eo, GCi, GCn, retk, List.length_cons, List.length_nil, ↓reduceIte, and_true, true_and, not_true_eq_false, not_false_eq_true, forall_const, Nat.reduceAdd, Nat.reduceLT, Nat.reduceLeDiff, Nat.lt_add_one, Nat.le_refl, Nat.zero_le, Nat.sub_zero, Int.reduceEq, Int.reduceNe, Int.reduceLT, Int.reduceLE, Int.reduceAdd, Int.reduceSub, Int.reduceMul, Int.reduceNeg, Int.reduceTDiv, Int.reduceTMod, ne_eq, reduceCtorEq, Nat.reduceEqDiff, Int.cast_ofNat_Int, true_or, or_true, false_or, or_false, lcq_0, lcq_2, lcq_3, lcq_4, lcq_5, mi_296, i296_1055, i296_1056, i296_1057, i296_1058, i296_1059, i296_1060, i296_1061, i296_1062, i296_1063, i296_1064, i296_1065, i296_1066, i296_1067, i296_1068, i296_1069, i296_1070, i296_1071, i296_1074, i296_1075, i296_1076, i296_1077, i296_1078, i296_1079, i296_1080, i296_1081, i296_1082, i296_1083, i296_1084, i296_1085, i296_1086, i296_1087, i296_1088, i296_1089, i296_1090, i296_1093, i296_1096, i296_1097, k163, k289, h0, hx, w0, w1, hbc, hbs, in32, e1, e2, e3]
  refine ⟨by omega, by omega, by omega, ?_⟩
  refine ⟨by omega, by omega, by omega, ?_⟩
  refine ⟨by omega, by omega, by omega, ?_⟩
  refine Gm_post hcall (fun r W' hr => ?_)
  obtain ⟨h1, h2, h3, z, rfl, hG⟩ := hr
  have h4 : W'.2 0 = ea 0 L X := h3.trans h0
  have v0 : 0 < W'.1 := by omega
  have v2 : 148 < W'.1 := by omega
  simp only [s_1, s_2, s_3, s_4, s_76, s_5, s_6, s_7, s_8, s_9, s_10, s_11, s_12, s_13, s_14, s_15, s_16, s_17, s_18, s_19, s_20, s_21, s_22, s_23, s_24, s_25, s_26, s_27, s_28, s_29, s_30, s_31, s_32, s_33, s_34, s_35, s_36, s_37, s_38, s_39, s_40l, s_40i, s_40r, s_41, s_43, t_44, t_45, t_46, t_47, s_48, s_49, s_50, s_51, s_52, s_53, s_54, s_55, s_56, s_57, s_58, s_59, s_60, s_61, s_62_0, s_62_1, s_62_2, s_66, s_67, s_68, s_69, s_70, s_71, s_72, s_73, sws_n, sws_c, lget, lset, fget, fset, nolg, nolong, avc, stw, cnd, isobj_eo, GCi, GCn, retk, List.length_cons, List.length_nil, ↓reduceIte, and_true, true_and, not_true_eq_false, not_false_eq_true, forall_const, Nat.reduceAdd, Nat.reduceLT, Nat.reduceLeDiff, Nat.lt_add_one, Nat.le_refl, Nat.zero_le, Nat.sub_zero, Int.reduceEq, Int.reduceNe, Int.reduceLT, Int.reduceLE, Int.reduceAdd, Int.reduceSub, Int.reduceMul, Int.reduceNeg, Int.reduceTDiv, Int.reduceTMod, ne_eq, reduceCtorEq, Nat.reduceEqDiff, Int.cast_ofNat_Int, true_or, or_true, false_or, or_false, lcq_0, lcq_2, lcq_3, lcq_4, lcq_5, mi_296, i296_1055, i296_1056, i296_1057, i296_1058, i296_1059, i296_1060, i296_1061, i296_1062, i296_1063, i296_1064, i296_1065, i296_1066, i296_1067, i296_1068, i296_1069, i296_1070, i296_1071, i296_1074, i296_1075, i296_1076, i296_1077, i296_1078, i296_1079, i296_1080, i296_1081, i296_1082, i296_1083, i296_1084, i296_1085, i296_1086, i296_1087, i296_1088, i296_1089, i296_1090, i296_1093, i296_1096, i296_1097, k163, k289, h4, h1, v0, v2, in32, e1, e2, e3]
  refine ⟨by omega, by omega, by omega, ?_⟩
  refine ⟨by omega, by omega, by omega, ?_⟩
  refine ⟨by omega, by omega, by omega, ?_⟩
  refine Gm_post hG (fun r' W'' hr => ?_)
  obtain ⟨rfl, hJ⟩ := hr
  simp only [s_1, s_2, s_3, s_4, s_76, s_5, s_6, s_7, s_8, s_9, s_10, s_11, s_12, s_13, s_14, s_15, s_16, s_17, s_18, s_19, s_20, s_21, s_22, s_23, s_24, s_25, s_26, s_27, s_28, s_29, s_30, s_31, s_32, s_33, s_34, s_35, s_36, s_37, s_38, s_39, s_40l, s_40i, s_40r, s_41, s_43, t_44, t_45, t_46, t_47, s_48, s_49, s_50, s_51, s_52, s_53, s_54, s_55, s_56, s_57, s_58, s_59, s_60, s_61, s_62_0, s_62_1, s_62_2, s_66, s_67, s_68, s_69, s_70, s_71, s_72, s_73, sws_n, sws_c, lget, lset, fget, fset, nolg, nolong, avc, stw, cnd, isobj_eo, GCi, GCn, retk, List.length_cons, List.length_nil, ↓reduceIte, and_true, true_and, not_true_eq_false, not_false_eq_true, forall_const, Nat.reduceAdd, Nat.reduceLT, Nat.reduceLeDiff, Nat.lt_add_one, Nat.le_refl, Nat.zero_le, Nat.sub_zero, Int.reduceEq, Int.reduceNe, Int.reduceLT, Int.reduceLE, Int.reduceAdd, Int.reduceSub, Int.reduceMul, Int.reduceNeg, Int.reduceTDiv, Int.reduceTMod, ne_eq, reduceCtorEq, Nat.reduceEqDiff, Int.cast_ofNat_Int, true_or, or_true, false_or, or_false, lcq_0, lcq_2, lcq_3, lcq_4, lcq_5, mi_296, i296_1055, i296_1056, i296_1057, i296_1058, i296_1059, i296_1060, i296_1061, i296_1062, i296_1063, i296_1064, i296_1065, i296_1066, i296_1067, i296_1068, i296_1069, i296_1070, i296_1071, i296_1074, i296_1075, i296_1076, i296_1077, i296_1078, i296_1079, i296_1080, i296_1081, i296_1082, i296_1083, i296_1084, i296_1085, i296_1086, i296_1087, i296_1088, i296_1089, i296_1090, i296_1093, i296_1096, i296_1097, k163, k289]
  exact hnext W'' hJ
set_option maxRecDepth 10000 in
theorem lw_28 (h0 : W.2 0 = ea 0 L X) (hx : isobj (W.2 67) 11) (hW : 192 ≤ W.1) (hi : i + 6 ≤ L) (hL : L ≤ 3072) (hbc : 0 ≤ bc) (hbs : 0 ≤ bs) (hcall : CallOK J W 167 292 [vi (X (i + 1)), vi (X (i + 2))])
    (hnext : ∀ W'', J W'' → G 296 1266 [some (vr 0), some (vr 67), some (vr 148), some (vi (i : Int))] [] W'' (bc - 0) (bs - 0) Q) : G 296 1098 [some (vr 0), some (vr 67), some (vr 148), some (vi (i : Int))] [] W bc bs Q := by
  have e1 : ((i : Int) + 1).toNat = i + 1 := by omega
  have e2 : ((i : Int) + 2).toNat = i + 2 := by omega
  have w0 : 0 < W.1 := by omega
  have w1 : 67 < W.1 := by omega
  have w2 : 148 < W.1 := by omega
  rw [i296_1098]
  simp only [s_1, s_2, s_3, s_4, s_76, s_5, s_6, s_7, s_8, s_9, s_10, s_11, s_12, s_13, s_14, s_15, s_16, s_17, s_18, s_19, s_20, s_21, s_22, s_23, s_24, s_25, s_26, s_27, s_28, s_29, s_30, s_31, s_32, s_33, s_34, s_35, s_36, s_37, s_38, s_39, s_40l, s_40i, s_40r, s_41, s_43, t_44, t_45, t_46, t_47, s_48, s_49, s_50, s_51, s_52, s_53, s_54, s_55, s_56, s_57, s_58, s_59, s_60, s_61, s_62_0, s_62_1, s_62_2, s_66, s_67, s_68, s_69, s_70, s_71, s_72, s_73, sws_n, sws_c, lget, lset, fget, fset, nolg, nolong, avc, stw, cnd, isobj_eo, GCi, GCn, retk, List.length_cons, List.length_nil, ↓reduceIte, and_true, true_and, not_true_eq_false, not_false_eq_true, forall_const, Nat.reduceAdd, Nat.reduceLT, Nat.reduceLeDiff, Nat.lt_add_one, Nat.le_refl, Nat.zero_le, Nat.sub_zero, Int.reduceEq, Int.reduceNe, Int.reduceLT, Int.reduceLE, Int.reduceAdd, Int.reduceSub, Int.reduceMul, Int.reduceNeg, Int.reduceTDiv, Int.reduceTMod, ne_eq, reduceCtorEq, Nat.reduceEqDiff, Int.cast_ofNat_Int, true_or, or_true, false_or, or_false, lcq_0, lcq_2, lcq_3, lcq_4, lcq_5, mi_296, i296_1098, i296_1099, i296_1100, i296_1101, i296_1102, i296_1103, i296_1104, i296_1105, i296_1106, i296_1107, i296_1108, i296_1109, i296_1112, i296_1113, i296_1114, i296_1115, i296_1116, i296_1117, i296_1118, i296_1119, i296_1120, i296_1121, i296_1122, i296_1123, i296_1126, i296_1129, i296_1130, k167, k292, h0, hx, w0, w1, hbc, hbs, in32, e1, e2]
  refine ⟨by omega, by omega, by omega, ?_⟩
  refine ⟨by omega, by omega, by omega, ?_⟩
  refine Gm_post hcall (fun r W' hr => ?_)
  obtain ⟨h1, h2, h3, z, rfl, hG⟩ := hr
  have h4 : W'.2 0 = ea 0 L X := h3.trans h0
  have v0 : 0 < W'.1 := by omega
  have v2 : 148 < W'.1 := by omega
  simp only [s_1, s_2, s_3, s_4, s_76, s_5, s_6, s_7, s_8, s_9, s_10, s_11, s_12, s_13, s_14, s_15, s_16, s_17, s_18, s_19, s_20, s_21, s_22, s_23, s_24, s_25, s_26, s_27, s_28, s_29, s_30, s_31, s_32, s_33, s_34, s_35, s_36, s_37, s_38, s_39, s_40l, s_40i, s_40r, s_41, s_43, t_44, t_45, t_46, t_47, s_48, s_49, s_50, s_51, s_52, s_53, s_54, s_55, s_56, s_57, s_58, s_59, s_60, s_61, s_62_0, s_62_1, s_62_2, s_66, s_67, s_68, s_69, s_70, s_71, s_72, s_73, sws_n, sws_c, lget, lset, fget, fset, nolg, nolong, avc, stw, cnd, isobj_eo, GCi, GCn, retk, List.length_cons, List.length_nil, ↓reduceIte, and_true, true_and, not_true_eq_false, not_false_eq_true, forall_const, Nat.reduceAdd, Nat.reduceLT, Nat.reduceLeDiff, Nat.lt_add_one, Nat.le_refl, Nat.zero_le, Nat.sub_zero, Int.reduceEq, Int.reduceNe, Int.reduceLT, Int.reduceLE, Int.reduceAdd, Int.reduceSub, Int.reduceMul, Int.reduceNeg, Int.reduceTDiv, Int.reduceTMod, ne_eq, reduceCtorEq, Nat.reduceEqDiff, Int.cast_ofNat_Int, true_or, or_true, false_or, or_false, lcq_0, lcq_2, lcq_3, lcq_4, lcq_5, mi_296, i296_1098, i296_1099, i296_1100, i296_1101, i296_1102, i296_1103, i296_1104, i296_1105, i296_1106, i296_1107, i296_1108, i296_1109, i296_1112, i296_1113, i296_1114, i296_1115, i296_1116, i296_1117, i296_1118, i296_1119, i296_1120, i296_1121, i296_1122, i296_1123, i296_1126, i296_1129, i296_1130, k167, k292, h4, h1, v0, v2, in32, e1, e2]
  refine ⟨by omega, by omega, by omega, ?_⟩
  refine ⟨by omega, by omega, by omega, ?_⟩
  refine Gm_post hG (fun r' W'' hr => ?_)
  obtain ⟨rfl, hJ⟩ := hr
  simp only [s_1, s_2, s_3, s_4, s_76, s_5, s_6, s_7, s_8, s_9, s_10, s_11, s_12, s_13, s_14, s_15, s_16, s_17, s_18, s_19, s_20, s_21, s_22, s_23, s_24, s_25, s_26, s_27, s_28, s_29, s_30, s_31, s_32, s_33, s_34, s_35, s_36, s_37, s_38, s_39, s_40l, s_40i, s_40r, s_41, s_43, t_44, t_45, t_46, t_47, s_48, s_49, s_50, s_51, s_52, s_53, s_54, s_55, s_56, s_57, s_58, s_59, s_60, s_61, s_62_0, s_62_1, s_62_2, s_66, s_67, s_68, s_69, s_70, s_71, s_72, s_73, sws_n, sws_c, lget, lset, fget, fset, nolg, nolong, avc, stw, cnd, isobj_eo, GCi, GCn, retk, List.length_cons, List.length_nil, ↓reduceIte, and_true, true_and, not_true_eq_false, not_false_eq_true, forall_const, Nat.reduceAdd, Nat.reduceLT, Nat.reduceLeDiff, Nat.lt_add_one, Nat.le_refl, Nat.zero_le, Nat.sub_zero, Int.reduceEq, Int.reduceNe, Int.reduceLT, Int.reduceLE, Int.reduceAdd, Int.reduceSub, Int.reduceMul, Int.reduceNeg, Int.reduceTDiv, Int.reduceTMod, ne_eq, reduceCtorEq, Nat.reduceEqDiff, Int.cast_ofNat_Int, true_or, or_true, false_or, or_false, lcq_0, lcq_2, lcq_3, lcq_4, lcq_5, mi_296, i296_1098, i296_1099, i296_1100, i296_1101, i296_1102, i296_1103, i296_1104, i296_1105, i296_1106, i296_1107, i296_1108, i296_1109, i296_1112, i296_1113, i296_1114, i296_1115, i296_1116, i296_1117, i296_1118, i296_1119, i296_1120, i296_1121, i296_1122, i296_1123, i296_1126, i296_1129, i296_1130, k167, k292]
  exact hnext W'' hJ
set_option maxRecDepth 10000 in
theorem lw_29 (h0 : W.2 0 = ea 0 L X) (hx : isobj (W.2 67) 11) (hW : 192 ≤ W.1) (hi : i + 6 ≤ L) (hL : L ≤ 3072) (hbc : 0 ≤ bc) (hbs : 0 ≤ bs) (hcall : CallOK J W 169 293 [vi (X (i + 1)), vi (X (i + 2))])
    (hnext : ∀ W'', J W'' → G 296 1266 [some (vr 0), some (vr 67), some (vr 148), some (vi (i : Int))] [] W'' (bc - 0) (bs - 0) Q) : G 296 1131 [some (vr 0), some (vr 67), some (vr 148), some (vi (i : Int))] [] W bc bs Q := by
  have e1 : ((i : Int) + 1).toNat = i + 1 := by omega
  have e2 : ((i : Int) + 2).toNat = i + 2 := by omega
  have w0 : 0 < W.1 := by omega
  have w1 : 67 < W.1 := by omega
  have w2 : 148 < W.1 := by omega
  rw [i296_1131]
  simp only [s_1, s_2, s_3, s_4, s_76, s_5, s_6, s_7, s_8, s_9, s_10, s_11, s_12, s_13, s_14, s_15, s_16, s_17, s_18, s_19, s_20, s_21, s_22, s_23, s_24, s_25, s_26, s_27, s_28, s_29, s_30, s_31, s_32, s_33, s_34, s_35, s_36, s_37, s_38, s_39, s_40l, s_40i, s_40r, s_41, s_43, t_44, t_45, t_46, t_47, s_48, s_49, s_50, s_51, s_52, s_53, s_54, s_55, s_56, s_57, s_58, s_59, s_60, s_61, s_62_0, s_62_1, s_62_2, s_66, s_67, s_68, s_69, s_70, s_71, s_72, s_73, sws_n, sws_c, lget, lset, fget, fset, nolg, nolong, avc, stw, cnd, isobj_eo, GCi, GCn, retk, List.length_cons, List.length_nil, ↓reduceIte, and_true, true_and, not_true_eq_false, not_false_eq_true, forall_const, Nat.reduceAdd, Nat.reduceLT, Nat.reduceLeDiff, Nat.lt_add_one, Nat.le_refl, Nat.zero_le, Nat.sub_zero, Int.reduceEq, Int.reduceNe, Int.reduceLT, Int.reduceLE, Int.reduceAdd, Int.reduceSub, Int.reduceMul, Int.reduceNeg, Int.reduceTDiv, Int.reduceTMod, ne_eq, reduceCtorEq, Nat.reduceEqDiff, Int.cast_ofNat_Int, true_or, or_true, false_or, or_false, lcq_0, lcq_2, lcq_3, lcq_4, lcq_5, mi_296, i296_1131, i296_1132, i296_1133, i296_1134, i296_1135, i296_1136, i296_1137, i296_1138, i296_1139, i296_1140, i296_1141, i296_1142, i296_1145, i296_1146, i296_1147, i296_1148, i296_1149, i296_1150, i296_1151, i296_1152, i296_1153, i296_1154, i296_1155, i296_1156, i296_1159, i296_1162, i296_1163, k169, k293, h0, hx, w0, w1, hbc, hbs, in32, e1, e2]
  refine ⟨by omega, by omega, by omega, ?_⟩
  refine ⟨by omega, by omega, by omega, ?_⟩
  refine Gm_post hcall (fun r W' hr => ?_)
  obtain ⟨h1, h2, h3, z, rfl, hG⟩ := hr
  have h4 : W'.2 0 = ea 0 L X := h3.trans h0
  have v0 : 0 < W'.1 := by omega
  have v2 : 148 < W'.1 := by omega
  simp only [s_1, s_2, s_3, s_4, s_76, s_5, s_6, s_7, s_8, s_9, s_10, s_11, s_12, s_13, s_14, s_15, s_16, s_17, s_18, s_19, s_20, s_21, s_22, s_23, s_24, s_25, s_26, s_27, s_28, s_29, s_30, s_31, s_32, s_33, s_34, s_35, s_36, s_37, s_38, s_39, s_40l, s_40i, s_40r, s_41, s_43, t_44, t_45, t_46, t_47, s_48, s_49, s_50, s_51, s_52, s_53, s_54, s_55, s_56, s_57, s_58, s_59, s_60, s_61, s_62_0, s_62_1, s_62_2, s_66, s_67, s_68, s_69, s_70, s_71, s_72, s_73, sws_n, sws_c, lget, lset, fget, fset, nolg, nolong, avc, stw, cnd, isobj_eo, GCi, GCn, retk, List.length_cons, List.length_nil, ↓reduceIte, and_true, true_and, not_true_eq_false, not_false_eq_true, forall_const, Nat.reduceAdd, Nat.reduceLT, Nat.reduceLeDiff, Nat.lt_add_one, Nat.le_refl, Nat.zero_le, Nat.sub_zero, Int.reduceEq, Int.reduceNe, Int.reduceLT, Int.reduceLE, Int.reduceAdd, Int.reduceSub, Int.reduceMul, Int.reduceNeg, Int.reduceTDiv, Int.reduceTMod, ne_eq, reduceCtorEq, Nat.reduceEqDiff, Int.cast_ofNat_Int, true_or, or_true, false_or, or_false, lcq_0, lcq_2, lcq_3, lcq_4, lcq_5, mi_296, i296_1131, i296_1132, i296_1133, i296_1134, i296_1135, i296_1136, i296_1137, i296_1138, i296_1139, i296_1140, i296_1141, i296_1142, i296_1145, i296_1146, i296_1147, i296_1148, i296_1149, i296_1150, i296_1151, i296_1152, i296_1153, i296_1154, i296_1155, i296_1156, i296_1159, i296_1162, i296_1163, k169, k293, h4, h1, v0, v2, in32, e1, e2]
  refine ⟨by omega, by omega, by omega, ?_⟩
  refine ⟨by omega, by omega, by omega, ?_⟩
  refine Gm_post hG (fun r' W'' hr => ?_)
  obtain ⟨rfl, hJ⟩ := hr
  simp only [s_1, s_2, s_3, s_4, s_76, s_5, s_6, s_7, s_8, s_9, s_10, s_11, s_12, s_13, s_14, s_15, s_16, s_17, s_18, s_19, s_20, s_21, s_22, s_23, s_24, s_25, s_26, s_27, s_28, s_29, s_30, s_31, s_32, s_33, s_34, s_35, s_36, s_37, s_38, s_39, s_40l, s_40i, s_40r, s_41, s_43, t_44, t_45, t_46, t_47, s_48, s_49, s_50, s_51, s_52, s_53, s_54, s_55, s_56, s_57, s_58, s_59, s_60, s_61, s_62_0, s_62_1, s_62_2, s_66, s_67, s_68, s_69, s_70, s_71, s_72, s_73, sws_n, sws_c, lget, lset, fget, fset, nolg, nolong, avc, stw, cnd, isobj_eo, GCi, GCn, retk, List.length_cons, List.length_nil, ↓reduceIte, and_true, true_and, not_true_eq_false, not_false_eq_true, forall_const, Nat.reduceAdd, Nat.reduceLT, Nat.reduceLeDiff, Nat.lt_add_one, Nat.le_refl, Nat.zero_le, Nat.sub_zero, Int.reduceEq, Int.reduceNe, Int.reduceLT, Int.reduceLE, Int.reduceAdd, Int.reduceSub, Int.reduceMul, Int.reduceNeg, Int.reduceTDiv, Int.reduceTMod, ne_eq, reduceCtorEq, Nat.reduceEqDiff, Int.cast_ofNat_Int, true_or, or_true, false_or, or_false, lcq_0, lcq_2, lcq_3, lcq_4, lcq_5, mi_296, i296_1131, i296_1132, i296_1133, i296_1134, i296_1135, i296_1136, i296_1137, i296_1138, i296_1139, i296_1140, i296_1141, i296_1142, i296_1145, i296_1146, i296_1147, i296_1148, i296_1149, i296_1150, i296_1151, i296_1152, i296_1153, i296_1154, i296_1155, i296_1156, i296_1159, i296_1162, i296_1163, k169, k293]
  exact hnext W'' hJ
set_option maxRecDepth 10000 in
theorem lw_30 (h0 : W.2 0 = ea 0 L X) (hx : isobj (W.2 67) 11) (hW : 192 ≤ W.1) (hi : i + 6 ≤ L) (hL : L ≤ 3072) (hbc : 0 ≤ bc) (hbs : 0 ≤ bs) (hcall : CallOK J W 170 294 [vi (X (i + 1)), vi (X (i + 2))])
    (hnext : ∀ W'', J W'' → G 296 1266 [some (vr 0), some (vr 67), some (vr 148), some (vi (i : Int))] [] W'' (bc - 0) (bs - 0) Q) : G 296 1164 [some (vr 0), some (vr 67), some (vr 148), some (vi (i : Int))] [] W bc bs Q := by
  have e1 : ((i : Int) + 1).toNat = i + 1 := by omega
  have e2 : ((i : Int) + 2).toNat = i + 2 := by omega
  have w0 : 0 < W.1 := by omega
  have w1 : 67 < W.1 := by omega
  have w2 : 148 < W.1 := by omega
  rw [i296_1164]
  simp only [s_1, s_2, s_3, s_4, s_76, s_5, s_6, s_7, s_8, s_9, s_10, s_11, s_12, s_13, s_14, s_15, s_16, s_17, s_18, s_19, s_20, s_21, s_22, s_23, s_24, s_25, s_26, s_27, s_28, s_29, s_30, s_31, s_32, s_33, s_34, s_35, s_36, s_37, s_38, s_39, s_40l, s_40i, s_40r, s_41, s_43, t_44, t_45, t_46, t_47, s_48, s_49, s_50, s_51, s_52, s_53, s_54, s_55, s_56, s_57, s_58, s_59, s_60, s_61, s_62_0, s_62_1, s_62_2, s_66, s_67, s_68, s_69, s_70, s_71, s_72, s_73, sws_n, sws_c, lget, lset, fget, fset, nolg, nolong, avc, stw, cnd, isobj_eo, GCi, GCn, retk, List.length_cons, List.length_nil, ↓reduceIte, and_true, true_and, not_true_eq_false, not_false_eq_true, forall_const, Nat.reduceAdd, Nat.reduceLT, Nat.reduceLeDiff, Nat.lt_add_one, Nat.le_refl, Nat.zero_le, Nat.sub_zero, Int.reduceEq, Int.reduceNe, Int.reduceLT, Int.reduceLE, Int.reduceAdd, Int.reduceSub, Int.reduceMul, Int.reduceNeg, Int.reduceTDiv, Int.reduceTMod, ne_eq, reduceCtorEq, Nat.reduceEqDiff, Int.cast_ofNat_Int, true_or, or_true, false_or, or_false, lcq_0, lcq_2, lcq_3, lcq_4, lcq_5, mi_296, i296_1164, i296_1165, i296_1166, i296_1167, i296_1168, i296_1169, i296_1170, i296_1171, i296_1172, i296_1173, i296_1174, i296_1175, i296_1178, i296_1179, i296_1180, i296_1181, i296_1182, i296_1183, i296_1184, i296_1185, i296_1186, i296_1187, i296_1188, i296_1189, i296_1192, i296_1195, i296_1196, k170, k294, h0, hx, w0, w1, hbc, hbs, in32, e1, e2]
  refine ⟨by omega, by omega, by omega, ?_⟩
  refine ⟨by omega, by omega, by omega, ?_⟩
  refine Gm_post hcall (fun r W' hr => ?_)
  obtain ⟨h1, h2, h3, z, rfl, hG⟩ := hr
  have h4 : W'.2 0 = ea 0 L X := h3.trans h0
  have v0 : 0 < W'.1 := by omega
  have v2 : 148 < W'.1 := by omega
  simp only [s_1, s_2, s_3, s_4, s_76, s_5, s_6, s_7, s_8, s_9, s_10, s_11, s_12, s_13, s_14, s_15, s_16, s_17, s_18, s_19, s_20, s_21, s_22, s_23, s_24, s_25, s_26, s_27, s_28, s_29, s_30, s_31, s_32, s_33, s_34, s_35, s_36, s_37, s_38, s_39, s_40l, s_40i, s_40r, s_41, s_43, t_44, t_45, t_46, t_47, s_48, s_49, s_50, s_51, s_52, s_53, s_54, s_55, s_56, s_57, s_58, s_59, s_60, s_61, s_62_0, s_62_1, s_62_2, s_66, s_67, s_68, s_69, s_70, s_71, s_72, s_73, sws_n, sws_c, lget, lset, fget, fset, nolg, nolong, avc, stw, cnd, isobj_eo, GCi, GCn, retk, List.length_cons, List.length_nil, ↓reduceIte, and_true, true_and, not_true_eq_false, not_false_eq_true, forall_const, Nat.reduceAdd, Nat.reduceLT, Nat.reduceLeDiff, Nat.lt_add_one, Nat.le_refl, Nat.zero_le, Nat.sub_zero, Int.reduceEq, Int.reduceNe, Int.reduceLT, Int.reduceLE, Int.reduceAdd, Int.reduceSub, Int.reduceMul, Int.reduceNeg, Int.reduceTDiv, Int.reduceTMod, ne_eq, reduceCtorEq, Nat.reduceEqDiff, Int.cast_ofNat_Int, true_or, or_true, false_or, or_false, lcq_0, lcq_2, lcq_3, lcq_4, lcq_5, mi_296, i296_1164, i296_1165, i296_1166, i296_1167, i296_1168, i296_1169, i296_1170, i296_1171, i296_1172, i296_1173, i296_1174, i296_1175, i296_1178, i296_1179, i296_1180, i296_1181, i296_1182, i296_1183, i296_1184, i296_1185, i296_1186, i296_1187, i296_1188, i296_1189, i296_1192, i296_1195, i296_1196, k170, k294, h4, h1, v0, v2, in32, e1, e2]
  refine ⟨by omega, by omega, by omega, ?_⟩
  refine ⟨by omega, by omega, by omega, ?_⟩
  refine Gm_post hG (fun r' W'' hr => ?_)
  obtain ⟨rfl, hJ⟩ := hr
  simp only [s_1, s_2, s_3, s_4, s_76, s_5, s_6, s_7, s_8, s_9, s_10, s_11, s_12, s_13, s_14, s_15, s_16, s_17, s_18, s_19, s_20, s_21, s_22, s_23, s_24, s_25, s_26, s_27, s_28, s_29, s_30, s_31, s_32, s_33, s_34, s_35, s_36, s_37, s_38, s_39, s_40l, s_40i, s_40r, s_41, s_43, t_44, t_45, t_46, t_47, s_48, s_49, s_50, s_51, s_52, s_53, s_54, s_55, s_56, s_57, s_58, s_59, s_60, s_61, s_62_0, s_62_1, s_62_2, s_66, s_67, s_68, s_69, s_70, s_71, s_72, s_73, sws_n, sws_c, lget, lset, fget, fset, nolg, nolong, avc, stw, cnd, isobj_eo, GCi, GCn, retk, List.length_cons, List.length_nil, ↓reduceIte, and_true, true_and, not_true_eq_false, not_false_eq_true, forall_const, Nat.reduceAdd, Nat.reduceLT, Nat.reduceLeDiff, Nat.lt_add_one, Nat.le_refl, Nat.zero_le, Nat.sub_zero, Int.reduceEq, Int.reduceNe, Int.reduceLT, Int.reduceLE, Int.reduceAdd, Int.reduceSub, Int.reduceMul, Int.reduceNeg, Int.reduceTDiv, Int.reduceTMod, ne_eq, reduceCtorEq, Nat.reduceEqDiff, Int.cast_ofNat_Int, true_or, or_true, false_or, or_false, lcq_0, lcq_2, lcq_3, lcq_4, lcq_5, mi_296, i296_1164, i296_1165, i296_1166, i296_1167, i296_1168, i296_1169, i296_1170, i296_1171, i296_1172, i296_1173, i296_1174, i296_1175, i296_1178, i296_1179, i296_1180, i296_1181, i296_1182, i296_1183, i296_1184, i296_1185, i296_1186, i296_1187, i296_1188, i296_1189, i296_1192, i296_1195, i296_1196, k170, k294]
  exact hnext W'' hJ
set_option maxRecDepth 10000 in
theorem lw_31 (h0 : W.2 0 = ea 0 L X) (hx : isobj (W.2 67) 11) (hW : 192 ≤ W.1) (hi : i + 6 ≤ L) (hL : L ≤ 3072) (hbc : 0 ≤ bc) (hbs : 0 ≤ bs) (hcall : CallOK J W 172 295 [vi (X (i + 1))])
    (hnext : ∀ W'', J W'' → G 296 1266 [some (vr 0), some (vr 67), some (vr 148), some (vi (i : Int))] [] W'' (bc - 0) (bs - 0) Q) : G 296 1197 [some (vr 0), some (vr 67), some (vr 148), some (vi (i : Int))] [] W bc bs Q := by
  have e1 : ((i : Int) + 1).toNat = i + 1 := by omega
  have w0 : 0 < W.1 := by omega
  have w1 : 67 < W.1 := by omega
  have w2 : 148 < W.1 := by omega
  rw [i296_1197]
  simp only [s_1, s_2, s_3, s_4, s_76, s_5, s_6, s_7, s_8, s_9, s_10, s_11, s_12, s_13, s_14, s_15, s_16, s_17, s_18, s_19, s_20, s_21, s_22, s_23, s_24, s_25, s_26, s_27, s_28, s_29, s_30, s_31, s_32, s_33, s_34, s_35, s_36, s_37, s_38, s_39, s_40l, s_40i, s_40r, s_41, s_43, t_44, t_45, t_46, t_47, s_48, s_49, s_50, s_51, s_52, s_53, s_54, s_55, s_56, s_57, s_58, s_59, s_60, s_61, s_62_0, s_62_1, s_62_2, s_66, s_67, s_68, s_69, s_70, s_71, s_72, s_73, sws_n, sws_c, lget, lset, fget, fset, nolg, nolong, avc, stw, cnd, isobj_eo, GCi, GCn, retk, List.length_cons, List.length_nil, ↓reduceIte, and_true, true_and, not_true_eq_false, not_false_eq_true, forall_const, Nat.reduceAdd, Nat.reduceLT, Nat.reduceLeDiff, Nat.lt_add_one, Nat.le_refl, Nat.zero_le, Nat.sub_zero, Int.reduceEq, Int.reduceNe, Int.reduceLT, Int.reduceLE, Int.reduceAdd, Int.reduceSub, Int.reduceMul, Int.reduceNeg, Int.reduceTDiv, Int.reduceTMod, ne_eq, reduceCtorEq, Nat.reduceEqDiff, Int.cast_ofNat_Int, true_or, or_true, false_or, or_false, lcq_0, lcq_2, lcq_3, lcq_4, lcq_5, mi_296, i296_1197, i296_1198, i296_1199, i296_1200, i296_1201, i296_1202, i296_1203, i296_1206, i296_1207, i296_1208, i296_1209, i296_1210, i296_1211, i296_1212, i296_1215, i296_1218, i296_1219, k172, k295, h0, hx, w0, w1, hbc, hbs, in32, e1]
  refine ⟨by omega, by omega, by omega, ?_⟩
  refine Gm_post hcall (fun r W' hr => ?_)
  obtain ⟨h1, h2, h3, z, rfl, hG⟩ := hr
  have h4 : W'.2 0 = ea 0 L X := h3.trans h0
  have v0 : 0 < W'.1 := by omega
  have v2 : 148 < W'.1 := by omega
  simp only [s_1, s_2, s_3, s_4, s_76, s_5, s_6, s_7, s_8, s_9, s_10, s_11, s_12, s_13, s_14, s_15, s_16, s_17, s_18, s_19, s_20, s_21, s_22, s_23, s_24, s_25, s_26, s_27, s_28, s_29, s_30, s_31, s_32, s_33, s_34, s_35, s_36, s_37, s_38, s_39, s_40l, s_40i, s_40r, s_41, s_43, t_44, t_45, t_46, t_47, s_48, s_49, s_50, s_51, s_52, s_53, s_54, s_55, s_56, s_57, s_58, s_59, s_60, s_61, s_62_0, s_62_1, s_62_2, s_66, s_67, s_68, s_69, s_70, s_71, s_72, s_73, sws_n, sws_c, lget, lset, fget, fset, nolg, nolong, avc, stw, cnd, isobj_eo, GCi, GCn, retk, List.length_cons, List.length_nil, ↓reduceIte, and_true, true_and, not_true_eq_false, not_false_eq_true, forall_const, Nat.reduceAdd, Nat.reduceLT, Nat.reduceLeDiff, Nat.lt_add_one, Nat.le_refl, Nat.zero_le, Nat.sub_zero, Int.reduceEq, Int.reduceNe, Int.reduceLT, Int.reduceLE, Int.reduceAdd, Int.reduceSub, Int.reduceMul, Int.reduceNeg, Int.reduceTDiv, Int.reduceTMod, ne_eq, reduceCtorEq, Nat.reduceEqDiff, Int.cast_ofNat_Int, true_or, or_true, false_or, or_false, lcq_0, lcq_2, lcq_3, lcq_4, lcq_5, mi_296, i296_1197, i296_1198, i296_1199, i296_1200, i296_1201, i296_1202, i296_1203, i296_1206, i296_1207, i296_1208, i296_1209, i296_1210, i296_1211, i296_1212, i296_1215, i296_1218, i296_1219, k172, k295, h4, h1, v0, v2, in32, e1]
  refine ⟨by omega, by omega, by omega, ?_⟩
  refine Gm_post hG (fun r' W'' hr => ?_)
  obtain ⟨rfl, hJ⟩ := hr
  simp only [s_1, s_2, s_3, s_4, s_76, s_5, s_6, s_7, s_8, s_9, s_10, s_11, s_12, s_13, s_14, s_15, s_16, s_17, s_18, s_19, s_20, s_21, s_22, s_23, s_24, s_25, s_26, s_27, s_28, s_29, s_30, s_31, s_32, s_33, s_34, s_35, s_36, s_37, s_38, s_39, s_40l, s_40i, s_40r, s_41, s_43, t_44, t_45, t_46, t_47, s_48, s_49, s_50, s_51, s_52, s_53, s_54, s_55, s_56, s_57, s_58, s_59, s_60, s_61, s_62_0, s_62_1, s_62_2, s_66, s_67, s_68, s_69, s_70, s_71, s_72, s_73, sws_n, sws_c, lget, lset, fget, fset, nolg, nolong, avc, stw, cnd, isobj_eo, GCi, GCn, retk, List.length_cons, List.length_nil, ↓reduceIte, and_true, true_and, not_true_eq_false, not_false_eq_true, forall_const, Nat.reduceAdd, Nat.reduceLT, Nat.reduceLeDiff, Nat.lt_add_one, Nat.le_refl, Nat.zero_le, Nat.sub_zero, Int.reduceEq, Int.reduceNe, Int.reduceLT, Int.reduceLE, Int.reduceAdd, Int.reduceSub, Int.reduceMul, Int.reduceNeg, Int.reduceTDiv, Int.reduceTMod, ne_eq, reduceCtorEq, Nat.reduceEqDiff, Int.cast_ofNat_Int, true_or, or_true, false_or, or_false, lcq_0, lcq_2, lcq_3, lcq_4, lcq_5, mi_296, i296_1197, i296_1198, i296_1199, i296_1200, i296_1201, i296_1202, i296_1203, i296_1206, i296_1207, i296_1208, i296_1209, i296_1210, i296_1211, i296_1212, i296_1215, i296_1218, i296_1219, k172, k295]
  exact hnext W'' hJ
set_option maxRecDepth 10000 in
theorem lw_32 (h0 : W.2 0 = ea 0 L X) (hx : isobj (W.2 67) 11) (hW : 192 ≤ W.1) (hi : i + 6 ≤ L) (hL : L ≤ 3072) (hbc : 21 ≤ bc) (hbs : 3959 ≤ bs) (hcall : CallOK J W 174 275 [vi (X (i + 1))])
    (hnext : ∀ W'', J W'' → G 296 1266 [some (vr 0), some (vr 67), some (vr 148), some (vi (i : Int))] [] W'' (bc - 21) (bs - 3959) Q) : G 296 1220 [some (vr 0), some (vr 67), some (vr 148), some (vi (i : Int))] [] W bc bs Q := by
  have e1 : ((i : Int) + 1).toNat = i + 1 := by omega
  have w0 : 0 < W.1 := by omega
  have w1 : 67 < W.1 := by omega
  have w2 : 148 < W.1 := by omega
  rw [i296_1220]
  simp only [s_1, s_2, s_3, s_4, s_76, s_5, s_6, s_7, s_8, s_9, s_10, s_11, s_12, s_13, s_14, s_15, s_16, s_17, s_18, s_19, s_20, s_21, s_22, s_23, s_24, s_25, s_26, s_27, s_28, s_29, s_30, s_31, s_32, s_33, s_34, s_35, s_36, s_37, s_38, s_39, s_40l, s_40i, s_40r, s_41, s_43, t_44, t_45, t_46, t_47, s_48, s_49, s_50, s_51, s_52, s_53, s_54, s_55, s_56, s_57, s_58, s_59, s_60, s_61, s_62_0, s_62_1, s_62_2, s_66, s_67, s_68, s_69, s_70, s_71, s_72, s_73, sws_n, sws_c, lget, lset, fget, fset, nolg, nolong, avc, stw, cnd, isobj_eo, GCi, GCn, retk, List.length_cons, List.length_nil, ↓reduceIte, and_true, true_and, not_true_eq_false, not_false_eq_true, forall_const, Nat.reduceAdd, Nat.reduceLT, Nat.reduceLeDiff, Nat.lt_add_one, Nat.le_refl, Nat.zero_le, Nat.sub_zero, Int.reduceEq, Int.reduceNe, Int.reduceLT, Int.reduceLE, Int.reduceAdd, Int.reduceSub, Int.reduceMul, Int.reduceNeg, Int.reduceTDiv, Int.reduceTMod, ne_eq, reduceCtorEq, Nat.reduceEqDiff, Int.cast_ofNat_Int, true_or, or_true, false_or, or_false, lcq_0, lcq_2, lcq_3, lcq_4, lcq_5, mi_296, i296_1220, i296_1221, i296_1222, i296_1223, i296_1224, i296_1225, i296_1226, i296_1229, i296_1230, i296_1231, i296_1232, i296_1233, i296_1234, i296_1235, i296_1238, i296_1241, i296_1242, k174, k275, h0, hx, w0, w1, hbc, hbs, in32, e1]
  refine ⟨by omega, by omega, by omega, ?_⟩
  refine Gm_post hcall (fun r W' hr => ?_)
  obtain ⟨h1, h2, h3, z, rfl, hG⟩ := hr
  have h4 : W'.2 0 = ea 0 L X := h3.trans h0
  have v0 : 0 < W'.1 := by omega
  have v2 : 148 < W'.1 := by omega
  simp only [s_1, s_2, s_3, s_4, s_76, s_5, s_6, s_7, s_8, s_9, s_10, s_11, s_12, s_13, s_14, s_15, s_16, s_17, s_18, s_19, s_20, s_21, s_22, s_23, s_24, s_25, s_26, s_27, s_28, s_29, s_30, s_31, s_32, s_33, s_34, s_35, s_36, s_37, s_38, s_39, s_40l, s_40i, s_40r, s_41, s_43, t_44, t_45, t_46, t_47, s_48, s_49, s_50, s_51, s_52, s_53, s_54, s_55, s_56, s_57, s_58, s_59, s_60, s_61, s_62_0, s_62_1, s_62_2, s_66, s_67, s_68, s_69, s_70, s_71, s_72, s_73, sws_n, sws_c, lget, lset, fget, fset, nolg, nolong, avc, stw, cnd, isobj_eo, GCi, GCn, retk, List.length_cons, List.length_nil, ↓reduceIte, and_true, true_and, not_true_eq_false, not_false_eq_true, forall_const, Nat.reduceAdd, Nat.reduceLT, Nat.reduceLeDiff, Nat.lt_add_one, Nat.le_refl, Nat.zero_le, Nat.sub_zero, Int.reduceEq, Int.reduceNe, Int.reduceLT, Int.reduceLE, Int.reduceAdd, Int.reduceSub, Int.reduceMul, Int.reduceNeg, Int.reduceTDiv, Int.reduceTMod, ne_eq, reduceCtorEq, Nat.reduceEqDiff, Int.cast_ofNat_Int, true_or, or_true, false_or, or_false, lcq_0, lcq_2, lcq_3, lcq_4, lcq_5, mi_296, i296_1220, i296_1221, i296_1222, i296_1223, i296_1224, i296_1225, i296_1226, i296_1229, i296_1230, i296_1231, i296_1232, i296_1233, i296_1234, i296_1235, i296_1238, i296_1241, i296_1242, k174, k275, h4, h1, v0, v2, in32, e1]
  refine ⟨by omega, by omega, by omega, ?_⟩
  refine Gm_post hG (fun r' W'' hr => ?_)
  obtain ⟨rfl, hJ⟩ := hr
  simp only [s_1, s_2, s_3, s_4, s_76, s_5, s_6, s_7, s_8, s_9, s_10, s_11, s_12, s_13, s_14, s_15, s_16, s_17, s_18, s_19, s_20, s_21, s_22, s_23, s_24, s_25, s_26, s_27, s_28, s_29, s_30, s_31, s_32, s_33, s_34, s_35, s_36, s_37, s_38, s_39, s_40l, s_40i, s_40r, s_41, s_43, t_44, t_45, t_46, t_47, s_48, s_49, s_50, s_51, s_52, s_53, s_54, s_55, s_56, s_57, s_58, s_59, s_60, s_61, s_62_0, s_62_1, s_62_2, s_66, s_67, s_68, s_69, s_70, s_71, s_72, s_73, sws_n, sws_c, lget, lset, fget, fset, nolg, nolong, avc, stw, cnd, isobj_eo, GCi, GCn, retk, List.length_cons, List.length_nil, ↓reduceIte, and_true, true_and, not_true_eq_false, not_false_eq_true, forall_const, Nat.reduceAdd, Nat.reduceLT, Nat.reduceLeDiff, Nat.lt_add_one, Nat.le_refl, Nat.zero_le, Nat.sub_zero, Int.reduceEq, Int.reduceNe, Int.reduceLT, Int.reduceLE, Int.reduceAdd, Int.reduceSub, Int.reduceMul, Int.reduceNeg, Int.reduceTDiv, Int.reduceTMod, ne_eq, reduceCtorEq, Nat.reduceEqDiff, Int.cast_ofNat_Int, true_or, or_true, false_or, or_false, lcq_0, lcq_2, lcq_3, lcq_4, lcq_5, mi_296, i296_1220, i296_1221, i296_1222, i296_1223, i296_1224, i296_1225, i296_1226, i296_1229, i296_1230, i296_1231, i296_1232, i296_1233, i296_1234, i296_1235, i296_1238, i296_1241, i296_1242, k174, k275]
  exact hnext W'' hJ
set_option maxRecDepth 10000 in
theorem lw_33 (h0 : W.2 0 = ea 0 L X) (hx : isobj (W.2 67) 11) (hW : 192 ≤ W.1) (hi : i + 6 ≤ L) (hL : L ≤ 3072) (hbc : 0 ≤ bc) (hbs : 0 ≤ bs) (hcall : CallOK J W 176 278 [vi (X (i + 1))])
    (hnext : ∀ W'', J W'' → G 296 1266 [some (vr 0), some (vr 67), some (vr 148), some (vi (i : Int))] [] W'' (bc - 0) (bs - 0) Q) : G 296 1243 [some (vr 0), some (vr 67), some (vr 148), some (vi (i : Int))] [] W bc bs Q := by
  have e1 : ((i : Int) + 1).toNat = i + 1 := by omega
  have w0 : 0 < W.1 := by omega
  have w1 : 67 < W.1 := by omega
  have w2 : 148 < W.1 := by omega
  rw [i296_1243]
  simp only [s_1, s_2, s_3, s_4, s_76, s_5, s_6, s_7, s_8, s_9, s_10, s_11, s_12, s_13, s_14, s_15, s_16, s_17, s_18, s_19, s_20, s_21, s_22, s_23, s_24, s_25, s_26, s_27, s_28, s_29, s_30, s_31, s_32, s_33, s_34, s_35, s_36, s_37, s_38, s_39, s_40l, s_40i, s_40r, s_41, s_43, t_44, t_45, t_46, t_47, s_48, s_49, s_50, s_51, s_52, s_53, s_54, s_55, s_56, s_57, s_58, s_59, s_60, s_61, s_62_0, s_62_1, s_62_2, s_66, s_67, s_68, s_69, s_70, s_71, s_72, s_73, sws_n, sws_c, lget, lset, fget, fset, nolg, nolong, avc, stw, cnd, isobj_eo, GCi, GCn, retk, List.length_cons, List.length_nil, ↓reduceIte, and_true, true_and, not_true_eq_false, not_false_eq_true, forall_const, Nat.reduceAdd, Nat.reduceLT, Nat.reduceLeDiff, Nat.lt_add_one, Nat.le_refl, Nat.zero_le, Nat.sub_zero, Int.reduceEq, Int.reduceNe, Int.reduceLT, Int.reduceLE, Int.reduceAdd, Int.reduceSub, Int.reduceMul, Int.reduceNeg, Int.reduceTDiv, Int.reduceTMod, ne_eq, reduceCtorEq, Nat.reduceEqDiff, Int.cast_ofNat_Int, true_or, or_true, false_or, or_false, lcq_0, lcq_2, lcq_3, lcq_4, lcq_5, mi_296, i296_1243, i296_1244, i296_1245, i296_1246, i296_1247, i296_1248, i296_1249, i296_1252, i296_1253, i296_1254, i296_1255, i296_1256, i296_1257, i296_1258, i296_1261, i296_1264, i296_1265, k176, k278, h0, hx, w0, w1, hbc, hbs, in32, e1]
  refine ⟨by omega, by omega, by omega, ?_⟩
  refine Gm_post hcall (fun r W' hr => ?_)
  obtain ⟨h1, h2, h3, z, rfl, hG⟩ := hr
  have h4 : W'.2 0 = ea 0 L X := h3.trans h0
  have v0 : 0 < W'.1 := by omega
  have v2 : 148 < W'.1 := by omega
  simp only [s_1, s_2, s_3, s_4, s_76, s_5, s_6, s_7, s_8, s_9, s_10, s_11, s_12, s_13, s_14, s_15, s_16, s_17, s_18, s_19, s_20, s_21, s_22, s_23, s_24, s_25, s_26, s_27, s_28, s_29, s_30, s_31, s_32, s_33, s_34, s_35, s_36, s_37, s_38, s_39, s_40l, s_40i, s_40r, s_41, s_43, t_44, t_45, t_46, t_47, s_48, s_49, s_50, s_51, s_52, s_53, s_54, s_55, s_56, s_57, s_58, s_59, s_60, s_61, s_62_0, s_62_1, s_62_2, s_66, s_67, s_68, s_69, s_70, s_71, s_72, s_73, sws_n, sws_c, lget, lset, fget, fset, nolg, nolong, avc, stw, cnd, isobj_eo, GCi, GCn, retk, List.length_cons, List.length_nil, ↓reduceIte, and_true, true_and, not_true_eq_false, not_false_eq_true, forall_const, Nat.reduceAdd, Nat.reduceLT, Nat.reduceLeDiff, Nat.lt_add_one, Nat.le_refl, Nat.zero_le, Nat.sub_zero, Int.reduceEq, Int.reduceNe, Int.reduceLT, Int.reduceLE, Int.reduceAdd, Int.reduceSub, Int.reduceMul, Int.reduceNeg, Int.reduceTDiv, Int.reduceTMod, ne_eq, reduceCtorEq, Nat.reduceEqDiff, Int.cast_ofNat_Int, true_or, or_true, false_or, or_false, lcq_0, lcq_2, lcq_3, lcq_4, lcq_5, mi_296, i296_1243, i296_1244, i296_1245, i296_1246, i296_1247, i296_1248, i296_1249, i296_1252, i296_1253, i296_1254, i296_1255, i296_1256, i296_1257, i296_1258, i296_1261, i296_1264, i296_1265, k176, k278, h4, h1, v0, v2, in32, e1]
  refine ⟨by omega, by omega, by omega, ?_⟩
  refine Gm_post hG (fun r' W'' hr => ?_)
  obtain ⟨rfl, hJ⟩ := hr
  simp only [s_1, s_2, s_3, s_4, s_76, s_5, s_6, s_7, s_8, s_9, s_10, s_11, s_12, s_13, s_14, s_15, s_16, s_17, s_18, s_19, s_20, s_21, s_22, s_23, s_24, s_25, s_26, s_27, s_28, s_29, s_30, s_31, s_32, s_33, s_34, s_35, s_36, s_37, s_38, s_39, s_40l, s_40i, s_40r, s_41, s_43, t_44, t_45, t_46, t_47, s_48, s_49, s_50, s_51, s_52, s_53, s_54, s_55, s_56, s_57, s_58, s_59, s_60, s_61, s_62_0, s_62_1, s_62_2, s_66, s_67, s_68, s_69, s_70, s_71, s_72, s_73, sws_n, sws_c, lget, lset, fget, fset, nolg, nolong, avc, stw, cnd, isobj_eo, GCi, GCn, retk, List.length_cons, List.length_nil, ↓reduceIte, and_true, true_and, not_true_eq_false, not_false_eq_true, forall_const, Nat.reduceAdd, Nat.reduceLT, Nat.reduceLeDiff, Nat.lt_add_one, Nat.le_refl, Nat.zero_le, Nat.sub_zero, Int.reduceEq, Int.reduceNe, Int.reduceLT, Int.reduceLE, Int.reduceAdd, Int.reduceSub, Int.reduceMul, Int.reduceNeg, Int.reduceTDiv, Int.reduceTMod, ne_eq, reduceCtorEq, Nat.reduceEqDiff, Int.cast_ofNat_Int, true_or, or_true, false_or, or_false, lcq_0, lcq_2, lcq_3, lcq_4, lcq_5, mi_296, i296_1243, i296_1244, i296_1245, i296_1246, i296_1247, i296_1248, i296_1249, i296_1252, i296_1253, i296_1254, i296_1255, i296_1256, i296_1257, i296_1258, i296_1261, i296_1264, i296_1265, k176, k278]
  exact hnext W'' hJ
end LAW
def opc : List Nat := [13, 19, 24, 43, 45, 58, 60, 61, 102, 103, 119, 124, 126, 127, 130, 134, 136, 139, 142, 147, 150, 152, 153, 156, 157, 161, 162, 163, 167, 169, 170, 172, 174, 176]
def opr : List Nat := [178, 181, 184, 191, 224, 193, 195, 196, 223, 236, 250, 253, 255, 256, 259, 262, 263, 266, 268, 272, 273, 274, 279, 283, 284, 287, 288, 289, 292, 293, 294, 295, 275, 278]
def opn : List Nat := [4, 4, 3, 2, 3, 5, 1, 0, 0, 2, 2, 2, 2, 1, 1, 0, 2, 1, 2, 1, 1, 1, 3, 3, 2, 1, 3, 3, 2, 2, 2, 1, 1, 1]
def opa (X : Nat → Int) (i : Nat) : Nat → List AV
  | 0 => []
  | 1 => [vi (X (i + 1))]
  | 2 => [vi (X (i + 1)), vi (X (i + 2))]
  | 3 => [vi (X (i + 1)), vi (X (i + 2)), vi (X (i + 3))]
  | 4 => [vi (X (i + 1)), vi (X (i + 2)), vi (X (i + 3)), vi (X (i + 4))]
  | _ => [vi (X (i + 1)), vi (X (i + 2)), vi (X (i + 3)), vi (X (i + 4)), vi (X (i + 5))]
set_option maxRecDepth 10000 in
set_option maxHeartbeats 4000000 in
theorem law_loop {L : Nat} {X : Nat → Int} (hL : L ≤ 3072) (I : Nat → AW → Prop) (hI : ∀ c W, I c W → W.2 0 = ea 0 L X ∧ isobj (W.2 67) 11 ∧ 192 ≤ W.1) (hdf : ∀ c W, I c W → I (c + 1) W)
    (hst : ∀ c W, 6 * c + 6 ≤ L → I c W → ∀ k, k < 34 → CallOK (I (c + 1)) W (opc.getD k 0) (opr.getD k 0) (opa X (6 * c) (opn.getD k 0))) :
    ∀ m c W bc bs, c + m = 512 → I c W → 42 * m ≤ bc → 7918 * m ≤ bs → G 296 18 [some (vr 0), some (vr 67), some (vr 148), some (vi ((6 * c : Nat) : Int))] [] W bc bs (fun r _ => r = some (vi 1)) := by
  intro m
  induction m with
  | zero =>
    intro c W bc bs hc hW _ _
    obtain ⟨h0, -, h2⟩ := hI c W hW
    have w0 : 0 < W.1 := by omega
    rw [i296_18]
    simp only [s_1, s_2, s_3, s_4, s_76, s_5, s_6, s_7, s_8, s_9, s_10, s_11, s_12, s_13, s_14, s_15, s_16, s_17, s_18, s_19, s_20, s_21, s_22, s_23, s_24, s_25, s_26, s_27, s_28, s_29, s_30, s_31, s_32, s_33, s_34, s_35, s_36, s_37, s_38, s_39, s_40l, s_40i, s_40r, s_41, s_43, t_44, t_45, t_46, t_47, s_48, s_49, s_50, s_51, s_52, s_53, s_54, s_55, s_56, s_57, s_58, s_59, s_60, s_61, s_62_0, s_62_1, s_62_2, s_66, s_67, s_68, s_69, s_70, s_71, s_72, s_73, sws_n, sws_c, lget, lset, fget, fset, nolg, nolong, avc, stw, cnd, isobj_eo, GCi, GCn, retk, List.length_cons, List.length_nil, ↓reduceIte, and_true, true_and, not_true_eq_false, not_false_eq_true, forall_const, Nat.reduceAdd, Nat.reduceLT, Nat.reduceLeDiff, Nat.lt_add_one, Nat.le_refl, Nat.zero_le, Nat.sub_zero, Int.reduceEq, Int.reduceNe, Int.reduceLT, Int.reduceLE, Int.reduceAdd, Int.reduceSub, Int.reduceMul, Int.reduceNeg, Int.reduceTDiv, Int.reduceTMod, ne_eq, reduceCtorEq, Nat.reduceEqDiff, Int.cast_ofNat_Int, true_or, or_true, false_or, or_false, lcq_0, lcq_2, lcq_3, lcq_4, lcq_5, mi_296, i296_18, i296_19, i296_20, i296_21, i296_23, i296_24, i296_27, i296_28, i296_29, i296_30, i296_32, i296_33, i296_1272, i296_1273, h0, w0, in32]
    refine ⟨by omega, by omega, ?_⟩
    rw [if_pos (by omega)]
    exact trivial
  | succ m ih =>
    intro c W bc bs hc hW hbc hbs
    obtain ⟨h0, h1, h2⟩ := hI c W hW
    have w0 : 0 < W.1 := by omega
    have nx : ∀ W2 b1 b2, I (c + 1) W2 → 42 * m ≤ b1 → 7918 * m ≤ b2 → G 296 1266 [some (vr 0), some (vr 67), some (vr 148), some (vi ((6 * c : Nat) : Int))] [] W2 b1 b2 (fun r _ => r = some (vi 1)) := by
      intro W2 b1 b2 hI2 g1 g2
      obtain ⟨-, -, k2⟩ := hI _ _ hI2
      rw [i296_1266]
      simp only [s_1, s_2, s_3, s_4, s_76, s_5, s_6, s_7, s_8, s_9, s_10, s_11, s_12, s_13, s_14, s_15, s_16, s_17, s_18, s_19, s_20, s_21, s_22, s_23, s_24, s_25, s_26, s_27, s_28, s_29, s_30, s_31, s_32, s_33, s_34, s_35, s_36, s_37, s_38, s_39, s_40l, s_40i, s_40r, s_41, s_43, t_44, t_45, t_46, t_47, s_48, s_49, s_50, s_51, s_52, s_53, s_54, s_55, s_56, s_57, s_58, s_59, s_60, s_61, s_62_0, s_62_1, s_62_2, s_66, s_67, s_68, s_69, s_70, s_71, s_72, s_73, sws_n, sws_c, lget, lset, fget, fset, nolg, nolong, avc, stw, cnd, isobj_eo, GCi, GCn, retk, List.length_cons, List.length_nil, ↓reduceIte, and_true, true_and, not_true_eq_false, not_false_eq_true, forall_const, Nat.reduceAdd, Nat.reduceLT, Nat.reduceLeDiff, Nat.lt_add_one, Nat.le_refl, Nat.zero_le, Nat.sub_zero, Int.reduceEq, Int.reduceNe, Int.reduceLT, Int.reduceLE, Int.reduceAdd, Int.reduceSub, Int.reduceMul, Int.reduceNeg, Int.reduceTDiv, Int.reduceTMod, ne_eq, reduceCtorEq, Nat.reduceEqDiff, Int.cast_ofNat_Int, true_or, or_true, false_or, or_false, lcq_0, lcq_2, lcq_3, lcq_4, lcq_5, mi_296, i296_1266, i296_1269, in32]
      refine ⟨by omega, ?_⟩
      have := ih (c + 1) W2 b1 b2 (by omega) hI2 g1 g2
      rwa [show (((6 * (c + 1) : Nat) : Int)) = ((6 * c : Nat) : Int) + 6 by omega] at this
    rw [i296_18]
    simp only [s_1, s_2, s_3, s_4, s_76, s_5, s_6, s_7, s_8, s_9, s_10, s_11, s_12, s_13, s_14, s_15, s_16, s_17, s_18, s_19, s_20, s_21, s_22, s_23, s_24, s_25, s_26, s_27, s_28, s_29, s_30, s_31, s_32, s_33, s_34, s_35, s_36, s_37, s_38, s_39, s_40l, s_40i, s_40r, s_41, s_43, t_44, t_45, t_46, t_47, s_48, s_49, s_50, s_51, s_52, s_53, s_54, s_55, s_56, s_57, s_58, s_59, s_60, s_61, s_62_0, s_62_1, s_62_2, s_66, s_67, s_68, s_69, s_70, s_71, s_72, s_73, sws_n, sws_c, lget, lset, fget, fset, nolg, nolong, avc, stw, cnd, isobj_eo, GCi, GCn, retk, List.length_cons, List.length_nil, ↓reduceIte, and_true, true_and, not_true_eq_false, not_false_eq_true, forall_const, Nat.reduceAdd, Nat.reduceLT, Nat.reduceLeDiff, Nat.lt_add_one, Nat.le_refl, Nat.zero_le, Nat.sub_zero, Int.reduceEq, Int.reduceNe, Int.reduceLT, Int.reduceLE, Int.reduceAdd, Int.reduceSub, Int.reduceMul, Int.reduceNeg, Int.reduceTDiv, Int.reduceTMod, ne_eq, reduceCtorEq, Nat.reduceEqDiff, Int.cast_ofNat_Int, true_or, or_true, false_or, or_false, lcq_0, lcq_2, lcq_3, lcq_4, lcq_5, mi_296, i296_18, i296_19, i296_20, i296_21, i296_23, i296_24, i296_27, i296_28, i296_29, i296_30, i296_32, i296_33, i296_1272, i296_1273, h0, w0, in32, Int.toNat_natCast]
    refine ⟨by omega, by omega, ?_⟩
    by_cases hx : (L : Int) - 6 < ((6 * c : Nat) : Int)
    · rw [if_pos hx]
      exact trivial
    · rw [if_neg hx]
      have hi : 6 * c + 6 ≤ L := by omega
      refine ⟨by omega, by omega, ?_⟩
      generalize (Int32.ofInt (X (6 * c)) &&& Int32.ofInt 63).toInt = z
      by_cases hz0 : z = 0
      · rw [if_pos hz0]
        exact lw_0 h0 h1 h2 hi hL (by omega) (by omega) (hst c W hi hW 0 (by decide)) (fun W2 q => nx W2 _ _ q (by omega) (by omega))
      rw [if_neg hz0]
      by_cases hz1 : z = 1
      · rw [if_pos hz1]
        exact lw_1 h0 h1 h2 hi hL (by omega) (by omega) (hst c W hi hW 1 (by decide)) (fun W2 q => nx W2 _ _ q (by omega) (by omega))
      rw [if_neg hz1]
      by_cases hz2 : z = 2
      · rw [if_pos hz2]
        exact lw_2 h0 h1 h2 hi hL (by omega) (by omega) (hst c W hi hW 2 (by decide)) (fun W2 q => nx W2 _ _ q (by omega) (by omega))
      rw [if_neg hz2]
      by_cases hz3 : z = 3
      · rw [if_pos hz3]
        exact lw_3 h0 h1 h2 hi hL (by omega) (by omega) (hst c W hi hW 3 (by decide)) (fun W2 q => nx W2 _ _ q (by omega) (by omega))
      rw [if_neg hz3]
      by_cases hz4 : z = 4
      · rw [if_pos hz4]
        exact lw_4 h0 h1 h2 hi hL (by omega) (by omega) (hst c W hi hW 4 (by decide)) (fun W2 q => nx W2 _ _ q (by omega) (by omega))
      rw [if_neg hz4]
      by_cases hz5 : z = 5
      · rw [if_pos hz5]
        exact lw_5 h0 h1 h2 hi hL (by omega) (by omega) (hst c W hi hW 5 (by decide)) (fun W2 q => nx W2 _ _ q (by omega) (by omega))
      rw [if_neg hz5]
      by_cases hz6 : z = 6
      · rw [if_pos hz6]
        exact lw_6 h0 h1 h2 hi hL (by omega) (by omega) (hst c W hi hW 6 (by decide)) (fun W2 q => nx W2 _ _ q (by omega) (by omega))
      rw [if_neg hz6]
      by_cases hz7 : z = 7
      · rw [if_pos hz7]
        exact lw_7 h0 h1 h2 hi hL (by omega) (by omega) (hst c W hi hW 7 (by decide)) (fun W2 q => nx W2 _ _ q (by omega) (by omega))
      rw [if_neg hz7]
      by_cases hz8 : z = 8
      · rw [if_pos hz8]
        exact lw_8 h0 h1 h2 hi hL (by omega) (by omega) (hst c W hi hW 8 (by decide)) (fun W2 q => nx W2 _ _ q (by omega) (by omega))
      rw [if_neg hz8]
      by_cases hz9 : z = 9
      · rw [if_pos hz9]
        exact lw_9 h0 h1 h2 hi hL (by omega) (by omega) (hst c W hi hW 9 (by decide)) (fun W2 q => nx W2 _ _ q (by omega) (by omega))
      rw [if_neg hz9]
      by_cases hz10 : z = 10
      · rw [if_pos hz10]
        exact lw_10 h0 h1 h2 hi hL (by omega) (by omega) (hst c W hi hW 10 (by decide)) (fun W2 q => nx W2 _ _ q (by omega) (by omega))
      rw [if_neg hz10]
      by_cases hz11 : z = 11
      · rw [if_pos hz11]
        exact lw_11 h0 h1 h2 hi hL (by omega) (by omega) (hst c W hi hW 11 (by decide)) (fun W2 q => nx W2 _ _ q (by omega) (by omega))
      rw [if_neg hz11]
      by_cases hz12 : z = 12
      · rw [if_pos hz12]
        exact lw_12 h0 h1 h2 hi hL (by omega) (by omega) (hst c W hi hW 12 (by decide)) (fun W2 q => nx W2 _ _ q (by omega) (by omega))
      rw [if_neg hz12]
      by_cases hz13 : z = 13
      · rw [if_pos hz13]
        exact lw_13 h0 h1 h2 hi hL (by omega) (by omega) (hst c W hi hW 13 (by decide)) (fun W2 q => nx W2 _ _ q (by omega) (by omega))
      rw [if_neg hz13]
      by_cases hz14 : z = 14
      · rw [if_pos hz14]
        exact lw_14 h0 h1 h2 hi hL (by omega) (by omega) (hst c W hi hW 14 (by decide)) (fun W2 q => nx W2 _ _ q (by omega) (by omega))
      rw [if_neg hz14]
      by_cases hz15 : z = 15
      · rw [if_pos hz15]
        exact lw_15 h0 h1 h2 hi hL (by omega) (by omega) (hst c W hi hW 15 (by decide)) (fun W2 q => nx W2 _ _ q (by omega) (by omega))
      rw [if_neg hz15]
      by_cases hz16 : z = 16
      · rw [if_pos hz16]
        exact lw_16 h0 h1 h2 hi hL (by omega) (by omega) (hst c W hi hW 16 (by decide)) (fun W2 q => nx W2 _ _ q (by omega) (by omega))
      rw [if_neg hz16]
      by_cases hz17 : z = 17
      · rw [if_pos hz17]
        exact lw_17 h0 h1 h2 hi hL (by omega) (by omega) (hst c W hi hW 17 (by decide)) (fun W2 q => nx W2 _ _ q (by omega) (by omega))
      rw [if_neg hz17]
      by_cases hz18 : z = 18
      · rw [if_pos hz18]
        exact lw_18 h0 h1 h2 hi hL (by omega) (by omega) (hst c W hi hW 18 (by decide)) (fun W2 q => nx W2 _ _ q (by omega) (by omega))
      rw [if_neg hz18]
      by_cases hz19 : z = 19
      · rw [if_pos hz19]
        exact lw_19 h0 h1 h2 hi hL (by omega) (by omega) (hst c W hi hW 19 (by decide)) (fun W2 q => nx W2 _ _ q (by omega) (by omega))
      rw [if_neg hz19]
      by_cases hz20 : z = 20
      · rw [if_pos hz20]
        exact lw_20 h0 h1 h2 hi hL (by omega) (by omega) (hst c W hi hW 20 (by decide)) (fun W2 q => nx W2 _ _ q (by omega) (by omega))
      rw [if_neg hz20]
      by_cases hz21 : z = 21
      · rw [if_pos hz21]
        exact lw_21 h0 h1 h2 hi hL (by omega) (by omega) (hst c W hi hW 21 (by decide)) (fun W2 q => nx W2 _ _ q (by omega) (by omega))
      rw [if_neg hz21]
      by_cases hz22 : z = 22
      · rw [if_pos hz22]
        exact lw_22 h0 h1 h2 hi hL (by omega) (by omega) (hst c W hi hW 22 (by decide)) (fun W2 q => nx W2 _ _ q (by omega) (by omega))
      rw [if_neg hz22]
      by_cases hz23 : z = 23
      · rw [if_pos hz23]
        exact lw_23 h0 h1 h2 hi hL (by omega) (by omega) (hst c W hi hW 23 (by decide)) (fun W2 q => nx W2 _ _ q (by omega) (by omega))
      rw [if_neg hz23]
      by_cases hz24 : z = 24
      · rw [if_pos hz24]
        exact lw_24 h0 h1 h2 hi hL (by omega) (by omega) (hst c W hi hW 24 (by decide)) (fun W2 q => nx W2 _ _ q (by omega) (by omega))
      rw [if_neg hz24]
      by_cases hz25 : z = 25
      · rw [if_pos hz25]
        exact lw_25 h0 h1 h2 hi hL (by omega) (by omega) (hst c W hi hW 25 (by decide)) (fun W2 q => nx W2 _ _ q (by omega) (by omega))
      rw [if_neg hz25]
      by_cases hz26 : z = 26
      · rw [if_pos hz26]
        exact lw_26 h0 h1 h2 hi hL (by omega) (by omega) (hst c W hi hW 26 (by decide)) (fun W2 q => nx W2 _ _ q (by omega) (by omega))
      rw [if_neg hz26]
      by_cases hz27 : z = 27
      · rw [if_pos hz27]
        exact lw_27 h0 h1 h2 hi hL (by omega) (by omega) (hst c W hi hW 27 (by decide)) (fun W2 q => nx W2 _ _ q (by omega) (by omega))
      rw [if_neg hz27]
      by_cases hz28 : z = 28
      · rw [if_pos hz28]
        exact lw_28 h0 h1 h2 hi hL (by omega) (by omega) (hst c W hi hW 28 (by decide)) (fun W2 q => nx W2 _ _ q (by omega) (by omega))
      rw [if_neg hz28]
      by_cases hz29 : z = 29
      · rw [if_pos hz29]
        exact lw_29 h0 h1 h2 hi hL (by omega) (by omega) (hst c W hi hW 29 (by decide)) (fun W2 q => nx W2 _ _ q (by omega) (by omega))
      rw [if_neg hz29]
      by_cases hz30 : z = 30
      · rw [if_pos hz30]
        exact lw_30 h0 h1 h2 hi hL (by omega) (by omega) (hst c W hi hW 30 (by decide)) (fun W2 q => nx W2 _ _ q (by omega) (by omega))
      rw [if_neg hz30]
      by_cases hz31 : z = 31
      · rw [if_pos hz31]
        exact lw_31 h0 h1 h2 hi hL (by omega) (by omega) (hst c W hi hW 31 (by decide)) (fun W2 q => nx W2 _ _ q (by omega) (by omega))
      rw [if_neg hz31]
      by_cases hz32 : z = 32
      · rw [if_pos hz32]
        exact lw_32 h0 h1 h2 hi hL (by omega) (by omega) (hst c W hi hW 32 (by decide)) (fun W2 q => nx W2 _ _ q (by omega) (by omega))
      rw [if_neg hz32]
      by_cases hz33 : z = 33
      · rw [if_pos hz33]
        exact lw_33 h0 h1 h2 hi hL (by omega) (by omega) (hst c W hi hW 33 (by decide)) (fun W2 q => nx W2 _ _ q (by omega) (by omega))
      rw [if_neg hz33]
      exact nx W bc bs (hdf c W hW) (by omega) (by omega)
set_option maxRecDepth 100000 in
set_option maxHeartbeats 4000000 in
theorem law_of {L : Nat} {xs : Nat → Int32} (hL : L ≤ 3072) (I : Nat → AW → Prop) (hI0 : I 0 (wI L xs)) (hI : ∀ c W, I c W → W.2 0 = ea 0 L (Xs xs) ∧ isobj (W.2 67) 11 ∧ 192 ≤ W.1) (hdf : ∀ c W, I c W → I (c + 1) W)
    (hst : ∀ c W, 6 * c + 6 ≤ L → I c W → ∀ k, k < 34 → CallOK (I (c + 1)) W (opc.getD k 0) (opr.getD k 0) (opa (Xs xs) (6 * c) (opn.getD k 0))) : Gm 296 [vr 0] (67, frz L xs) (fun r _ => r = some (vi 1)) := by
  have hW : ((67, frz L xs) : AW) = wx 67 (frz L xs) [] := (wx_e (W := (67, frz L xs))).symm
  have hU : frz L xs 1 = ea 0 6 ush := rfl
  have q67 : nfz = 67 := rfl
  rw [hW, e296]
  simp only [s_1, s_2, s_3, s_4, s_76, s_5, s_6, s_7, s_8, s_9, s_10, s_11, s_12, s_13, s_14, s_15, s_16, s_17, s_18, s_19, s_20, s_21, s_22, s_23, s_24, s_25, s_26, s_27, s_28, s_29, s_30, s_31, s_32, s_33, s_34, s_35, s_36, s_37, s_38, s_39, s_40l, s_40i, s_40r, s_41, s_43, t_44, t_45, t_46, t_47, s_48, s_49, s_50, s_51, s_52, s_53, s_54, s_55, s_56, s_57, s_58, s_59, s_60, s_61, s_62_0, s_62_1, s_62_2, s_66, s_67, s_68, s_69, s_70, s_71, s_72, s_73, sws_n, sws_c, lget, lset, fget, fset, nolg, nolong, avc, stw, cnd, isobj_eo, GCi, GCn, retk, List.length_cons, List.length_nil, ↓reduceIte, and_true, true_and, not_true_eq_false, not_false_eq_true, forall_const, Nat.reduceAdd, Nat.reduceLT, Nat.reduceLeDiff, Nat.lt_add_one, Nat.le_refl, Nat.zero_le, Nat.sub_zero, Int.reduceEq, Int.reduceNe, Int.reduceLT, Int.reduceLE, Int.reduceAdd, Int.reduceSub, Int.reduceMul, Int.reduceNeg, Int.reduceTDiv, Int.reduceTMod, ne_eq, reduceCtorEq, Nat.reduceEqDiff, Int.cast_ofNat_Int, true_or, or_true, false_or, or_false, lcq_0, lcq_2, lcq_3, lcq_4, lcq_5, mi_296, i296_0, i296_3, i296_4, i296_7, i296_8, i296_11, i296_12, i296_15, i296_16, i296_17, k0, k177, wx_1, wn_wx, wx_n, wx_0, wx_o, wu_n, wu_0, wu_o, fu_fu, fu_eq, xget, xset, List.cons_append, List.nil_append, Nat.reduceSub, Nat.zero_add, Nat.add_zero, Int.reduceToNat, Int.reduceLE, Int.reduceLT, Nat.reduceLeDiff, Nat.reduceLT, Nat.lt_add_left_iff_pos, Nat.add_lt_add_iff_left, Nat.lt_add_right_iff_pos, Nat.succ_ne_zero, true_or, or_true, fl_11, fl_12]
  refine ctor_in 0 (fun hq => ct_CM (by simp only [wx_1, wn_wx, wx_n, wx_0, wx_o, wu_n, wu_0, wu_o, fu_fu, fu_eq, xget, xset, List.cons_append, List.nil_append, Nat.reduceSub, Nat.zero_add, Nat.add_zero, Int.reduceToNat, Int.reduceLE, Int.reduceLT, Nat.reduceLeDiff, Nat.reduceLT, Nat.lt_add_left_iff_pos, Nat.add_lt_add_iff_left, Nat.lt_add_right_iff_pos, Nat.succ_ne_zero, true_or, or_true, List.length_cons, List.length_nil, Nat.reduceAdd] <;> omega) (by omega) (by simp only [wx_1, wn_wx, wx_n, wx_0, wx_o, wu_n, wu_0, wu_o, fu_fu, fu_eq, xget, xset, List.cons_append, List.nil_append, Nat.reduceSub, Nat.zero_add, Nat.add_zero, Int.reduceToNat, Int.reduceLE, Int.reduceLT, Nat.reduceLeDiff, Nat.reduceLT, Nat.lt_add_left_iff_pos, Nat.add_lt_add_iff_left, Nat.lt_add_right_iff_pos, Nat.succ_ne_zero, true_or, or_true]) (by rw [wx_o (by decide)]; exact hU) hq) (by simp only [wx_1, wn_wx, wx_n, wx_0, wx_o, wu_n, wu_0, wu_o, fu_fu, fu_eq, xget, xset, List.cons_append, List.nil_append, Nat.reduceSub, Nat.zero_add, Nat.add_zero, Int.reduceToNat, Int.reduceLE, Int.reduceLT, Nat.reduceLeDiff, Nat.reduceLT, Nat.lt_add_left_iff_pos, Nat.add_lt_add_iff_left, Nat.lt_add_right_iff_pos, Nat.succ_ne_zero, true_or, or_true, List.length_cons, List.length_nil, Nat.reduceAdd]) ?_
  simp only [s_1, s_2, s_3, s_4, s_76, s_5, s_6, s_7, s_8, s_9, s_10, s_11, s_12, s_13, s_14, s_15, s_16, s_17, s_18, s_19, s_20, s_21, s_22, s_23, s_24, s_25, s_26, s_27, s_28, s_29, s_30, s_31, s_32, s_33, s_34, s_35, s_36, s_37, s_38, s_39, s_40l, s_40i, s_40r, s_41, s_43, t_44, t_45, t_46, t_47, s_48, s_49, s_50, s_51, s_52, s_53, s_54, s_55, s_56, s_57, s_58, s_59, s_60, s_61, s_62_0, s_62_1, s_62_2, s_66, s_67, s_68, s_69, s_70, s_71, s_72, s_73, sws_n, sws_c, lget, lset, fget, fset, nolg, nolong, avc, stw, cnd, isobj_eo, GCi, GCn, retk, List.length_cons, List.length_nil, ↓reduceIte, and_true, true_and, not_true_eq_false, not_false_eq_true, forall_const, Nat.reduceAdd, Nat.reduceLT, Nat.reduceLeDiff, Nat.lt_add_one, Nat.le_refl, Nat.zero_le, Nat.sub_zero, Int.reduceEq, Int.reduceNe, Int.reduceLT, Int.reduceLE, Int.reduceAdd, Int.reduceSub, Int.reduceMul, Int.reduceNeg, Int.reduceTDiv, Int.reduceTMod, ne_eq, reduceCtorEq, Nat.reduceEqDiff, Int.cast_ofNat_Int, true_or, or_true, false_or, or_false, lcq_0, lcq_2, lcq_3, lcq_4, lcq_5, mi_296, i296_0, i296_3, i296_4, i296_7, i296_8, i296_11, i296_12, i296_15, i296_16, i296_17, k0, k177, wx_1, wn_wx, wx_n, wx_0, wx_o, wu_n, wu_0, wu_o, fu_fu, fu_eq, xget, xset, List.cons_append, List.nil_append, Nat.reduceSub, Nat.zero_add, Nat.add_zero, Int.reduceToNat, Int.reduceLE, Int.reduceLT, Nat.reduceLeDiff, Nat.reduceLT, Nat.lt_add_left_iff_pos, Nat.add_lt_add_iff_left, Nat.lt_add_right_iff_pos, Nat.succ_ne_zero, true_or, or_true, fl_11, fl_12]
  refine ctor_in 81 (fun hq => ct_RM (a := 148) (by simp only [wx_1, wn_wx, wx_n, wx_0, wx_o, wu_n, wu_0, wu_o, fu_fu, fu_eq, xget, xset, List.cons_append, List.nil_append, Nat.reduceSub, Nat.zero_add, Nat.add_zero, Int.reduceToNat, Int.reduceLE, Int.reduceLT, Nat.reduceLeDiff, Nat.reduceLT, Nat.lt_add_left_iff_pos, Nat.add_lt_add_iff_left, Nat.lt_add_right_iff_pos, Nat.succ_ne_zero, true_or, or_true, List.length_cons, List.length_nil, Nat.reduceAdd] <;> omega) (by omega) (by rw [show (148 : Nat) = 67 + 81 from rfl, wx_n]; rfl) hq) (by simp only [wx_1, wn_wx, wx_n, wx_0, wx_o, wu_n, wu_0, wu_o, fu_fu, fu_eq, xget, xset, List.cons_append, List.nil_append, Nat.reduceSub, Nat.zero_add, Nat.add_zero, Int.reduceToNat, Int.reduceLE, Int.reduceLT, Nat.reduceLeDiff, Nat.reduceLT, Nat.lt_add_left_iff_pos, Nat.add_lt_add_iff_left, Nat.lt_add_right_iff_pos, Nat.succ_ne_zero, true_or, or_true, List.length_cons, List.length_nil, Nat.reduceAdd]) ?_
  simp only [s_1, s_2, s_3, s_4, s_76, s_5, s_6, s_7, s_8, s_9, s_10, s_11, s_12, s_13, s_14, s_15, s_16, s_17, s_18, s_19, s_20, s_21, s_22, s_23, s_24, s_25, s_26, s_27, s_28, s_29, s_30, s_31, s_32, s_33, s_34, s_35, s_36, s_37, s_38, s_39, s_40l, s_40i, s_40r, s_41, s_43, t_44, t_45, t_46, t_47, s_48, s_49, s_50, s_51, s_52, s_53, s_54, s_55, s_56, s_57, s_58, s_59, s_60, s_61, s_62_0, s_62_1, s_62_2, s_66, s_67, s_68, s_69, s_70, s_71, s_72, s_73, sws_n, sws_c, lget, lset, fget, fset, nolg, nolong, avc, stw, cnd, isobj_eo, GCi, GCn, retk, List.length_cons, List.length_nil, ↓reduceIte, and_true, true_and, not_true_eq_false, not_false_eq_true, forall_const, Nat.reduceAdd, Nat.reduceLT, Nat.reduceLeDiff, Nat.lt_add_one, Nat.le_refl, Nat.zero_le, Nat.sub_zero, Int.reduceEq, Int.reduceNe, Int.reduceLT, Int.reduceLE, Int.reduceAdd, Int.reduceSub, Int.reduceMul, Int.reduceNeg, Int.reduceTDiv, Int.reduceTMod, ne_eq, reduceCtorEq, Nat.reduceEqDiff, Int.cast_ofNat_Int, true_or, or_true, false_or, or_false, lcq_0, lcq_2, lcq_3, lcq_4, lcq_5, mi_296, i296_0, i296_3, i296_4, i296_7, i296_8, i296_11, i296_12, i296_15, i296_16, i296_17, k0, k177, wx_1, wn_wx, wx_n, wx_0, wx_o, wu_n, wu_0, wu_o, fu_fu, fu_eq, xget, xset, List.cons_append, List.nil_append, Nat.reduceSub, Nat.zero_add, Nat.add_zero, Int.reduceToNat, Int.reduceLE, Int.reduceLT, Nat.reduceLeDiff, Nat.reduceLT, Nat.lt_add_left_iff_pos, Nat.add_lt_add_iff_left, Nat.lt_add_right_iff_pos, Nat.succ_ne_zero, true_or, or_true, fl_11, fl_12]
  have hl := law_loop hL I hI hdf hst 512 0 (wI L xs) 21504 4054016 rfl hI0 (by decide) (by decide)
  exact hl
