-- A FLOOR BECOMES ANOTHER
section BEC
variable {W : AW} {Q : AQ} {d o : Nat}
set_option maxRecDepth 10000 in
set_option maxHeartbeats 2000000 in
theorem x_tbecome (hd : MS W d) (ho : MS W o) (hq : d + 16 < o ∨ o + 16 < d) (h1 : 67 ≤ d ∧ d + 16 < W.1) (h2 : 67 ≤ o ∧ o + 16 < W.1) (hm : 0 ≤ ob W (o + 9) 0 ∧ ob W (o + 9) 0 ≤ 200)
    (hQ : ∀ W', W'.1 = W.1 → (∀ k, k < d + 9 ∨ d + 16 < k → W'.2 k = W.2 k) → W'.2 (d + 9) = o7 (d + 9) (fu (ob W (d + 9)) 0 (ob W (o + 9) 0)) →
      (∀ j, 10 ≤ j → j ≤ 13 → W'.2 (d + j) = ea 0 200 (fcp (ar W (o + j)) (ar W (d + j)) 0 0 (ob W (o + 9) 0).toNat)) → (∀ j, 14 ≤ j → j ≤ 16 → W'.2 (d + j) = ea 0 400 (fcp (ar W (o + j)) (ar W (d + j)) 0 0 (2 * ob W (o + 9) 0).toNat)) → Q none W') : Gm 155 [vr (d + 9), vr (o + 9)] W Q := by
  have q67 : nfz = 67 := rfl
  rw [e155]
  simp (disch := omega) only [s_1, s_2, s_3, s_4, s_76, s_5, s_6, s_7, s_8, s_9, s_10, s_11, s_12, s_13, s_14, s_15, s_16, s_17, s_18, s_19, s_20, s_21, s_22, s_23, s_24, s_25, s_26, s_27, s_28, s_29, s_30, s_31, s_32, s_33, s_34, s_35, s_36, s_37, s_38, s_39, s_40l, s_40i, s_40r, s_41, s_43, t_44, t_45, t_46, t_47, s_48, s_49, s_50, s_51, s_52, s_53, s_54, s_55, s_56, s_57, s_58, s_59, s_60, s_61, s_62_0, s_62_1, s_62_2, s_66, s_67, s_68, s_69, s_70, s_71, s_72, s_73, sws_n, sws_c, lget, lset, fget, fset, nolg, nolong, avc, stw, cnd, isobj_eo, GCi, GCn, retk, List.length_cons, List.length_nil, ↓reduceIte, and_true, true_and, not_true_eq_false, not_false_eq_true, forall_const, Nat.reduceAdd, Nat.reduceLT, Nat.reduceLeDiff, Nat.lt_add_one, Nat.le_refl, Nat.zero_le, Nat.sub_zero, Int.reduceEq, Int.reduceNe, Int.reduceLT, Int.reduceLE, Int.reduceAdd, Int.reduceSub, Int.reduceMul, Int.reduceNeg, Int.reduceTDiv, Int.reduceTMod, ne_eq, reduceCtorEq, Nat.reduceEqDiff, Int.cast_ofNat_Int, true_or, or_true, false_or, or_false, lcq_0, lcq_2, lcq_3, lcq_4, lcq_5, wu_s, wu_1, wu_w, wu_lt, wu_ne, ar_s, ar_n, rr_s, rr_n, ob_n, nz_c, lt_T, lt_F, le_T, le_F, ie_T, ie_F, nt_T, nt_F, nl_T, nl_F, in_T, and_false, false_and, and_self, not_true_eq_false, Int.toNat_natCast, Int.reduceToNat, if_true, if_false, mi_155, i155_0, i155_1, i155_2, i155_5, i155_8, i155_9, i155_12, i155_13, i155_14, i155_17, i155_18, i155_19, i155_22, i155_25, i155_26, i155_29, i155_30, i155_31, i155_34, i155_35, i155_36, i155_39, i155_42, i155_43, i155_46, i155_47, i155_48, i155_51, i155_52, i155_53, i155_56, i155_59, i155_60, i155_63, i155_64, i155_65, i155_68, i155_69, i155_70, i155_73, i155_76, i155_77, i155_80, i155_81, i155_82, i155_85, i155_86, i155_87, i155_88, i155_91, i155_92, i155_95, i155_96, i155_99, i155_100, i155_101, i155_104, i155_105, i155_106, i155_107, i155_110, i155_111, i155_114, i155_115, i155_118, i155_119, i155_120, i155_123, i155_124, i155_125, i155_126, i155_129, i155_130, i155_133, g7_0, g7_1, g7_2, g7_3, g7_4, g7_5, g7_6, g7_7, p7_0, ma_9 hd, ma_9 ho, ma_10 hd, ma_10 ho, ma_11 hd, ma_11 ho, ma_12 hd, ma_12 ho, ma_13 hd, ma_13 ho, ma_14 hd, ma_14 ho, ma_15 hd, ma_15 ho, ma_16 hd, ma_16 ho, fu_eq, Int.zero_add]
  refine hQ _ rfl (fun k hk => ?_) ?_ (fun j a b => ?_) (fun j a b => ?_)
  · simp (disch := omega) only [wu_ne]
  · simp (disch := omega) only [wu_ne, wu_s]
  · rcases (show j = 10 ∨ j = 11 ∨ j = 12 ∨ j = 13 by omega) with rfl | rfl | rfl | rfl <;> simp (disch := omega) only [wu_ne, wu_s]
  · rcases (show j = 14 ∨ j = 15 ∨ j = 16 by omega) with rfl | rfl | rfl <;> simp (disch := omega) only [wu_ne, wu_s]
theorem fcp_lt {f g : Nat → Int} {n i : Nat} (h : i < n) : fcp f g 0 0 n i = f i := by
  unfold fcp
  rw [if_pos (by omega), show 0 + (i - 0) = i by omega]
set_option maxRecDepth 10000 in
set_option maxHeartbeats 4000000 in
theorem x_become (hz : Zw W) (hd : MS W d) (ho : MS W o) (hq : d + 16 < o ∨ o + 16 < d) (h1 : 67 ≤ d ∧ d + 16 < W.1) (h2 : 67 ≤ o ∧ o + 16 < W.1) (hm : 0 ≤ ob W (o + 9) 0 ∧ ob W (o + 9) 0 ≤ 200) (hl : Ln W o)
    (hQ : ∀ W', W'.1 = W.1 → (∀ k, k < d ∨ d + 16 < k → W'.2 k = W.2 k) → MS W' d → Sq (cF W' d) (cF W o) → Ln W' d → Q none W') : Gm 154 [vr d, vr o] W Q := by
  have q67 : nfz = 67 := rfl
  have cp : ∀ j n, W.2 (o + j) = ea 0 n (ar W (o + j)) → W.2 (d + j) = ea 0 n (ar W (d + j)) → j ≤ 16 → fcp (ar W (o + j)) (ar W (d + j)) 0 0 n = ar W (o + j) := fun j n a b hj => fcp_w (hz.ar (by omega) (by omega) a) (hz.ar (by omega) (by omega) b)
  have c1 := cp 1 400 (ma_1 ho) (ma_1 hd) (by decide)
  have c2 := cp 2 100 (ma_2 ho) (ma_2 hd) (by decide)
  have c3 := cp 3 100 (ma_3 ho) (ma_3 hd) (by decide)
  have c4 := cp 4 180 (ma_4 ho) (ma_4 hd) (by decide)
  have c5 := cp 5 180 (ma_5 ho) (ma_5 hd) (by decide)
  have c6 := cp 6 180 (ma_6 ho) (ma_6 hd) (by decide)
  have c7 := cp 7 180 (ma_7 ho) (ma_7 hd) (by decide)
  have c8 := cp 8 180 (ma_8 ho) (ma_8 hd) (by decide)
  rw [e154]
  simp (disch := omega) only [s_1, s_2, s_3, s_4, s_76, s_5, s_6, s_7, s_8, s_9, s_10, s_11, s_12, s_13, s_14, s_15, s_16, s_17, s_18, s_19, s_20, s_21, s_22, s_23, s_24, s_25, s_26, s_27, s_28, s_29, s_30, s_31, s_32, s_33, s_34, s_35, s_36, s_37, s_38, s_39, s_40l, s_40i, s_40r, s_41, s_43, t_44, t_45, t_46, t_47, s_48, s_49, s_50, s_51, s_52, s_53, s_54, s_55, s_56, s_57, s_58, s_59, s_60, s_61, s_62_0, s_62_1, s_62_2, s_66, s_67, s_68, s_69, s_70, s_71, s_72, s_73, sws_n, sws_c, lget, lset, fget, fset, nolg, nolong, avc, stw, cnd, isobj_eo, GCi, GCn, retk, List.length_cons, List.length_nil, ↓reduceIte, and_true, true_and, not_true_eq_false, not_false_eq_true, forall_const, Nat.reduceAdd, Nat.reduceLT, Nat.reduceLeDiff, Nat.lt_add_one, Nat.le_refl, Nat.zero_le, Nat.sub_zero, Int.reduceEq, Int.reduceNe, Int.reduceLT, Int.reduceLE, Int.reduceAdd, Int.reduceSub, Int.reduceMul, Int.reduceNeg, Int.reduceTDiv, Int.reduceTMod, ne_eq, reduceCtorEq, Nat.reduceEqDiff, Int.cast_ofNat_Int, true_or, or_true, false_or, or_false, lcq_0, lcq_2, lcq_3, lcq_4, lcq_5, wu_s, wu_1, wu_w, wu_lt, wu_ne, ar_s, ar_n, rr_s, rr_n, ob_n, nz_c, lt_T, lt_F, le_T, le_F, ie_T, ie_F, nt_T, nt_F, nl_T, nl_F, in_T, and_false, false_and, and_self, not_true_eq_false, Int.toNat_natCast, Int.reduceToNat, if_true, if_false, mi_154, i154_0, i154_1, i154_2, i154_5, i154_8, i154_9, i154_10, i154_13, i154_16, i154_17, i154_18, i154_21, i154_24, i154_25, i154_26, i154_29, i154_32, i154_33, i154_34, i154_37, i154_40, i154_41, i154_42, i154_45, i154_48, i154_49, i154_52, i154_53, i154_54, i154_57, i154_58, i154_61, i154_64, i154_65, i154_68, i154_69, i154_70, i154_73, i154_74, i154_76, i154_79, i154_80, i154_83, i154_84, i154_85, i154_88, i154_89, i154_91, i154_94, i154_95, i154_98, i154_99, i154_100, i154_103, i154_104, i154_107, i154_110, i154_111, i154_114, i154_115, i154_116, i154_119, i154_120, i154_123, i154_126, i154_127, i154_130, i154_131, i154_132, i154_135, i154_136, i154_139, i154_142, i154_143, i154_146, i154_147, i154_148, i154_151, i154_152, i154_155, i154_158, i154_159, i154_162, i154_163, i154_164, i154_167, i154_168, i154_171, i154_174, i154_175, i154_178, i154_179, i154_182, i154_185, k155, g2_0, g2_1, g2_10, g2_11, g2_12, g2_13, g2_14, g2_2, g2_3, g2_4, g2_5, g2_6, g2_7, g2_8, g2_9, p2_0, p2_1, p2_2, p2_3, p2_4, p2_5, ma_0 hd, ma_0 ho, ma_1 hd, ma_1 ho, ma_2 hd, ma_2 ho, ma_3 hd, ma_3 ho, ma_4 hd, ma_4 ho, ma_5 hd, ma_5 ho, ma_6 hd, ma_6 ho, ma_7 hd, ma_7 ho, ma_8 hd, ma_8 ho, ma_9 hd, ma_9 ho, c1, c2, c3, c4, c5, c6, c7, c8]
  have hM : MS (wu (wu (wu (wu (wu (wu (wu (wu (wu W d (o2 d (fu (fu (fu (fu (fu (fu (ob W d) 0 (ob W o 0)) 1 (ob W o 1)) 2 (ob W o 2)) 3 (ob W o 3)) 4 (ob W o 4)) 5 (ob W o 5)))) (d + 1) (ea 0 400 (ar W (o + 1)))) (d + 2) (ea 0 100 (ar W (o + 2)))) (d + 3) (ea 0 100 (ar W (o + 3)))) (d + 4) (ea 0 180 (ar W (o + 4)))) (d + 5) (ea 0 180 (ar W (o + 5)))) (d + 6) (ea 0 180 (ar W (o + 6)))) (d + 7) (ea 0 180 (ar W (o + 7)))) (d + 8) (ea 0 180 (ar W (o + 8)))) d := mu_8 (mu_7 (mu_6 (mu_5 (mu_4 (mu_3 (mu_2 (mu_1 (mu_0 hd))))))))
  have hg : ∀ k, k < d ∨ d + 8 < k → (wu (wu (wu (wu (wu (wu (wu (wu (wu W d (o2 d (fu (fu (fu (fu (fu (fu (ob W d) 0 (ob W o 0)) 1 (ob W o 1)) 2 (ob W o 2)) 3 (ob W o 3)) 4 (ob W o 4)) 5 (ob W o 5)))) (d + 1) (ea 0 400 (ar W (o + 1)))) (d + 2) (ea 0 100 (ar W (o + 2)))) (d + 3) (ea 0 100 (ar W (o + 3)))) (d + 4) (ea 0 180 (ar W (o + 4)))) (d + 5) (ea 0 180 (ar W (o + 5)))) (d + 6) (ea 0 180 (ar W (o + 6)))) (d + 7) (ea 0 180 (ar W (o + 7)))) (d + 8) (ea 0 180 (ar W (o + 8)))).2 k = W.2 k := fun k hk => by simp (disch := omega) only [wu_ne]
  have hc : ∀ V, (V = wu (wu (wu (wu (wu (wu (wu (wu (wu W d (o2 d (fu (fu (fu (fu (fu (fu (ob W d) 0 (ob W o 0)) 1 (ob W o 1)) 2 (ob W o 2)) 3 (ob W o 3)) 4 (ob W o 4)) 5 (ob W o 5)))) (d + 1) (ea 0 400 (ar W (o + 1)))) (d + 2) (ea 0 100 (ar W (o + 2)))) (d + 3) (ea 0 100 (ar W (o + 3)))) (d + 4) (ea 0 180 (ar W (o + 4)))) (d + 5) (ea 0 180 (ar W (o + 5)))) (d + 6) (ea 0 180 (ar W (o + 6)))) (d + 7) (ea 0 180 (ar W (o + 7)))) (d + 8) (ea 0 180 (ar W (o + 8)))) → V.1 = W.1 ∧ (ob V d 0 = ob W o 0 ∧ ob V d 1 = ob W o 1 ∧ ob V d 2 = ob W o 2 ∧ ob V d 3 = ob W o 3 ∧ ob V d 4 = ob W o 4 ∧ ob V d 5 = ob W o 5) ∧ (ar V (d + 1) = ar W (o + 1) ∧ ar V (d + 2) = ar W (o + 2) ∧ ar V (d + 3) = ar W (o + 3) ∧ ar V (d + 4) = ar W (o + 4) ∧ ar V (d + 5) = ar W (o + 5) ∧ ar V (d + 6) = ar W (o + 6) ∧ ar V (d + 7) = ar W (o + 7) ∧ ar V (d + 8) = ar W (o + 8)) := by
    intro V hV
    subst hV
    refine ⟨rfl, ⟨?_, ?_, ?_, ?_, ?_, ?_⟩, ?_, ?_, ?_, ?_, ?_, ?_, ?_, ?_⟩
    · simp (disch := omega) only [ob_n, b2_0, fu_3, Nat.reduceEqDiff, ↓reduceIte]
    · simp (disch := omega) only [ob_n, b2_1, fu_3, Nat.reduceEqDiff, ↓reduceIte]
    · simp (disch := omega) only [ob_n, b2_2, fu_3, Nat.reduceEqDiff, ↓reduceIte]
    · simp (disch := omega) only [ob_n, b2_3, fu_3, Nat.reduceEqDiff, ↓reduceIte]
    · simp (disch := omega) only [ob_n, b2_4, fu_3, Nat.reduceEqDiff, ↓reduceIte]
    · simp (disch := omega) only [ob_n, b2_5, fu_3, Nat.reduceEqDiff, ↓reduceIte]
    all_goals simp (disch := omega) only [ar_n, ar_s]
  have hc := hc _ rfl
  generalize (wu (wu (wu (wu (wu (wu (wu (wu (wu W d (o2 d (fu (fu (fu (fu (fu (fu (ob W d) 0 (ob W o 0)) 1 (ob W o 1)) 2 (ob W o 2)) 3 (ob W o 3)) 4 (ob W o 4)) 5 (ob W o 5)))) (d + 1) (ea 0 400 (ar W (o + 1)))) (d + 2) (ea 0 100 (ar W (o + 2)))) (d + 3) (ea 0 100 (ar W (o + 3)))) (d + 4) (ea 0 180 (ar W (o + 4)))) (d + 5) (ea 0 180 (ar W (o + 5)))) (d + 6) (ea 0 180 (ar W (o + 6)))) (d + 7) (ea 0 180 (ar W (o + 7)))) (d + 8) (ea 0 180 (ar W (o + 8)))) = V at hM hg hc ⊢
  obtain ⟨v1, v2, v3⟩ := hc
  have hO : MS V o := ho.cg (fun k hk => hg _ (by omega))
  have eo9 : V.2 (o + 9) = W.2 (o + 9) := hg _ (by omega)
  refine x_tbecome hM hO hq (by omega) (by omega) (by rw [ob_c eo9]; exact hm) (fun W' w1 w2 w3 w4 w5 => ?_)
  simp (disch := omega) only [s_1, s_2, s_3, s_4, s_76, s_5, s_6, s_7, s_8, s_9, s_10, s_11, s_12, s_13, s_14, s_15, s_16, s_17, s_18, s_19, s_20, s_21, s_22, s_23, s_24, s_25, s_26, s_27, s_28, s_29, s_30, s_31, s_32, s_33, s_34, s_35, s_36, s_37, s_38, s_39, s_40l, s_40i, s_40r, s_41, s_43, t_44, t_45, t_46, t_47, s_48, s_49, s_50, s_51, s_52, s_53, s_54, s_55, s_56, s_57, s_58, s_59, s_60, s_61, s_62_0, s_62_1, s_62_2, s_66, s_67, s_68, s_69, s_70, s_71, s_72, s_73, sws_n, sws_c, lget, lset, fget, fset, nolg, nolong, avc, stw, cnd, isobj_eo, GCi, GCn, retk, List.length_cons, List.length_nil, ↓reduceIte, and_true, true_and, not_true_eq_false, not_false_eq_true, forall_const, Nat.reduceAdd, Nat.reduceLT, Nat.reduceLeDiff, Nat.lt_add_one, Nat.le_refl, Nat.zero_le, Nat.sub_zero, Int.reduceEq, Int.reduceNe, Int.reduceLT, Int.reduceLE, Int.reduceAdd, Int.reduceSub, Int.reduceMul, Int.reduceNeg, Int.reduceTDiv, Int.reduceTMod, ne_eq, reduceCtorEq, Nat.reduceEqDiff, Int.cast_ofNat_Int, true_or, or_true, false_or, or_false, lcq_0, lcq_2, lcq_3, lcq_4, lcq_5, wu_s, wu_1, wu_w, wu_lt, wu_ne, ar_s, ar_n, rr_s, rr_n, ob_n, nz_c, lt_T, lt_F, le_T, le_F, ie_T, ie_F, nt_T, nt_F, nl_T, nl_F, in_T, and_false, false_and, and_self, not_true_eq_false, Int.toNat_natCast, Int.reduceToNat, if_true, if_false, mi_154, i154_0, i154_1, i154_2, i154_5, i154_8, i154_9, i154_10, i154_13, i154_16, i154_17, i154_18, i154_21, i154_24, i154_25, i154_26, i154_29, i154_32, i154_33, i154_34, i154_37, i154_40, i154_41, i154_42, i154_45, i154_48, i154_49, i154_52, i154_53, i154_54, i154_57, i154_58, i154_61, i154_64, i154_65, i154_68, i154_69, i154_70, i154_73, i154_74, i154_76, i154_79, i154_80, i154_83, i154_84, i154_85, i154_88, i154_89, i154_91, i154_94, i154_95, i154_98, i154_99, i154_100, i154_103, i154_104, i154_107, i154_110, i154_111, i154_114, i154_115, i154_116, i154_119, i154_120, i154_123, i154_126, i154_127, i154_130, i154_131, i154_132, i154_135, i154_136, i154_139, i154_142, i154_143, i154_146, i154_147, i154_148, i154_151, i154_152, i154_155, i154_158, i154_159, i154_162, i154_163, i154_164, i154_167, i154_168, i154_171, i154_174, i154_175, i154_178, i154_179, i154_182, i154_185, k155, g2_0, g2_1, g2_10, g2_11, g2_12, g2_13, g2_14, g2_2, g2_3, g2_4, g2_5, g2_6, g2_7, g2_8, g2_9, p2_0, p2_1, p2_2, p2_3, p2_4, p2_5]
  have m0 : 0 ≤ ob W (o + 9) 0 := hm.1
  have ek : ∀ k, k ≤ 8 → W'.2 (d + k) = V.2 (d + k) := fun k hk => w2 _ (by omega)
  have e0 : W'.2 d = V.2 d := w2 _ (by omega)
  rw [ob_c eo9] at w3 w4 w5
  have eo : ∀ j, j ≤ 16 → ar V (o + j) = ar W (o + j) := fun j hj => ar_c (hg _ (by omega))
  have ed : ∀ j, 9 ≤ j → j ≤ 16 → ar V (d + j) = ar W (d + j) := fun j a b => ar_c (hg _ (by omega))
  have f9 : ob W' (d + 9) 0 = ob W (o + 9) 0 := by rw [d7_0 w3, fu_eq]
  have ft : ∀ j, 10 ≤ j → j ≤ 13 → ∀ t : Nat, (t : Int) < ob W (o + 9) 0 → ar W' (d + j) t = ar W (o + j) t := fun j a b t ht => by
    rw [ar_ea (w4 j a b), fcp_lt (by omega), eo j (by omega)]
  have ft2 : ∀ j, 14 ≤ j → j ≤ 16 → ∀ t : Nat, (t : Int) < 2 * ob W (o + 9) 0 → ar W' (d + j) t = ar W (o + j) t := fun j a b t ht => by
    rw [ar_ea (w5 j a b), fcp_lt (by omega), eo j (by omega)]
  refine hQ W' (w1.trans v1) (fun k hk => (w2 k (by omega)).trans (hg k (by omega))) ?_ ?_ ?_
  · refine ⟨by rw [e0, ob_c e0]; exact ma_0 hM, q7 w3, ?_⟩
    rw [ek 1 (by decide), ek 2 (by decide), ek 3 (by decide), ek 4 (by decide), ek 5 (by decide), ek 6 (by decide), ek 7 (by decide), ek 8 (by decide), ar_c (ek 1 (by decide)), ar_c (ek 2 (by decide)), ar_c (ek 3 (by decide)), ar_c (ek 4 (by decide)), ar_c (ek 5 (by decide)), ar_c (ek 6 (by decide)), ar_c (ek 7 (by decide)), ar_c (ek 8 (by decide))]
    have x : ∀ j, 10 ≤ j → j ≤ 13 → W'.2 (d + j) = ea 0 200 (ar W' (d + j)) := fun j a b => by rw [ar_ea (w4 j a b)]; exact w4 j a b
    have y : ∀ j, 14 ≤ j → j ≤ 16 → W'.2 (d + j) = ea 0 400 (ar W' (d + j)) := fun j a b => by rw [ar_ea (w5 j a b)]; exact w5 j a b
    exact ⟨ma_1 hM, ma_2 hM, ma_3 hM, ma_4 hM, ma_5 hM, ma_6 hM, ma_7 hM, ma_8 hM, x 10 (by decide) (by decide), x 11 (by decide) (by decide), x 12 (by decide) (by decide), x 13 (by decide) (by decide), y 14 (by decide) (by decide), y 15 (by decide) (by decide), y 16 (by decide) (by decide)⟩
  · refine ⟨⟨?_, ?_, ?_, ?_, ?_, f9, ?_⟩, ⟨?_, ?_, ?_, ?_, ?_, ?_, ?_, ?_⟩, fun t ht => ?_, fun t ht => ?_⟩
    · show ob W' d 0 = ob W o 0; rw [ob_c e0]; exact v2.1
    · show ob W' d 1 = ob W o 1; rw [ob_c e0]; exact v2.2.1
    · show ob W' d 2 = ob W o 2; rw [ob_c e0]; exact v2.2.2.1
    · show ob W' d 3 = ob W o 3; rw [ob_c e0]; exact v2.2.2.2.1
    · show ob W' d 5 = ob W o 5; rw [ob_c e0]; exact v2.2.2.2.2.2
    · show ob W' d 4 = ob W o 4; rw [ob_c e0]; exact v2.2.2.2.2.1
    · show ar W' (d + 1) = ar W (o + 1); rw [ar_c (ek 1 (by decide))]; exact v3.1
    · show ar W' (d + 2) = ar W (o + 2); rw [ar_c (ek 2 (by decide))]; exact v3.2.1
    · show ar W' (d + 3) = ar W (o + 3); rw [ar_c (ek 3 (by decide))]; exact v3.2.2.1
    · show ar W' (d + 4) = ar W (o + 4); rw [ar_c (ek 4 (by decide))]; exact v3.2.2.2.1
    · show ar W' (d + 5) = ar W (o + 5); rw [ar_c (ek 5 (by decide))]; exact v3.2.2.2.2.1
    · show ar W' (d + 6) = ar W (o + 6); rw [ar_c (ek 6 (by decide))]; exact v3.2.2.2.2.2.1
    · show ar W' (d + 7) = ar W (o + 7); rw [ar_c (ek 7 (by decide))]; exact v3.2.2.2.2.2.2.1
    · show ar W' (d + 8) = ar W (o + 8); rw [ar_c (ek 8 (by decide))]; exact v3.2.2.2.2.2.2.2
    · have ht2 : (t : Int) < ob W' (d + 9) 0 := ht
      rw [f9] at ht2
      exact ⟨ft 10 (by decide) (by decide) t ht2, ft 12 (by decide) (by decide) t ht2, ft 13 (by decide) (by decide) t ht2⟩
    · have ht2 : (t : Int) < 2 * ob W' (d + 9) 0 := ht
      rw [f9] at ht2
      exact ⟨ft2 14 (by decide) (by decide) t ht2, ft2 15 (by decide) (by decide) t ht2, ft2 16 (by decide) (by decide) t ht2⟩
  · intro t ht
    rw [f9] at ht
    rw [ft 11 (by decide) (by decide) t ht, hl t ht, ar_c (ek 6 (by decide)), v3.2.2.2.2.2.1]
end BEC
