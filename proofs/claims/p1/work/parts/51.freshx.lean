-- COUNT, END, FEED of fresh objects
theorem wu_ne {W : AW} {k j : Nat} {e : AE} (h : j ≠ k) : (wu W k e).2 j = W.2 j := fu_ne _ _ h
theorem okt_b {a : Int} : okt 1 ((a + 128) % 256 - 128) = True := by
  simp only [okt, eq_iff_iff, iff_true]
  omega
theorem wu_c {W : AW} {e e2 : AE} : wu (wu W 67 e) 118 e2 = wu (wu W 118 e2) 67 e := by
  refine Prod.ext rfl (funext fun j => ?_)
  simp only [wu, fu]
  by_cases h1 : j = 118
  · rw [if_pos h1, if_neg (by omega), if_pos h1]
  · rw [if_neg h1]
    by_cases h2 : j = 67
    · rw [if_pos h2, if_pos h2]
    · rw [if_neg h2, if_neg h2, if_neg h1]
theorem wu_c2 {W : AW} {e e2 : AE} : wu (wu W 148 e) 167 e2 = wu (wu W 167 e2) 148 e := by
  refine Prod.ext rfl (funext fun j => ?_)
  simp only [wu, fu]
  by_cases h1 : j = 167
  · rw [if_pos h1, if_neg (by omega), if_pos h1]
  · rw [if_neg h1]
    by_cases h2 : j = 148
    · rw [if_pos h2, if_pos h2]
    · rw [if_neg h2, if_neg h2, if_neg h1]
theorem nz_67 : (nfz ≤ 67) = True := eq_true (by decide)
theorem nz_118 : (nfz ≤ 118) = True := eq_true (by decide)
theorem nz_148 : (nfz ≤ 148) = True := eq_true (by decide)
theorem nz_167 : (nfz ≤ 167) = True := eq_true (by decide)
noncomputable def cntF (a : Int) : Int := bi (a = 13 ∨ a = 14 ∨ a = 16) - 1
section FX
variable {L : Nat} {xs : Nat → Int32} {Q : AQ} {a b c d e : Int}
theorem cnt_y {a : Int} (h : a = 13 ∨ a = 14 ∨ a = 16) : cntF a = 0 := by unfold cntF; rw [bi_p h]; rfl
theorem cnt_n {a : Int} (h : ¬ (a = 13 ∨ a = 14 ∨ a = 16)) : cntF a = -1 := by unfold cntF; rw [bi_n h]; rfl
theorem fc_13 : Gm 127 [vr 67, vi a] (wF L xs) Q ↔ Q (some (vi (cntF a))) (wF L xs) := by
  rw [e127]
  simp only [s_1, s_2, s_3, s_4, s_76, s_5, s_6, s_7, s_8, s_9, s_10, s_11, s_12, s_13, s_14, s_15, s_16, s_17, s_18, s_19, s_20, s_21, s_22, s_23, s_24, s_25, s_26, s_27, s_28, s_29, s_30, s_31, s_32, s_33, s_34, s_35, s_36, s_37, s_38, s_39, s_40l, s_40i, s_40r, s_41, s_43, t_44, t_45, t_46, t_47, s_48, s_49, s_50, s_51, s_52, s_53, s_54, s_55, s_56, s_57, s_58, s_59, s_60, s_61, s_62_0, s_62_1, s_62_2, s_66, s_67, s_68, s_69, s_70, s_71, s_72, s_73, sws_n, sws_c, lget, lset, fget, fset, nolg, nolong, avc, stw, cnd, isobj_eo, GCi, GCn, retk, List.length_cons, List.length_nil, ↓reduceIte, and_true, true_and, not_true_eq_false, not_false_eq_true, forall_const, Nat.reduceAdd, Nat.reduceLT, Nat.reduceLeDiff, Nat.lt_add_one, Nat.le_refl, Nat.zero_le, Nat.sub_zero, Int.reduceEq, Int.reduceNe, Int.reduceLT, Int.reduceLE, Int.reduceAdd, Int.reduceSub, Int.reduceMul, Int.reduceNeg, Int.reduceTDiv, Int.reduceTMod, ne_eq, reduceCtorEq, Nat.reduceEqDiff, Int.cast_ofNat_Int, true_or, or_true, false_or, or_false, lcq_0, lcq_2, lcq_3, lcq_4, lcq_5, mi_127, i127_0, i127_1, i127_32, i127_33, i127_36, i127_37, i127_38, i127_41, i127_42, i127_43, i127_46, i127_47, i127_48, i127_51, i127_54, i127_55, i127_58, i127_59, i127_60, i127_63, k21, k128, wF_1, wF_67, f_noFloor]
  by_cases h : a = 13 ∨ a = 14 ∨ a = 16
  · rw [cnt_y h]
    rcases h with rfl | rfl | rfl <;> simp
  · rw [cnt_n h]
    simp only [not_or] at h
    rw [if_neg h.1, if_neg h.2.1, if_neg h.2.2, ite_sq]
theorem fc_6 : Gm 60 [vr 67, vi a] (wF L xs) (fun r _ => r = some (vi (bi (a = 0) - 1))) := by
  rw [e60]
  simp only [s_1, s_2, s_3, s_4, s_76, s_5, s_6, s_7, s_8, s_9, s_10, s_11, s_12, s_13, s_14, s_15, s_16, s_17, s_18, s_19, s_20, s_21, s_22, s_23, s_24, s_25, s_26, s_27, s_28, s_29, s_30, s_31, s_32, s_33, s_34, s_35, s_36, s_37, s_38, s_39, s_40l, s_40i, s_40r, s_41, s_43, t_44, t_45, t_46, t_47, s_48, s_49, s_50, s_51, s_52, s_53, s_54, s_55, s_56, s_57, s_58, s_59, s_60, s_61, s_62_0, s_62_1, s_62_2, s_66, s_67, s_68, s_69, s_70, s_71, s_72, s_73, sws_n, sws_c, lget, lset, fget, fset, nolg, nolong, avc, stw, cnd, isobj_eo, GCi, GCn, retk, List.length_cons, List.length_nil, ↓reduceIte, and_true, true_and, not_true_eq_false, not_false_eq_true, forall_const, Nat.reduceAdd, Nat.reduceLT, Nat.reduceLeDiff, Nat.lt_add_one, Nat.le_refl, Nat.zero_le, Nat.sub_zero, Int.reduceEq, Int.reduceNe, Int.reduceLT, Int.reduceLE, Int.reduceAdd, Int.reduceSub, Int.reduceMul, Int.reduceNeg, Int.reduceTDiv, Int.reduceTMod, ne_eq, reduceCtorEq, Nat.reduceEqDiff, Int.cast_ofNat_Int, true_or, or_true, false_or, or_false, lcq_0, lcq_2, lcq_3, lcq_4, lcq_5, mi_60, i60_0, i60_1, i60_2, i60_3, i60_6, i60_9, i60_12, i60_13, i60_14, i60_15, i60_16, i60_19, i60_20, k14, wF_1, wF_67, m_within, bi_z]
  by_cases h : a = 0
  · subst h
    rw [if_pos (by decide), bi_p rfl]
    rfl
  · rw [if_neg (by simp only [Classical.not_not]; omega), bi_n h]
    rfl
set_option maxRecDepth 100000 in
set_option maxHeartbeats 4000000 in
theorem fc_5 : Gm 58 [vr 67, vi a, vi b, vi c, vi d, vi e] (wF L xs) (fun r _ => r = some (vi 20)) := by
  rw [e58]
  simp (config := { maxSteps := 5000000 }) only [s_1, s_2, s_3, s_4, s_76, s_5, s_6, s_7, s_8, s_9, s_10, s_11, s_12, s_13, s_14, s_15, s_16, s_17, s_18, s_19, s_20, s_21, s_22, s_23, s_24, s_25, s_26, s_27, s_28, s_29, s_30, s_31, s_32, s_33, s_34, s_35, s_36, s_37, s_38, s_39, s_40l, s_40i, s_40r, s_41, s_43, t_44, t_45, t_46, t_47, s_48, s_49, s_50, s_51, s_52, s_53, s_54, s_55, s_56, s_57, s_58, s_59, s_60, s_61, s_62_0, s_62_1, s_62_2, s_66, s_67, s_68, s_69, s_70, s_71, s_72, s_73, sws_n, sws_c, lget, lset, fget, fset, nolg, nolong, avc, stw, cnd, isobj_eo, GCi, GCn, retk, List.length_cons, List.length_nil, ↓reduceIte, and_true, true_and, not_true_eq_false, not_false_eq_true, forall_const, Nat.reduceAdd, Nat.reduceLT, Nat.reduceLeDiff, Nat.lt_add_one, Nat.le_refl, Nat.zero_le, Nat.sub_zero, Int.reduceEq, Int.reduceNe, Int.reduceLT, Int.reduceLE, Int.reduceAdd, Int.reduceSub, Int.reduceMul, Int.reduceNeg, Int.reduceTDiv, Int.reduceTMod, ne_eq, reduceCtorEq, Nat.reduceEqDiff, Int.cast_ofNat_Int, true_or, or_true, false_or, or_false, lcq_0, lcq_2, lcq_3, lcq_4, lcq_5, mi_58, i58_0, i58_1, i58_4, i58_6, i58_7, i58_10, i58_13, i58_14, i58_15, i58_16, i58_17, i58_20, i58_21, i58_22, i58_25, i58_26, i58_27, i58_30, i58_31, i58_33, i58_36, i58_37, i58_39, i58_42, i58_43, i58_46, k59, mi_59, i59_0, i59_2, i59_3, i59_4, i59_7, i59_8, i59_11, i59_14, i59_17, i59_18, i59_21, i59_22, i59_25, i59_26, i59_27, i59_28, i59_29, i59_30, i59_31, i59_32, i59_35, i59_36, i59_37, i59_40, i59_43, i59_46, e59, wF_1, wF_67, wF_118, wu_s, wu_f, wu_w, wu_ne, wu_c, okt_b, in32, Int.reduceToNat, nz_67, nz_118]
theorem gr_13 {W : AW} (h : RF W) : Gm 256 [vr 148, vi a] W Q ↔ Q (some (vi (cntF a))) W := by
  obtain ⟨h1, h2, h3, h4, h5⟩ := id h
  rw [e256]
  simp only [s_1, s_2, s_3, s_4, s_76, s_5, s_6, s_7, s_8, s_9, s_10, s_11, s_12, s_13, s_14, s_15, s_16, s_17, s_18, s_19, s_20, s_21, s_22, s_23, s_24, s_25, s_26, s_27, s_28, s_29, s_30, s_31, s_32, s_33, s_34, s_35, s_36, s_37, s_38, s_39, s_40l, s_40i, s_40r, s_41, s_43, t_44, t_45, t_46, t_47, s_48, s_49, s_50, s_51, s_52, s_53, s_54, s_55, s_56, s_57, s_58, s_59, s_60, s_61, s_62_0, s_62_1, s_62_2, s_66, s_67, s_68, s_69, s_70, s_71, s_72, s_73, sws_n, sws_c, lget, lset, fget, fset, nolg, nolong, avc, stw, cnd, isobj_eo, GCi, GCn, retk, List.length_cons, List.length_nil, ↓reduceIte, and_true, true_and, not_true_eq_false, not_false_eq_true, forall_const, Nat.reduceAdd, Nat.reduceLT, Nat.reduceLeDiff, Nat.lt_add_one, Nat.le_refl, Nat.zero_le, Nat.sub_zero, Int.reduceEq, Int.reduceNe, Int.reduceLT, Int.reduceLE, Int.reduceAdd, Int.reduceSub, Int.reduceMul, Int.reduceNeg, Int.reduceTDiv, Int.reduceTMod, ne_eq, reduceCtorEq, Nat.reduceEqDiff, Int.cast_ofNat_Int, true_or, or_true, false_or, or_false, lcq_0, lcq_2, lcq_3, lcq_4, lcq_5, mi_256, i256_0, i256_1, i256_3, i256_6, i256_7, i256_9, i256_12, i256_13, i256_15, i256_18, i256_19, i256_21, i256_24, i256_25, i256_28, i256_31, i256_32, i256_34, i256_37, i256_38, i256_41, i256_44, i256_45, i256_48, i256_49, i256_50, i256_53, i256_56, i256_57, i256_58, i256_59, i256_62, i256_65, i256_68, i256_69, i256_70, i256_71, i256_73, i256_76, i256_77, i256_80, i256_81, i256_84, i256_85, i256_86, i256_87, i256_88, i256_89, i256_90, i256_91, i256_92, i256_95, i256_98, i256_99, i256_100, i256_103, i256_104, i256_105, i256_106, i256_107, i256_110, i256_113, i256_114, i256_116, i256_119, i256_120, i256_123, i256_124, i256_125, i256_128, i256_129, i256_131, i256_134, i256_135, i256_138, i256_140, i256_141, i256_144, i256_145, k179, k183, k257, m_in, bi_z, bi_r, bi_F, e_m1, ite_sq, in32, z0, Int.reduceToNat, h1, h2, h3, h4, h5, g_isFloor h]
  by_cases h : a = 13 ∨ a = 14 ∨ a = 16
  · rw [cnt_y h]
    rcases h with rfl | rfl | rfl <;> simp
  · rw [cnt_n h]
    simp only [not_or] at h
    rw [if_neg h.1, if_neg h.2.1, if_pos h.2.2]
theorem gr_6 {W : AW} (h : RF W) : Gm 195 [vr 148, vi a] W (fun r _ => r = some (vi (bi (a = 0) - 1))) := by
  obtain ⟨h1, h2, h3, h4, h5⟩ := id h
  rw [e195]
  simp only [s_1, s_2, s_3, s_4, s_76, s_5, s_6, s_7, s_8, s_9, s_10, s_11, s_12, s_13, s_14, s_15, s_16, s_17, s_18, s_19, s_20, s_21, s_22, s_23, s_24, s_25, s_26, s_27, s_28, s_29, s_30, s_31, s_32, s_33, s_34, s_35, s_36, s_37, s_38, s_39, s_40l, s_40i, s_40r, s_41, s_43, t_44, t_45, t_46, t_47, s_48, s_49, s_50, s_51, s_52, s_53, s_54, s_55, s_56, s_57, s_58, s_59, s_60, s_61, s_62_0, s_62_1, s_62_2, s_66, s_67, s_68, s_69, s_70, s_71, s_72, s_73, sws_n, sws_c, lget, lset, fget, fset, nolg, nolong, avc, stw, cnd, isobj_eo, GCi, GCn, retk, List.length_cons, List.length_nil, ↓reduceIte, and_true, true_and, not_true_eq_false, not_false_eq_true, forall_const, Nat.reduceAdd, Nat.reduceLT, Nat.reduceLeDiff, Nat.lt_add_one, Nat.le_refl, Nat.zero_le, Nat.sub_zero, Int.reduceEq, Int.reduceNe, Int.reduceLT, Int.reduceLE, Int.reduceAdd, Int.reduceSub, Int.reduceMul, Int.reduceNeg, Int.reduceTDiv, Int.reduceTMod, ne_eq, reduceCtorEq, Nat.reduceEqDiff, Int.cast_ofNat_Int, true_or, or_true, false_or, or_false, lcq_0, lcq_2, lcq_3, lcq_4, lcq_5, mi_195, i195_0, i195_1, i195_4, i195_5, i195_6, i195_9, i195_12, i195_13, i195_14, i195_15, i195_16, i195_19, i195_20, m_in, bi_z, bi_r, bi_F, e_m1, ite_sq, in32, z0, Int.reduceToNat, h1, h2, h3, h4, h5, nz_148]
  by_cases h : a = 0
  · subst h
    rw [if_neg (by decide), if_pos (by decide), bi_p rfl]
    rfl
  · rw [bi_n h]
    by_cases h2 : a < 0
    · rw [if_pos h2]
      rfl
    · rw [if_neg h2, if_neg (by omega)]
      rfl
set_option maxRecDepth 100000 in
set_option maxHeartbeats 4000000 in
theorem gr_5 {W : AW} (h : RF W) : Gm 193 [vr 148, vi a, vi b, vi c, vi d, vi e] W (fun r _ => r = some (vi 20)) := by
  obtain ⟨h1, h2, h3, h4, h5⟩ := id h
  rw [e193]
  simp (config := { maxSteps := 5000000 }) only [s_1, s_2, s_3, s_4, s_76, s_5, s_6, s_7, s_8, s_9, s_10, s_11, s_12, s_13, s_14, s_15, s_16, s_17, s_18, s_19, s_20, s_21, s_22, s_23, s_24, s_25, s_26, s_27, s_28, s_29, s_30, s_31, s_32, s_33, s_34, s_35, s_36, s_37, s_38, s_39, s_40l, s_40i, s_40r, s_41, s_43, t_44, t_45, t_46, t_47, s_48, s_49, s_50, s_51, s_52, s_53, s_54, s_55, s_56, s_57, s_58, s_59, s_60, s_61, s_62_0, s_62_1, s_62_2, s_66, s_67, s_68, s_69, s_70, s_71, s_72, s_73, sws_n, sws_c, lget, lset, fget, fset, nolg, nolong, avc, stw, cnd, isobj_eo, GCi, GCn, retk, List.length_cons, List.length_nil, ↓reduceIte, and_true, true_and, not_true_eq_false, not_false_eq_true, forall_const, Nat.reduceAdd, Nat.reduceLT, Nat.reduceLeDiff, Nat.lt_add_one, Nat.le_refl, Nat.zero_le, Nat.sub_zero, Int.reduceEq, Int.reduceNe, Int.reduceLT, Int.reduceLE, Int.reduceAdd, Int.reduceSub, Int.reduceMul, Int.reduceNeg, Int.reduceTDiv, Int.reduceTMod, ne_eq, reduceCtorEq, Nat.reduceEqDiff, Int.cast_ofNat_Int, true_or, or_true, false_or, or_false, lcq_0, lcq_2, lcq_3, lcq_4, lcq_5, mi_193, i193_0, i193_1, i193_4, i193_6, i193_7, i193_10, i193_13, i193_14, i193_15, i193_16, i193_17, i193_20, i193_21, i193_22, i193_25, i193_26, i193_27, i193_30, i193_31, i193_33, i193_36, i193_37, i193_39, i193_42, i193_43, i193_46, k194, mi_194, i194_0, i194_2, i194_3, i194_4, i194_7, i194_8, i194_11, i194_12, i194_15, i194_16, i194_17, i194_18, i194_19, i194_20, i194_21, i194_22, i194_25, i194_26, i194_27, i194_30, i194_33, i194_36, e194, h1, h2, h4, wu_s, wu_f, wu_w, wu_ne, wu_c2, okt_b, in32, Int.reduceToNat, nz_148, nz_167]
end FX
