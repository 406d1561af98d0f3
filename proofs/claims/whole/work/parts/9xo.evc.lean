-- THE CLASS RECKONS
theorem and_15 {x : Nat} (hx : x < 2000000) : (Int32.ofInt (x : Int) &&& Int32.ofInt 15).toInt = ((x % 16 : Nat) : Int) := by
  have e : (Int32.ofInt (x : Int) &&& Int32.ofInt 15).toInt = (BitVec.ofInt 32 (x : Int) &&& BitVec.ofInt 32 15).toInt := rfl
  have e1 : (BitVec.ofInt 32 (x : Int) &&& BitVec.ofInt 32 15).toNat = x % 16 := by
    rw [BitVec.toNat_and, BitVec.toNat_ofInt, BitVec.toNat_ofInt]
    have a1 : ((x : Int) % ((2 : Nat) ^ 32 : Nat)).toNat = x := by omega
    have a2 : ((15 : Int) % ((2 : Nat) ^ 32 : Nat)).toNat = 2 ^ 4 - 1 := by omega
    rw [a1, a2, Nat.and_two_pow_sub_one_eq_mod]
  rw [e, BitVec.toInt_eq_toNat_cond, e1]
  have e3 : (2 : Nat) ^ 32 = 4294967296 := rfl
  rw [e3, if_pos (by omega)]
theorem shr_4 {x : Nat} (hx : x < 2000000) : (Int32.ofInt (x : Int) >>> (Int32.ofInt 4 &&& 31)).toInt = ((x / 16 : Nat) : Int) := by
  have e : (Int32.ofInt (x : Int) >>> (Int32.ofInt 4 &&& 31)).toInt = ((BitVec.ofInt 32 (x : Int)).sshiftRight 4).toInt := rfl
  have e1 : (BitVec.ofInt 32 (x : Int)).toInt = (x : Int) := by
    rw [BitVec.toInt_eq_toNat_cond, BitVec.toNat_ofInt]
    have a1 : ((x : Int) % ((2 : Nat) ^ 32 : Nat)).toNat = x := by omega
    have e3 : (2 : Nat) ^ 32 = 4294967296 := rfl
    rw [a1, e3, if_pos (by omega)]
  rw [e, BitVec.toInt_sshiftRight, e1, Int.shiftRight_eq_div_pow]
  have e4 : ((2 : Nat) ^ 4 : Nat) = 16 := rfl
  omega
section EVC
variable {W : AW} {Q : AQ} {N a b k v sl : Int} {w s m g : Nat → Int}
theorem x_joined (hk : k = 2 ∨ k = 3 ∨ k = 4 ∨ k = 5 ∨ k = 6 ∨ k = 7 ∨ k = 8 ∨ k = 10 ∨ k = 11 ∨ k = 13 ∨ k = 14) : Gm 53 [vi (sgC k), vl a, vl b] W Q ↔ Q (some (vl (joV k a b))) W := by
  rcases hk with rfl | rfl | rfl | rfl | rfl | rfl | rfl | rfl | rfl | rfl | rfl
  · show Gm 53 [vi 2, vl a, vl b] W Q ↔ _
    rw [e53]
    simp (disch := omega) only [s_1, s_2, s_3, s_4, s_76, s_5, s_6, s_7, s_8, s_9, s_10, s_11, s_12, s_13, s_14, s_15, s_16, s_17, s_18, s_19, s_20, s_21, s_22, s_23, s_24, s_25, s_26, s_27, s_28, s_29, s_30, s_31, s_32, s_33, s_34, s_35, s_36, s_37, s_38, s_39, s_40l, s_40i, s_40r, s_41, s_43, t_44, t_45, t_46, t_47, s_48, s_49, s_50, s_51, s_52, s_53, s_54, s_55, s_56, s_57, s_58, s_59, s_60, s_61, s_62_0, s_62_1, s_62_2, s_66, s_67, s_68, s_69, s_70, s_71, s_72, s_73, sws_n, sws_c, lget, lset, fget, fset, nolg, nolong, avc, stw, cnd, isobj_eo, GCi, GCn, retk, List.length_cons, List.length_nil, ↓reduceIte, and_true, true_and, not_true_eq_false, not_false_eq_true, forall_const, Nat.reduceAdd, Nat.reduceLT, Nat.reduceLeDiff, Nat.lt_add_one, Nat.le_refl, Nat.zero_le, Nat.sub_zero, Int.reduceEq, Int.reduceNe, Int.reduceLT, Int.reduceLE, Int.reduceAdd, Int.reduceSub, Int.reduceMul, Int.reduceNeg, Int.reduceTDiv, Int.reduceTMod, ne_eq, reduceCtorEq, Nat.reduceEqDiff, Int.cast_ofNat_Int, true_or, or_true, false_or, or_false, lcq_0, lcq_2, lcq_3, lcq_4, lcq_5, wu_s, wu_1, wu_w, wu_lt, wu_ne, ar_s, ar_n, rr_s, rr_n, ob_n, nz_c, lt_T, lt_F, le_T, le_F, ie_T, ie_F, nt_T, nt_F, nl_T, nl_F, in_T, and_false, false_and, and_self, not_true_eq_false, Int.toNat_natCast, Int.reduceToNat, if_true, if_false, mi_53, i53_0, i53_1, i53_56, i53_57, i53_58, i53_59, i53_60, i53_61, i53_62, i53_63, i53_64, i53_65, i53_66, i53_67, i53_68, i53_69, i53_70, i53_71, i53_74, i53_75, i53_78, i53_79, i53_80, i53_81, i53_82, i53_83, i53_84, i53_85, i53_88, i53_89, i53_92, i53_93, i53_94, i53_95, i53_96, i53_97, i53_100, i53_101, i53_104, i53_105, i53_106, i53_107, i53_108, i53_109, i53_112, i53_113, i53_116, i53_117, i53_118, i53_119, i53_120, i53_121, i53_124, i53_125, i53_128, i53_129, i53_130, i53_131, i53_132, i53_133, i53_136, i53_137, i53_140, i53_141, i53_142, i53_143, i53_144, i53_145, i53_146, i53_147, i53_148, i53_149]
    exact Iff.rfl
  · show Gm 53 [vi 3, vl a, vl b] W Q ↔ _
    rw [e53]
    simp (disch := omega) only [s_1, s_2, s_3, s_4, s_76, s_5, s_6, s_7, s_8, s_9, s_10, s_11, s_12, s_13, s_14, s_15, s_16, s_17, s_18, s_19, s_20, s_21, s_22, s_23, s_24, s_25, s_26, s_27, s_28, s_29, s_30, s_31, s_32, s_33, s_34, s_35, s_36, s_37, s_38, s_39, s_40l, s_40i, s_40r, s_41, s_43, t_44, t_45, t_46, t_47, s_48, s_49, s_50, s_51, s_52, s_53, s_54, s_55, s_56, s_57, s_58, s_59, s_60, s_61, s_62_0, s_62_1, s_62_2, s_66, s_67, s_68, s_69, s_70, s_71, s_72, s_73, sws_n, sws_c, lget, lset, fget, fset, nolg, nolong, avc, stw, cnd, isobj_eo, GCi, GCn, retk, List.length_cons, List.length_nil, ↓reduceIte, and_true, true_and, not_true_eq_false, not_false_eq_true, forall_const, Nat.reduceAdd, Nat.reduceLT, Nat.reduceLeDiff, Nat.lt_add_one, Nat.le_refl, Nat.zero_le, Nat.sub_zero, Int.reduceEq, Int.reduceNe, Int.reduceLT, Int.reduceLE, Int.reduceAdd, Int.reduceSub, Int.reduceMul, Int.reduceNeg, Int.reduceTDiv, Int.reduceTMod, ne_eq, reduceCtorEq, Nat.reduceEqDiff, Int.cast_ofNat_Int, true_or, or_true, false_or, or_false, lcq_0, lcq_2, lcq_3, lcq_4, lcq_5, wu_s, wu_1, wu_w, wu_lt, wu_ne, ar_s, ar_n, rr_s, rr_n, ob_n, nz_c, lt_T, lt_F, le_T, le_F, ie_T, ie_F, nt_T, nt_F, nl_T, nl_F, in_T, and_false, false_and, and_self, not_true_eq_false, Int.toNat_natCast, Int.reduceToNat, if_true, if_false, mi_53, i53_0, i53_1, i53_56, i53_57, i53_58, i53_59, i53_60, i53_61, i53_62, i53_63, i53_64, i53_65, i53_66, i53_67, i53_68, i53_69, i53_70, i53_71, i53_74, i53_75, i53_78, i53_79, i53_80, i53_81, i53_82, i53_83, i53_84, i53_85, i53_88, i53_89, i53_92, i53_93, i53_94, i53_95, i53_96, i53_97, i53_100, i53_101, i53_104, i53_105, i53_106, i53_107, i53_108, i53_109, i53_112, i53_113, i53_116, i53_117, i53_118, i53_119, i53_120, i53_121, i53_124, i53_125, i53_128, i53_129, i53_130, i53_131, i53_132, i53_133, i53_136, i53_137, i53_140, i53_141, i53_142, i53_143, i53_144, i53_145, i53_146, i53_147, i53_148, i53_149]
    exact Iff.rfl
  · show Gm 53 [vi 6, vl a, vl b] W Q ↔ _
    rw [e53]
    by_cases c : a < b
    · rw [show joV 4 a b = 1 from if_pos c]
      simp (disch := omega) only [s_1, s_2, s_3, s_4, s_76, s_5, s_6, s_7, s_8, s_9, s_10, s_11, s_12, s_13, s_14, s_15, s_16, s_17, s_18, s_19, s_20, s_21, s_22, s_23, s_24, s_25, s_26, s_27, s_28, s_29, s_30, s_31, s_32, s_33, s_34, s_35, s_36, s_37, s_38, s_39, s_40l, s_40i, s_40r, s_41, s_43, t_44, t_45, t_46, t_47, s_48, s_49, s_50, s_51, s_52, s_53, s_54, s_55, s_56, s_57, s_58, s_59, s_60, s_61, s_62_0, s_62_1, s_62_2, s_66, s_67, s_68, s_69, s_70, s_71, s_72, s_73, sws_n, sws_c, lget, lset, fget, fset, nolg, nolong, avc, stw, cnd, isobj_eo, GCi, GCn, retk, List.length_cons, List.length_nil, ↓reduceIte, and_true, true_and, not_true_eq_false, not_false_eq_true, forall_const, Nat.reduceAdd, Nat.reduceLT, Nat.reduceLeDiff, Nat.lt_add_one, Nat.le_refl, Nat.zero_le, Nat.sub_zero, Int.reduceEq, Int.reduceNe, Int.reduceLT, Int.reduceLE, Int.reduceAdd, Int.reduceSub, Int.reduceMul, Int.reduceNeg, Int.reduceTDiv, Int.reduceTMod, ne_eq, reduceCtorEq, Nat.reduceEqDiff, Int.cast_ofNat_Int, true_or, or_true, false_or, or_false, lcq_0, lcq_2, lcq_3, lcq_4, lcq_5, wu_s, wu_1, wu_w, wu_lt, wu_ne, ar_s, ar_n, rr_s, rr_n, ob_n, nz_c, lt_T, lt_F, le_T, le_F, ie_T, ie_F, nt_T, nt_F, nl_T, nl_F, in_T, and_false, false_and, and_self, not_true_eq_false, Int.toNat_natCast, Int.reduceToNat, if_true, if_false, mi_53, i53_0, i53_1, i53_56, i53_57, i53_58, i53_59, i53_60, i53_61, i53_62, i53_63, i53_64, i53_65, i53_66, i53_67, i53_68, i53_69, i53_70, i53_71, i53_74, i53_75, i53_78, i53_79, i53_80, i53_81, i53_82, i53_83, i53_84, i53_85, i53_88, i53_89, i53_92, i53_93, i53_94, i53_95, i53_96, i53_97, i53_100, i53_101, i53_104, i53_105, i53_106, i53_107, i53_108, i53_109, i53_112, i53_113, i53_116, i53_117, i53_118, i53_119, i53_120, i53_121, i53_124, i53_125, i53_128, i53_129, i53_130, i53_131, i53_132, i53_133, i53_136, i53_137, i53_140, i53_141, i53_142, i53_143, i53_144, i53_145, i53_146, i53_147, i53_148, i53_149, c]
    · rw [show joV 4 a b = 0 from if_neg c]
      simp (disch := omega) only [s_1, s_2, s_3, s_4, s_76, s_5, s_6, s_7, s_8, s_9, s_10, s_11, s_12, s_13, s_14, s_15, s_16, s_17, s_18, s_19, s_20, s_21, s_22, s_23, s_24, s_25, s_26, s_27, s_28, s_29, s_30, s_31, s_32, s_33, s_34, s_35, s_36, s_37, s_38, s_39, s_40l, s_40i, s_40r, s_41, s_43, t_44, t_45, t_46, t_47, s_48, s_49, s_50, s_51, s_52, s_53, s_54, s_55, s_56, s_57, s_58, s_59, s_60, s_61, s_62_0, s_62_1, s_62_2, s_66, s_67, s_68, s_69, s_70, s_71, s_72, s_73, sws_n, sws_c, lget, lset, fget, fset, nolg, nolong, avc, stw, cnd, isobj_eo, GCi, GCn, retk, List.length_cons, List.length_nil, ↓reduceIte, and_true, true_and, not_true_eq_false, not_false_eq_true, forall_const, Nat.reduceAdd, Nat.reduceLT, Nat.reduceLeDiff, Nat.lt_add_one, Nat.le_refl, Nat.zero_le, Nat.sub_zero, Int.reduceEq, Int.reduceNe, Int.reduceLT, Int.reduceLE, Int.reduceAdd, Int.reduceSub, Int.reduceMul, Int.reduceNeg, Int.reduceTDiv, Int.reduceTMod, ne_eq, reduceCtorEq, Nat.reduceEqDiff, Int.cast_ofNat_Int, true_or, or_true, false_or, or_false, lcq_0, lcq_2, lcq_3, lcq_4, lcq_5, wu_s, wu_1, wu_w, wu_lt, wu_ne, ar_s, ar_n, rr_s, rr_n, ob_n, nz_c, lt_T, lt_F, le_T, le_F, ie_T, ie_F, nt_T, nt_F, nl_T, nl_F, in_T, and_false, false_and, and_self, not_true_eq_false, Int.toNat_natCast, Int.reduceToNat, if_true, if_false, mi_53, i53_0, i53_1, i53_56, i53_57, i53_58, i53_59, i53_60, i53_61, i53_62, i53_63, i53_64, i53_65, i53_66, i53_67, i53_68, i53_69, i53_70, i53_71, i53_74, i53_75, i53_78, i53_79, i53_80, i53_81, i53_82, i53_83, i53_84, i53_85, i53_88, i53_89, i53_92, i53_93, i53_94, i53_95, i53_96, i53_97, i53_100, i53_101, i53_104, i53_105, i53_106, i53_107, i53_108, i53_109, i53_112, i53_113, i53_116, i53_117, i53_118, i53_119, i53_120, i53_121, i53_124, i53_125, i53_128, i53_129, i53_130, i53_131, i53_132, i53_133, i53_136, i53_137, i53_140, i53_141, i53_142, i53_143, i53_144, i53_145, i53_146, i53_147, i53_148, i53_149, c]
  · show Gm 53 [vi 7, vl a, vl b] W Q ↔ _
    rw [e53]
    by_cases c : a ≤ b
    · rw [show joV 5 a b = 1 from if_pos c]
      simp (disch := omega) only [s_1, s_2, s_3, s_4, s_76, s_5, s_6, s_7, s_8, s_9, s_10, s_11, s_12, s_13, s_14, s_15, s_16, s_17, s_18, s_19, s_20, s_21, s_22, s_23, s_24, s_25, s_26, s_27, s_28, s_29, s_30, s_31, s_32, s_33, s_34, s_35, s_36, s_37, s_38, s_39, s_40l, s_40i, s_40r, s_41, s_43, t_44, t_45, t_46, t_47, s_48, s_49, s_50, s_51, s_52, s_53, s_54, s_55, s_56, s_57, s_58, s_59, s_60, s_61, s_62_0, s_62_1, s_62_2, s_66, s_67, s_68, s_69, s_70, s_71, s_72, s_73, sws_n, sws_c, lget, lset, fget, fset, nolg, nolong, avc, stw, cnd, isobj_eo, GCi, GCn, retk, List.length_cons, List.length_nil, ↓reduceIte, and_true, true_and, not_true_eq_false, not_false_eq_true, forall_const, Nat.reduceAdd, Nat.reduceLT, Nat.reduceLeDiff, Nat.lt_add_one, Nat.le_refl, Nat.zero_le, Nat.sub_zero, Int.reduceEq, Int.reduceNe, Int.reduceLT, Int.reduceLE, Int.reduceAdd, Int.reduceSub, Int.reduceMul, Int.reduceNeg, Int.reduceTDiv, Int.reduceTMod, ne_eq, reduceCtorEq, Nat.reduceEqDiff, Int.cast_ofNat_Int, true_or, or_true, false_or, or_false, lcq_0, lcq_2, lcq_3, lcq_4, lcq_5, wu_s, wu_1, wu_w, wu_lt, wu_ne, ar_s, ar_n, rr_s, rr_n, ob_n, nz_c, lt_T, lt_F, le_T, le_F, ie_T, ie_F, nt_T, nt_F, nl_T, nl_F, in_T, and_false, false_and, and_self, not_true_eq_false, Int.toNat_natCast, Int.reduceToNat, if_true, if_false, mi_53, i53_0, i53_1, i53_56, i53_57, i53_58, i53_59, i53_60, i53_61, i53_62, i53_63, i53_64, i53_65, i53_66, i53_67, i53_68, i53_69, i53_70, i53_71, i53_74, i53_75, i53_78, i53_79, i53_80, i53_81, i53_82, i53_83, i53_84, i53_85, i53_88, i53_89, i53_92, i53_93, i53_94, i53_95, i53_96, i53_97, i53_100, i53_101, i53_104, i53_105, i53_106, i53_107, i53_108, i53_109, i53_112, i53_113, i53_116, i53_117, i53_118, i53_119, i53_120, i53_121, i53_124, i53_125, i53_128, i53_129, i53_130, i53_131, i53_132, i53_133, i53_136, i53_137, i53_140, i53_141, i53_142, i53_143, i53_144, i53_145, i53_146, i53_147, i53_148, i53_149, c]
    · rw [show joV 5 a b = 0 from if_neg c]
      simp (disch := omega) only [s_1, s_2, s_3, s_4, s_76, s_5, s_6, s_7, s_8, s_9, s_10, s_11, s_12, s_13, s_14, s_15, s_16, s_17, s_18, s_19, s_20, s_21, s_22, s_23, s_24, s_25, s_26, s_27, s_28, s_29, s_30, s_31, s_32, s_33, s_34, s_35, s_36, s_37, s_38, s_39, s_40l, s_40i, s_40r, s_41, s_43, t_44, t_45, t_46, t_47, s_48, s_49, s_50, s_51, s_52, s_53, s_54, s_55, s_56, s_57, s_58, s_59, s_60, s_61, s_62_0, s_62_1, s_62_2, s_66, s_67, s_68, s_69, s_70, s_71, s_72, s_73, sws_n, sws_c, lget, lset, fget, fset, nolg, nolong, avc, stw, cnd, isobj_eo, GCi, GCn, retk, List.length_cons, List.length_nil, ↓reduceIte, and_true, true_and, not_true_eq_false, not_false_eq_true, forall_const, Nat.reduceAdd, Nat.reduceLT, Nat.reduceLeDiff, Nat.lt_add_one, Nat.le_refl, Nat.zero_le, Nat.sub_zero, Int.reduceEq, Int.reduceNe, Int.reduceLT, Int.reduceLE, Int.reduceAdd, Int.reduceSub, Int.reduceMul, Int.reduceNeg, Int.reduceTDiv, Int.reduceTMod, ne_eq, reduceCtorEq, Nat.reduceEqDiff, Int.cast_ofNat_Int, true_or, or_true, false_or, or_false, lcq_0, lcq_2, lcq_3, lcq_4, lcq_5, wu_s, wu_1, wu_w, wu_lt, wu_ne, ar_s, ar_n, rr_s, rr_n, ob_n, nz_c, lt_T, lt_F, le_T, le_F, ie_T, ie_F, nt_T, nt_F, nl_T, nl_F, in_T, and_false, false_and, and_self, not_true_eq_false, Int.toNat_natCast, Int.reduceToNat, if_true, if_false, mi_53, i53_0, i53_1, i53_56, i53_57, i53_58, i53_59, i53_60, i53_61, i53_62, i53_63, i53_64, i53_65, i53_66, i53_67, i53_68, i53_69, i53_70, i53_71, i53_74, i53_75, i53_78, i53_79, i53_80, i53_81, i53_82, i53_83, i53_84, i53_85, i53_88, i53_89, i53_92, i53_93, i53_94, i53_95, i53_96, i53_97, i53_100, i53_101, i53_104, i53_105, i53_106, i53_107, i53_108, i53_109, i53_112, i53_113, i53_116, i53_117, i53_118, i53_119, i53_120, i53_121, i53_124, i53_125, i53_128, i53_129, i53_130, i53_131, i53_132, i53_133, i53_136, i53_137, i53_140, i53_141, i53_142, i53_143, i53_144, i53_145, i53_146, i53_147, i53_148, i53_149, c]
  · show Gm 53 [vi 8, vl a, vl b] W Q ↔ _
    rw [e53]
    by_cases c : a = b
    · rw [show joV 6 a b = 1 from if_pos c]
      simp (disch := omega) only [s_1, s_2, s_3, s_4, s_76, s_5, s_6, s_7, s_8, s_9, s_10, s_11, s_12, s_13, s_14, s_15, s_16, s_17, s_18, s_19, s_20, s_21, s_22, s_23, s_24, s_25, s_26, s_27, s_28, s_29, s_30, s_31, s_32, s_33, s_34, s_35, s_36, s_37, s_38, s_39, s_40l, s_40i, s_40r, s_41, s_43, t_44, t_45, t_46, t_47, s_48, s_49, s_50, s_51, s_52, s_53, s_54, s_55, s_56, s_57, s_58, s_59, s_60, s_61, s_62_0, s_62_1, s_62_2, s_66, s_67, s_68, s_69, s_70, s_71, s_72, s_73, sws_n, sws_c, lget, lset, fget, fset, nolg, nolong, avc, stw, cnd, isobj_eo, GCi, GCn, retk, List.length_cons, List.length_nil, ↓reduceIte, and_true, true_and, not_true_eq_false, not_false_eq_true, forall_const, Nat.reduceAdd, Nat.reduceLT, Nat.reduceLeDiff, Nat.lt_add_one, Nat.le_refl, Nat.zero_le, Nat.sub_zero, Int.reduceEq, Int.reduceNe, Int.reduceLT, Int.reduceLE, Int.reduceAdd, Int.reduceSub, Int.reduceMul, Int.reduceNeg, Int.reduceTDiv, Int.reduceTMod, ne_eq, reduceCtorEq, Nat.reduceEqDiff, Int.cast_ofNat_Int, true_or, or_true, false_or, or_false, lcq_0, lcq_2, lcq_3, lcq_4, lcq_5, wu_s, wu_1, wu_w, wu_lt, wu_ne, ar_s, ar_n, rr_s, rr_n, ob_n, nz_c, lt_T, lt_F, le_T, le_F, ie_T, ie_F, nt_T, nt_F, nl_T, nl_F, in_T, and_false, false_and, and_self, not_true_eq_false, Int.toNat_natCast, Int.reduceToNat, if_true, if_false, mi_53, i53_0, i53_1, i53_56, i53_57, i53_58, i53_59, i53_60, i53_61, i53_62, i53_63, i53_64, i53_65, i53_66, i53_67, i53_68, i53_69, i53_70, i53_71, i53_74, i53_75, i53_78, i53_79, i53_80, i53_81, i53_82, i53_83, i53_84, i53_85, i53_88, i53_89, i53_92, i53_93, i53_94, i53_95, i53_96, i53_97, i53_100, i53_101, i53_104, i53_105, i53_106, i53_107, i53_108, i53_109, i53_112, i53_113, i53_116, i53_117, i53_118, i53_119, i53_120, i53_121, i53_124, i53_125, i53_128, i53_129, i53_130, i53_131, i53_132, i53_133, i53_136, i53_137, i53_140, i53_141, i53_142, i53_143, i53_144, i53_145, i53_146, i53_147, i53_148, i53_149, c]
    · rw [show joV 6 a b = 0 from if_neg c]
      simp (disch := omega) only [s_1, s_2, s_3, s_4, s_76, s_5, s_6, s_7, s_8, s_9, s_10, s_11, s_12, s_13, s_14, s_15, s_16, s_17, s_18, s_19, s_20, s_21, s_22, s_23, s_24, s_25, s_26, s_27, s_28, s_29, s_30, s_31, s_32, s_33, s_34, s_35, s_36, s_37, s_38, s_39, s_40l, s_40i, s_40r, s_41, s_43, t_44, t_45, t_46, t_47, s_48, s_49, s_50, s_51, s_52, s_53, s_54, s_55, s_56, s_57, s_58, s_59, s_60, s_61, s_62_0, s_62_1, s_62_2, s_66, s_67, s_68, s_69, s_70, s_71, s_72, s_73, sws_n, sws_c, lget, lset, fget, fset, nolg, nolong, avc, stw, cnd, isobj_eo, GCi, GCn, retk, List.length_cons, List.length_nil, ↓reduceIte, and_true, true_and, not_true_eq_false, not_false_eq_true, forall_const, Nat.reduceAdd, Nat.reduceLT, Nat.reduceLeDiff, Nat.lt_add_one, Nat.le_refl, Nat.zero_le, Nat.sub_zero, Int.reduceEq, Int.reduceNe, Int.reduceLT, Int.reduceLE, Int.reduceAdd, Int.reduceSub, Int.reduceMul, Int.reduceNeg, Int.reduceTDiv, Int.reduceTMod, ne_eq, reduceCtorEq, Nat.reduceEqDiff, Int.cast_ofNat_Int, true_or, or_true, false_or, or_false, lcq_0, lcq_2, lcq_3, lcq_4, lcq_5, wu_s, wu_1, wu_w, wu_lt, wu_ne, ar_s, ar_n, rr_s, rr_n, ob_n, nz_c, lt_T, lt_F, le_T, le_F, ie_T, ie_F, nt_T, nt_F, nl_T, nl_F, in_T, and_false, false_and, and_self, not_true_eq_false, Int.toNat_natCast, Int.reduceToNat, if_true, if_false, mi_53, i53_0, i53_1, i53_56, i53_57, i53_58, i53_59, i53_60, i53_61, i53_62, i53_63, i53_64, i53_65, i53_66, i53_67, i53_68, i53_69, i53_70, i53_71, i53_74, i53_75, i53_78, i53_79, i53_80, i53_81, i53_82, i53_83, i53_84, i53_85, i53_88, i53_89, i53_92, i53_93, i53_94, i53_95, i53_96, i53_97, i53_100, i53_101, i53_104, i53_105, i53_106, i53_107, i53_108, i53_109, i53_112, i53_113, i53_116, i53_117, i53_118, i53_119, i53_120, i53_121, i53_124, i53_125, i53_128, i53_129, i53_130, i53_131, i53_132, i53_133, i53_136, i53_137, i53_140, i53_141, i53_142, i53_143, i53_144, i53_145, i53_146, i53_147, i53_148, i53_149, c]
  · show Gm 53 [vi 9, vl a, vl b] W Q ↔ _
    rw [e53]
    by_cases c : b ≤ a
    · rw [show joV 7 a b = 1 from if_pos c]
      simp (disch := omega) only [s_1, s_2, s_3, s_4, s_76, s_5, s_6, s_7, s_8, s_9, s_10, s_11, s_12, s_13, s_14, s_15, s_16, s_17, s_18, s_19, s_20, s_21, s_22, s_23, s_24, s_25, s_26, s_27, s_28, s_29, s_30, s_31, s_32, s_33, s_34, s_35, s_36, s_37, s_38, s_39, s_40l, s_40i, s_40r, s_41, s_43, t_44, t_45, t_46, t_47, s_48, s_49, s_50, s_51, s_52, s_53, s_54, s_55, s_56, s_57, s_58, s_59, s_60, s_61, s_62_0, s_62_1, s_62_2, s_66, s_67, s_68, s_69, s_70, s_71, s_72, s_73, sws_n, sws_c, lget, lset, fget, fset, nolg, nolong, avc, stw, cnd, isobj_eo, GCi, GCn, retk, List.length_cons, List.length_nil, ↓reduceIte, and_true, true_and, not_true_eq_false, not_false_eq_true, forall_const, Nat.reduceAdd, Nat.reduceLT, Nat.reduceLeDiff, Nat.lt_add_one, Nat.le_refl, Nat.zero_le, Nat.sub_zero, Int.reduceEq, Int.reduceNe, Int.reduceLT, Int.reduceLE, Int.reduceAdd, Int.reduceSub, Int.reduceMul, Int.reduceNeg, Int.reduceTDiv, Int.reduceTMod, ne_eq, reduceCtorEq, Nat.reduceEqDiff, Int.cast_ofNat_Int, true_or, or_true, false_or, or_false, lcq_0, lcq_2, lcq_3, lcq_4, lcq_5, wu_s, wu_1, wu_w, wu_lt, wu_ne, ar_s, ar_n, rr_s, rr_n, ob_n, nz_c, lt_T, lt_F, le_T, le_F, ie_T, ie_F, nt_T, nt_F, nl_T, nl_F, in_T, and_false, false_and, and_self, not_true_eq_false, Int.toNat_natCast, Int.reduceToNat, if_true, if_false, mi_53, i53_0, i53_1, i53_56, i53_57, i53_58, i53_59, i53_60, i53_61, i53_62, i53_63, i53_64, i53_65, i53_66, i53_67, i53_68, i53_69, i53_70, i53_71, i53_74, i53_75, i53_78, i53_79, i53_80, i53_81, i53_82, i53_83, i53_84, i53_85, i53_88, i53_89, i53_92, i53_93, i53_94, i53_95, i53_96, i53_97, i53_100, i53_101, i53_104, i53_105, i53_106, i53_107, i53_108, i53_109, i53_112, i53_113, i53_116, i53_117, i53_118, i53_119, i53_120, i53_121, i53_124, i53_125, i53_128, i53_129, i53_130, i53_131, i53_132, i53_133, i53_136, i53_137, i53_140, i53_141, i53_142, i53_143, i53_144, i53_145, i53_146, i53_147, i53_148, i53_149, c]
    · rw [show joV 7 a b = 0 from if_neg c]
      simp (disch := omega) only [s_1, s_2, s_3, s_4, s_76, s_5, s_6, s_7, s_8, s_9, s_10, s_11, s_12, s_13, s_14, s_15, s_16, s_17, s_18, s_19, s_20, s_21, s_22, s_23, s_24, s_25, s_26, s_27, s_28, s_29, s_30, s_31, s_32, s_33, s_34, s_35, s_36, s_37, s_38, s_39, s_40l, s_40i, s_40r, s_41, s_43, t_44, t_45, t_46, t_47, s_48, s_49, s_50, s_51, s_52, s_53, s_54, s_55, s_56, s_57, s_58, s_59, s_60, s_61, s_62_0, s_62_1, s_62_2, s_66, s_67, s_68, s_69, s_70, s_71, s_72, s_73, sws_n, sws_c, lget, lset, fget, fset, nolg, nolong, avc, stw, cnd, isobj_eo, GCi, GCn, retk, List.length_cons, List.length_nil, ↓reduceIte, and_true, true_and, not_true_eq_false, not_false_eq_true, forall_const, Nat.reduceAdd, Nat.reduceLT, Nat.reduceLeDiff, Nat.lt_add_one, Nat.le_refl, Nat.zero_le, Nat.sub_zero, Int.reduceEq, Int.reduceNe, Int.reduceLT, Int.reduceLE, Int.reduceAdd, Int.reduceSub, Int.reduceMul, Int.reduceNeg, Int.reduceTDiv, Int.reduceTMod, ne_eq, reduceCtorEq, Nat.reduceEqDiff, Int.cast_ofNat_Int, true_or, or_true, false_or, or_false, lcq_0, lcq_2, lcq_3, lcq_4, lcq_5, wu_s, wu_1, wu_w, wu_lt, wu_ne, ar_s, ar_n, rr_s, rr_n, ob_n, nz_c, lt_T, lt_F, le_T, le_F, ie_T, ie_F, nt_T, nt_F, nl_T, nl_F, in_T, and_false, false_and, and_self, not_true_eq_false, Int.toNat_natCast, Int.reduceToNat, if_true, if_false, mi_53, i53_0, i53_1, i53_56, i53_57, i53_58, i53_59, i53_60, i53_61, i53_62, i53_63, i53_64, i53_65, i53_66, i53_67, i53_68, i53_69, i53_70, i53_71, i53_74, i53_75, i53_78, i53_79, i53_80, i53_81, i53_82, i53_83, i53_84, i53_85, i53_88, i53_89, i53_92, i53_93, i53_94, i53_95, i53_96, i53_97, i53_100, i53_101, i53_104, i53_105, i53_106, i53_107, i53_108, i53_109, i53_112, i53_113, i53_116, i53_117, i53_118, i53_119, i53_120, i53_121, i53_124, i53_125, i53_128, i53_129, i53_130, i53_131, i53_132, i53_133, i53_136, i53_137, i53_140, i53_141, i53_142, i53_143, i53_144, i53_145, i53_146, i53_147, i53_148, i53_149, c]
  · show Gm 53 [vi 10, vl a, vl b] W Q ↔ _
    rw [e53]
    by_cases c : b < a
    · rw [show joV 8 a b = 1 from if_pos c]
      simp (disch := omega) only [s_1, s_2, s_3, s_4, s_76, s_5, s_6, s_7, s_8, s_9, s_10, s_11, s_12, s_13, s_14, s_15, s_16, s_17, s_18, s_19, s_20, s_21, s_22, s_23, s_24, s_25, s_26, s_27, s_28, s_29, s_30, s_31, s_32, s_33, s_34, s_35, s_36, s_37, s_38, s_39, s_40l, s_40i, s_40r, s_41, s_43, t_44, t_45, t_46, t_47, s_48, s_49, s_50, s_51, s_52, s_53, s_54, s_55, s_56, s_57, s_58, s_59, s_60, s_61, s_62_0, s_62_1, s_62_2, s_66, s_67, s_68, s_69, s_70, s_71, s_72, s_73, sws_n, sws_c, lget, lset, fget, fset, nolg, nolong, avc, stw, cnd, isobj_eo, GCi, GCn, retk, List.length_cons, List.length_nil, ↓reduceIte, and_true, true_and, not_true_eq_false, not_false_eq_true, forall_const, Nat.reduceAdd, Nat.reduceLT, Nat.reduceLeDiff, Nat.lt_add_one, Nat.le_refl, Nat.zero_le, Nat.sub_zero, Int.reduceEq, Int.reduceNe, Int.reduceLT, Int.reduceLE, Int.reduceAdd, Int.reduceSub, Int.reduceMul, Int.reduceNeg, Int.reduceTDiv, Int.reduceTMod, ne_eq, reduceCtorEq, Nat.reduceEqDiff, Int.cast_ofNat_Int, true_or, or_true, false_or, or_false, lcq_0, lcq_2, lcq_3, lcq_4, lcq_5, wu_s, wu_1, wu_w, wu_lt, wu_ne, ar_s, ar_n, rr_s, rr_n, ob_n, nz_c, lt_T, lt_F, le_T, le_F, ie_T, ie_F, nt_T, nt_F, nl_T, nl_F, in_T, and_false, false_and, and_self, not_true_eq_false, Int.toNat_natCast, Int.reduceToNat, if_true, if_false, mi_53, i53_0, i53_1, i53_56, i53_57, i53_58, i53_59, i53_60, i53_61, i53_62, i53_63, i53_64, i53_65, i53_66, i53_67, i53_68, i53_69, i53_70, i53_71, i53_74, i53_75, i53_78, i53_79, i53_80, i53_81, i53_82, i53_83, i53_84, i53_85, i53_88, i53_89, i53_92, i53_93, i53_94, i53_95, i53_96, i53_97, i53_100, i53_101, i53_104, i53_105, i53_106, i53_107, i53_108, i53_109, i53_112, i53_113, i53_116, i53_117, i53_118, i53_119, i53_120, i53_121, i53_124, i53_125, i53_128, i53_129, i53_130, i53_131, i53_132, i53_133, i53_136, i53_137, i53_140, i53_141, i53_142, i53_143, i53_144, i53_145, i53_146, i53_147, i53_148, i53_149, c]
    · rw [show joV 8 a b = 0 from if_neg c]
      simp (disch := omega) only [s_1, s_2, s_3, s_4, s_76, s_5, s_6, s_7, s_8, s_9, s_10, s_11, s_12, s_13, s_14, s_15, s_16, s_17, s_18, s_19, s_20, s_21, s_22, s_23, s_24, s_25, s_26, s_27, s_28, s_29, s_30, s_31, s_32, s_33, s_34, s_35, s_36, s_37, s_38, s_39, s_40l, s_40i, s_40r, s_41, s_43, t_44, t_45, t_46, t_47, s_48, s_49, s_50, s_51, s_52, s_53, s_54, s_55, s_56, s_57, s_58, s_59, s_60, s_61, s_62_0, s_62_1, s_62_2, s_66, s_67, s_68, s_69, s_70, s_71, s_72, s_73, sws_n, sws_c, lget, lset, fget, fset, nolg, nolong, avc, stw, cnd, isobj_eo, GCi, GCn, retk, List.length_cons, List.length_nil, ↓reduceIte, and_true, true_and, not_true_eq_false, not_false_eq_true, forall_const, Nat.reduceAdd, Nat.reduceLT, Nat.reduceLeDiff, Nat.lt_add_one, Nat.le_refl, Nat.zero_le, Nat.sub_zero, Int.reduceEq, Int.reduceNe, Int.reduceLT, Int.reduceLE, Int.reduceAdd, Int.reduceSub, Int.reduceMul, Int.reduceNeg, Int.reduceTDiv, Int.reduceTMod, ne_eq, reduceCtorEq, Nat.reduceEqDiff, Int.cast_ofNat_Int, true_or, or_true, false_or, or_false, lcq_0, lcq_2, lcq_3, lcq_4, lcq_5, wu_s, wu_1, wu_w, wu_lt, wu_ne, ar_s, ar_n, rr_s, rr_n, ob_n, nz_c, lt_T, lt_F, le_T, le_F, ie_T, ie_F, nt_T, nt_F, nl_T, nl_F, in_T, and_false, false_and, and_self, not_true_eq_false, Int.toNat_natCast, Int.reduceToNat, if_true, if_false, mi_53, i53_0, i53_1, i53_56, i53_57, i53_58, i53_59, i53_60, i53_61, i53_62, i53_63, i53_64, i53_65, i53_66, i53_67, i53_68, i53_69, i53_70, i53_71, i53_74, i53_75, i53_78, i53_79, i53_80, i53_81, i53_82, i53_83, i53_84, i53_85, i53_88, i53_89, i53_92, i53_93, i53_94, i53_95, i53_96, i53_97, i53_100, i53_101, i53_104, i53_105, i53_106, i53_107, i53_108, i53_109, i53_112, i53_113, i53_116, i53_117, i53_118, i53_119, i53_120, i53_121, i53_124, i53_125, i53_128, i53_129, i53_130, i53_131, i53_132, i53_133, i53_136, i53_137, i53_140, i53_141, i53_142, i53_143, i53_144, i53_145, i53_146, i53_147, i53_148, i53_149, c]
  · show Gm 53 [vi 11, vl a, vl b] W Q ↔ _
    rw [e53]
    simp (disch := omega) only [s_1, s_2, s_3, s_4, s_76, s_5, s_6, s_7, s_8, s_9, s_10, s_11, s_12, s_13, s_14, s_15, s_16, s_17, s_18, s_19, s_20, s_21, s_22, s_23, s_24, s_25, s_26, s_27, s_28, s_29, s_30, s_31, s_32, s_33, s_34, s_35, s_36, s_37, s_38, s_39, s_40l, s_40i, s_40r, s_41, s_43, t_44, t_45, t_46, t_47, s_48, s_49, s_50, s_51, s_52, s_53, s_54, s_55, s_56, s_57, s_58, s_59, s_60, s_61, s_62_0, s_62_1, s_62_2, s_66, s_67, s_68, s_69, s_70, s_71, s_72, s_73, sws_n, sws_c, lget, lset, fget, fset, nolg, nolong, avc, stw, cnd, isobj_eo, GCi, GCn, retk, List.length_cons, List.length_nil, ↓reduceIte, and_true, true_and, not_true_eq_false, not_false_eq_true, forall_const, Nat.reduceAdd, Nat.reduceLT, Nat.reduceLeDiff, Nat.lt_add_one, Nat.le_refl, Nat.zero_le, Nat.sub_zero, Int.reduceEq, Int.reduceNe, Int.reduceLT, Int.reduceLE, Int.reduceAdd, Int.reduceSub, Int.reduceMul, Int.reduceNeg, Int.reduceTDiv, Int.reduceTMod, ne_eq, reduceCtorEq, Nat.reduceEqDiff, Int.cast_ofNat_Int, true_or, or_true, false_or, or_false, lcq_0, lcq_2, lcq_3, lcq_4, lcq_5, wu_s, wu_1, wu_w, wu_lt, wu_ne, ar_s, ar_n, rr_s, rr_n, ob_n, nz_c, lt_T, lt_F, le_T, le_F, ie_T, ie_F, nt_T, nt_F, nl_T, nl_F, in_T, and_false, false_and, and_self, not_true_eq_false, Int.toNat_natCast, Int.reduceToNat, if_true, if_false, mi_53, i53_0, i53_1, i53_56, i53_57, i53_58, i53_59, i53_60, i53_61, i53_62, i53_63, i53_64, i53_65, i53_66, i53_67, i53_68, i53_69, i53_70, i53_71, i53_74, i53_75, i53_78, i53_79, i53_80, i53_81, i53_82, i53_83, i53_84, i53_85, i53_88, i53_89, i53_92, i53_93, i53_94, i53_95, i53_96, i53_97, i53_100, i53_101, i53_104, i53_105, i53_106, i53_107, i53_108, i53_109, i53_112, i53_113, i53_116, i53_117, i53_118, i53_119, i53_120, i53_121, i53_124, i53_125, i53_128, i53_129, i53_130, i53_131, i53_132, i53_133, i53_136, i53_137, i53_140, i53_141, i53_142, i53_143, i53_144, i53_145, i53_146, i53_147, i53_148, i53_149]
    exact Iff.rfl
  · show Gm 53 [vi 12, vl a, vl b] W Q ↔ _
    rw [e53]
    simp (disch := omega) only [s_1, s_2, s_3, s_4, s_76, s_5, s_6, s_7, s_8, s_9, s_10, s_11, s_12, s_13, s_14, s_15, s_16, s_17, s_18, s_19, s_20, s_21, s_22, s_23, s_24, s_25, s_26, s_27, s_28, s_29, s_30, s_31, s_32, s_33, s_34, s_35, s_36, s_37, s_38, s_39, s_40l, s_40i, s_40r, s_41, s_43, t_44, t_45, t_46, t_47, s_48, s_49, s_50, s_51, s_52, s_53, s_54, s_55, s_56, s_57, s_58, s_59, s_60, s_61, s_62_0, s_62_1, s_62_2, s_66, s_67, s_68, s_69, s_70, s_71, s_72, s_73, sws_n, sws_c, lget, lset, fget, fset, nolg, nolong, avc, stw, cnd, isobj_eo, GCi, GCn, retk, List.length_cons, List.length_nil, ↓reduceIte, and_true, true_and, not_true_eq_false, not_false_eq_true, forall_const, Nat.reduceAdd, Nat.reduceLT, Nat.reduceLeDiff, Nat.lt_add_one, Nat.le_refl, Nat.zero_le, Nat.sub_zero, Int.reduceEq, Int.reduceNe, Int.reduceLT, Int.reduceLE, Int.reduceAdd, Int.reduceSub, Int.reduceMul, Int.reduceNeg, Int.reduceTDiv, Int.reduceTMod, ne_eq, reduceCtorEq, Nat.reduceEqDiff, Int.cast_ofNat_Int, true_or, or_true, false_or, or_false, lcq_0, lcq_2, lcq_3, lcq_4, lcq_5, wu_s, wu_1, wu_w, wu_lt, wu_ne, ar_s, ar_n, rr_s, rr_n, ob_n, nz_c, lt_T, lt_F, le_T, le_F, ie_T, ie_F, nt_T, nt_F, nl_T, nl_F, in_T, and_false, false_and, and_self, not_true_eq_false, Int.toNat_natCast, Int.reduceToNat, if_true, if_false, mi_53, i53_0, i53_1, i53_56, i53_57, i53_58, i53_59, i53_60, i53_61, i53_62, i53_63, i53_64, i53_65, i53_66, i53_67, i53_68, i53_69, i53_70, i53_71, i53_74, i53_75, i53_78, i53_79, i53_80, i53_81, i53_82, i53_83, i53_84, i53_85, i53_88, i53_89, i53_92, i53_93, i53_94, i53_95, i53_96, i53_97, i53_100, i53_101, i53_104, i53_105, i53_106, i53_107, i53_108, i53_109, i53_112, i53_113, i53_116, i53_117, i53_118, i53_119, i53_120, i53_121, i53_124, i53_125, i53_128, i53_129, i53_130, i53_131, i53_132, i53_133, i53_136, i53_137, i53_140, i53_141, i53_142, i53_143, i53_144, i53_145, i53_146, i53_147, i53_148, i53_149]
    exact Iff.rfl
  · show Gm 53 [vi 4, vl a, vl b] W Q ↔ _
    rw [e53]
    simp (disch := omega) only [s_1, s_2, s_3, s_4, s_76, s_5, s_6, s_7, s_8, s_9, s_10, s_11, s_12, s_13, s_14, s_15, s_16, s_17, s_18, s_19, s_20, s_21, s_22, s_23, s_24, s_25, s_26, s_27, s_28, s_29, s_30, s_31, s_32, s_33, s_34, s_35, s_36, s_37, s_38, s_39, s_40l, s_40i, s_40r, s_41, s_43, t_44, t_45, t_46, t_47, s_48, s_49, s_50, s_51, s_52, s_53, s_54, s_55, s_56, s_57, s_58, s_59, s_60, s_61, s_62_0, s_62_1, s_62_2, s_66, s_67, s_68, s_69, s_70, s_71, s_72, s_73, sws_n, sws_c, lget, lset, fget, fset, nolg, nolong, avc, stw, cnd, isobj_eo, GCi, GCn, retk, List.length_cons, List.length_nil, ↓reduceIte, and_true, true_and, not_true_eq_false, not_false_eq_true, forall_const, Nat.reduceAdd, Nat.reduceLT, Nat.reduceLeDiff, Nat.lt_add_one, Nat.le_refl, Nat.zero_le, Nat.sub_zero, Int.reduceEq, Int.reduceNe, Int.reduceLT, Int.reduceLE, Int.reduceAdd, Int.reduceSub, Int.reduceMul, Int.reduceNeg, Int.reduceTDiv, Int.reduceTMod, ne_eq, reduceCtorEq, Nat.reduceEqDiff, Int.cast_ofNat_Int, true_or, or_true, false_or, or_false, lcq_0, lcq_2, lcq_3, lcq_4, lcq_5, wu_s, wu_1, wu_w, wu_lt, wu_ne, ar_s, ar_n, rr_s, rr_n, ob_n, nz_c, lt_T, lt_F, le_T, le_F, ie_T, ie_F, nt_T, nt_F, nl_T, nl_F, in_T, and_false, false_and, and_self, not_true_eq_false, Int.toNat_natCast, Int.reduceToNat, if_true, if_false, mi_53, i53_0, i53_1, i53_56, i53_57, i53_58, i53_59, i53_60, i53_61, i53_62, i53_63, i53_64, i53_65, i53_66, i53_67, i53_68, i53_69, i53_70, i53_71, i53_74, i53_75, i53_78, i53_79, i53_80, i53_81, i53_82, i53_83, i53_84, i53_85, i53_88, i53_89, i53_92, i53_93, i53_94, i53_95, i53_96, i53_97, i53_100, i53_101, i53_104, i53_105, i53_106, i53_107, i53_108, i53_109, i53_112, i53_113, i53_116, i53_117, i53_118, i53_119, i53_120, i53_121, i53_124, i53_125, i53_128, i53_129, i53_130, i53_131, i53_132, i53_133, i53_136, i53_137, i53_140, i53_141, i53_142, i53_143, i53_144, i53_145, i53_146, i53_147, i53_148, i53_149]
    exact Iff.rfl
  · show Gm 53 [vi 5, vl a, vl b] W Q ↔ _
    rw [e53]
    by_cases c : b = 0
    · rw [show joV 14 a b = 0 from if_pos c]
      simp (disch := omega) only [s_1, s_2, s_3, s_4, s_76, s_5, s_6, s_7, s_8, s_9, s_10, s_11, s_12, s_13, s_14, s_15, s_16, s_17, s_18, s_19, s_20, s_21, s_22, s_23, s_24, s_25, s_26, s_27, s_28, s_29, s_30, s_31, s_32, s_33, s_34, s_35, s_36, s_37, s_38, s_39, s_40l, s_40i, s_40r, s_41, s_43, t_44, t_45, t_46, t_47, s_48, s_49, s_50, s_51, s_52, s_53, s_54, s_55, s_56, s_57, s_58, s_59, s_60, s_61, s_62_0, s_62_1, s_62_2, s_66, s_67, s_68, s_69, s_70, s_71, s_72, s_73, sws_n, sws_c, lget, lset, fget, fset, nolg, nolong, avc, stw, cnd, isobj_eo, GCi, GCn, retk, List.length_cons, List.length_nil, ↓reduceIte, and_true, true_and, not_true_eq_false, not_false_eq_true, forall_const, Nat.reduceAdd, Nat.reduceLT, Nat.reduceLeDiff, Nat.lt_add_one, Nat.le_refl, Nat.zero_le, Nat.sub_zero, Int.reduceEq, Int.reduceNe, Int.reduceLT, Int.reduceLE, Int.reduceAdd, Int.reduceSub, Int.reduceMul, Int.reduceNeg, Int.reduceTDiv, Int.reduceTMod, ne_eq, reduceCtorEq, Nat.reduceEqDiff, Int.cast_ofNat_Int, true_or, or_true, false_or, or_false, lcq_0, lcq_2, lcq_3, lcq_4, lcq_5, wu_s, wu_1, wu_w, wu_lt, wu_ne, ar_s, ar_n, rr_s, rr_n, ob_n, nz_c, lt_T, lt_F, le_T, le_F, ie_T, ie_F, nt_T, nt_F, nl_T, nl_F, in_T, and_false, false_and, and_self, not_true_eq_false, Int.toNat_natCast, Int.reduceToNat, if_true, if_false, mi_53, i53_0, i53_1, i53_56, i53_57, i53_58, i53_59, i53_60, i53_61, i53_62, i53_63, i53_64, i53_65, i53_66, i53_67, i53_68, i53_69, i53_70, i53_71, i53_74, i53_75, i53_78, i53_79, i53_80, i53_81, i53_82, i53_83, i53_84, i53_85, i53_88, i53_89, i53_92, i53_93, i53_94, i53_95, i53_96, i53_97, i53_100, i53_101, i53_104, i53_105, i53_106, i53_107, i53_108, i53_109, i53_112, i53_113, i53_116, i53_117, i53_118, i53_119, i53_120, i53_121, i53_124, i53_125, i53_128, i53_129, i53_130, i53_131, i53_132, i53_133, i53_136, i53_137, i53_140, i53_141, i53_142, i53_143, i53_144, i53_145, i53_146, i53_147, i53_148, i53_149, c]
    · rw [show joV 14 a b = w64 (Int.tdiv a b) from if_neg c]
      simp (disch := omega) only [s_1, s_2, s_3, s_4, s_76, s_5, s_6, s_7, s_8, s_9, s_10, s_11, s_12, s_13, s_14, s_15, s_16, s_17, s_18, s_19, s_20, s_21, s_22, s_23, s_24, s_25, s_26, s_27, s_28, s_29, s_30, s_31, s_32, s_33, s_34, s_35, s_36, s_37, s_38, s_39, s_40l, s_40i, s_40r, s_41, s_43, t_44, t_45, t_46, t_47, s_48, s_49, s_50, s_51, s_52, s_53, s_54, s_55, s_56, s_57, s_58, s_59, s_60, s_61, s_62_0, s_62_1, s_62_2, s_66, s_67, s_68, s_69, s_70, s_71, s_72, s_73, sws_n, sws_c, lget, lset, fget, fset, nolg, nolong, avc, stw, cnd, isobj_eo, GCi, GCn, retk, List.length_cons, List.length_nil, ↓reduceIte, and_true, true_and, not_true_eq_false, not_false_eq_true, forall_const, Nat.reduceAdd, Nat.reduceLT, Nat.reduceLeDiff, Nat.lt_add_one, Nat.le_refl, Nat.zero_le, Nat.sub_zero, Int.reduceEq, Int.reduceNe, Int.reduceLT, Int.reduceLE, Int.reduceAdd, Int.reduceSub, Int.reduceMul, Int.reduceNeg, Int.reduceTDiv, Int.reduceTMod, ne_eq, reduceCtorEq, Nat.reduceEqDiff, Int.cast_ofNat_Int, true_or, or_true, false_or, or_false, lcq_0, lcq_2, lcq_3, lcq_4, lcq_5, wu_s, wu_1, wu_w, wu_lt, wu_ne, ar_s, ar_n, rr_s, rr_n, ob_n, nz_c, lt_T, lt_F, le_T, le_F, ie_T, ie_F, nt_T, nt_F, nl_T, nl_F, in_T, and_false, false_and, and_self, not_true_eq_false, Int.toNat_natCast, Int.reduceToNat, if_true, if_false, mi_53, i53_0, i53_1, i53_56, i53_57, i53_58, i53_59, i53_60, i53_61, i53_62, i53_63, i53_64, i53_65, i53_66, i53_67, i53_68, i53_69, i53_70, i53_71, i53_74, i53_75, i53_78, i53_79, i53_80, i53_81, i53_82, i53_83, i53_84, i53_85, i53_88, i53_89, i53_92, i53_93, i53_94, i53_95, i53_96, i53_97, i53_100, i53_101, i53_104, i53_105, i53_106, i53_107, i53_108, i53_109, i53_112, i53_113, i53_116, i53_117, i53_118, i53_119, i53_120, i53_121, i53_124, i53_125, i53_128, i53_129, i53_130, i53_131, i53_132, i53_133, i53_136, i53_137, i53_140, i53_141, i53_142, i53_143, i53_144, i53_145, i53_146, i53_147, i53_148, i53_149, c]
theorem wmp_b (hv : 0 ≤ v ∧ v < wNo sl) : 0 ≤ wmp sl v ∧ wmp sl v < 12 := by
  unfold wNo at hv
  unfold wmp
  by_cases c : sl < 8
  · rw [if_pos c] at hv ⊢
    have := (show ∀ k : Nat, k < 7 → (0 : Int) ≤ [0, 1, 6, 2, 3, 4, 5].getD k 0 ∧ [0, 1, 6, 2, 3, 4, 5].getD k 0 < (12 : Int) by decide) v.toNat (by omega)
    exact this
  · rw [if_neg c] at hv ⊢
    omega
set_option maxRecDepth 10000 in
theorem x_result {B A K sz ca : Nat} {cd : Nat → Int} {t : Bool} (hC : CS W) (hca : W.2 ca = ea 0 sz cd) (hc1 : 192 ≤ ca) (hc2 : ca < W.1) (hsz : sz ≤ 400) (hA : A + K ≤ sz) (hcd : ∀ i, A ≤ i → i < A + K → cd i = enc sl (s (B + i)) (m (B + i))) (ht : tyS (wNo sl) s m (B + A) K = some [t]) (hnv : nvS s (B + A) K ≤ 60) (hw2 : ∀ v : Int, 0 ≤ v → v < wNo sl → w v.toNat = ar W 128 (wmp sl v).toNat) (hQ : ∀ g, Q (some (vl ((evS w s m (B + A) K).headD 0))) (wu W 129 (ea 3 60 g))) : Gm 52 [vr 127, vr ca, vi (A : Int), vi ((A + K : Nat) : Int)] W Q := by
  have hw : 192 ≤ W.1 := hC.1
  have a127 := ca_127 hC
  have a128 := ca_128 hC
  have a129 := ca_129 hC
  have szb : sz < 2147483648 := by omega
  have loop : ∀ (f j : Nat) (g : Nat → Int) (o6 o7 : Option AV), nolong o6 → nolong o7 → j + f = K → stk g (evS w s m (B + A) j) → G 52 6 [some (vr 127), some (vr ca), some (vi (A : Int)), some (vi ((A + K : Nat) : Int)), some (vi (((evS w s m (B + A) j).length : Nat) : Int)), some (vi ((A + j : Nat) : Int)), o6, o7] [] (wu W 129 (ea 3 60 g)) 0 0 Q := by
    intro f
    induction f with
    | zero =>
      intro j g o6 o7 q6 q7 hj hg
      have jK : j = K := by omega
      subst jK
      have ok := okS (w := w) ht
      have hq := hQ g
      have c1 : ¬ ((A + j : Nat) : Int) < ((A + j : Nat) : Int) := by omega
      generalize evS w s m (B + A) j = l at *
      match l, ok, hg, hq with
      | [x], ok, hg, hq =>
        have g0 : g 0 = x := hg.1
        have e1 : (([x] : List Int).length : Nat) = 1 := rfl
        rw [e1, i52_6]
        simp (disch := omega) only [s_1, s_2, s_3, s_4, s_76, s_5, s_6, s_7, s_8, s_9, s_10, s_11, s_12, s_13, s_14, s_15, s_16, s_17, s_18, s_19, s_20, s_21, s_22, s_23, s_24, s_25, s_26, s_27, s_28, s_29, s_30, s_31, s_32, s_33, s_34, s_35, s_36, s_37, s_38, s_39, s_40l, s_40i, s_40r, s_41, s_43, t_44, t_45, t_46, t_47, s_48, s_49, s_50, s_51, s_52, s_53, s_54, s_55, s_56, s_57, s_58, s_59, s_60, s_61, s_62_0, s_62_1, s_62_2, s_66, s_67, s_68, s_69, s_70, s_71, s_72, s_73, sws_n, sws_c, lget, lset, fget, fset, nolg, nolong, avc, stw, cnd, isobj_eo, GCi, GCn, retk, List.length_cons, List.length_nil, ↓reduceIte, and_true, true_and, not_true_eq_false, not_false_eq_true, forall_const, Nat.reduceAdd, Nat.reduceLT, Nat.reduceLeDiff, Nat.lt_add_one, Nat.le_refl, Nat.zero_le, Nat.sub_zero, Int.reduceEq, Int.reduceNe, Int.reduceLT, Int.reduceLE, Int.reduceAdd, Int.reduceSub, Int.reduceMul, Int.reduceNeg, Int.reduceTDiv, Int.reduceTMod, ne_eq, reduceCtorEq, Nat.reduceEqDiff, Int.cast_ofNat_Int, true_or, or_true, false_or, or_false, lcq_0, lcq_2, lcq_3, lcq_4, lcq_5, wu_s, wu_1, wu_w, wu_lt, wu_ne, ar_s, ar_n, rr_s, rr_n, ob_n, nz_c, lt_T, lt_F, le_T, le_F, ie_T, ie_F, nt_T, nt_F, nl_T, nl_F, in_T, and_false, false_and, and_self, not_true_eq_false, Int.toNat_natCast, Int.reduceToNat, if_true, if_false, mi_52, i52_0, i52_1, i52_3, i52_4, i52_6, i52_8, i52_9, i52_12, i52_14, i52_15, i52_16, i52_19, i52_20, i52_22, i52_23, i52_25, i52_26, i52_28, i52_29, i52_31, i52_32, i52_33, i52_34, i52_36, i52_38, i52_41, i52_43, i52_44, i52_47, i52_48, i52_51, i52_52, i52_55, i52_57, i52_59, i52_60, i52_61, i52_64, i52_67, i52_69, i52_70, i52_73, i52_75, i52_76, i52_79, i52_80, i52_83, i52_85, i52_86, i52_89, i52_90, i52_93, i52_94, i52_97, i52_99, i52_100, i52_103, i52_105, i52_106, i52_107, i52_110, i52_113, i52_115, i52_117, i52_120, i52_122, i52_123, i52_126, i52_127, i52_130, i52_132, i52_133, i52_134, i52_135, i52_136, i52_139, i52_141, i52_142, i52_143, i52_144, i52_145, i52_146, i52_149, i52_151, i52_152, i52_155, i52_158, i52_159, i52_162, i52_164, i52_165, i52_166, i52_168, i52_169, i52_172, i52_174, i52_175, i52_176, i52_177, i52_178, i52_181, i52_183, i52_184, i52_187, i52_188, i52_191, i52_194, i52_196, i52_199, i52_200, i52_203, i52_205, i52_206, i52_207, i52_208, i52_211, i52_212, k53, g5_0, g5_1, c1, g0, a127, Int.natCast_one, show ((1 : Nat) : Int) = 1 from rfl]
        exact hq
      | x :: y :: l, ok, hg, hq => exact ok.2.elim
    | succ f ih =>
      intro j g o6 o7 q6 q7 hj hg
      have hjK : j < K := by omega
      obtain ⟨tl, h1⟩ := tyS_p ht j (by omega)
      obtain ⟨tl2, h2⟩ := tyS_p ht (j + 1) (by omega)
      have ok := okS (w := w) h1
      have ll := evS_l (w := w) h1
      have hst := h2
      unfold tyS at hst
      rw [h1] at hst
      have hst : tyI (wNo sl) (s (B + A + j)) (m (B + A + j)) tl = some tl2 := hst
      have en : evS w s m (B + A) (j + 1) = evI w (s (B + A + j)) (m (B + A + j)) (evS w s m (B + A) j) := rfl
      have nx := fun g2 o6 o7 q6 q7 h => ih (j + 1) g2 o6 o7 q6 q7 (by omega) h
      rw [en] at nx
      have c1 : ((A + j : Nat) : Int) < ((A + K : Nat) : Int) := by omega
      have c2 : ((A + j : Nat) : Int) < (sz : Int) := by omega
      have c3 : (0 : Int) ≤ ((A + j : Nat) : Int) := by omega
      have ecd := hcd (A + j) (by omega) (by omega)
      rw [show B + (A + j) = B + A + j by omega] at ecd
      have aj : ((A + j : Nat) : Int) + 1 = ((A + (j + 1) : Nat) : Int) := by omega
      have ij : in32 (((A + (j + 1) : Nat) : Int)) := by unfold in32; omega
      have nvj : nvS s (B + A) (j + 1) ≤ nvS s (B + A) K := by
        have e := nvS_a (s := s) (a := B + A) (i := j + 1) (K - (j + 1))
        rw [show j + 1 + (K - (j + 1)) = K by omega] at e
        have := nvS_p (s := s) (a := B + A + (j + 1)) (K - (j + 1))
        omega
      have env : nvS s (B + A) (j + 1) = nvS s (B + A) j + (if s (B + A + j) = 0 ∨ s (B + A + j) = 1 then 1 else 0) := rfl
      generalize hk : s (B + A + j) = k at *
      generalize hv : m (B + A + j) = v at *
      generalize evS w s m (B + A) j = l at *
      unfold tyI at hst
      rw [i52_6]
      by_cases k0 : k = 0
      · subst k0
        rw [if_pos rfl] at hst
        rw [if_pos (Or.inl rfl)] at env
        have vb : 0 ≤ v ∧ v ≤ 99999 := by
          split at hst
          · next q => exact q
          · cases hst
        obtain ⟨x, hx⟩ : ∃ x : Nat, v = (x : Int) := ⟨v.toNat, by omega⟩
        have ee : enc sl 0 v = ((16 * x : Nat) : Int) := by
          unfold enc
          rw [if_pos rfl, hx]
          omega
        rw [ee] at ecd
        have n1 := and_15 (x := 16 * x) (by omega)
        have n3 := shr_4 (x := 16 * x) (by omega)
        rw [show 16 * x % 16 = 0 by omega, Int.natCast_zero] at n1
        rw [show 16 * x / 16 = x by omega] at n3
        have l60 : (l.length : Int) < 60 := by omega
        have n2 := nx (fu g l.length v) (some (vi 0)) (some (vi (x : Int))) trivial trivial (stk_p hg)
        change G 52 6 [some (vr 127), some (vr ca), some (vi (A : Int)), some (vi ((A + K : Nat) : Int)), some (vi (((v :: l).length : Nat) : Int)), some (vi ((A + (j + 1) : Nat) : Int)), some (vi 0), some (vi (x : Int))] [] (wu W 129 (ea 3 60 (fu g l.length v))) 0 0 Q at n2
        rw [List.length_cons, nc1, hx] at n2
        simp (disch := omega) only [s_1, s_2, s_3, s_4, s_76, s_5, s_6, s_7, s_8, s_9, s_10, s_11, s_12, s_13, s_14, s_15, s_16, s_17, s_18, s_19, s_20, s_21, s_22, s_23, s_24, s_25, s_26, s_27, s_28, s_29, s_30, s_31, s_32, s_33, s_34, s_35, s_36, s_37, s_38, s_39, s_40l, s_40i, s_40r, s_41, s_43, t_44, t_45, t_46, t_47, s_48, s_49, s_50, s_51, s_52, s_53, s_54, s_55, s_56, s_57, s_58, s_59, s_60, s_61, s_62_0, s_62_1, s_62_2, s_66, s_67, s_68, s_69, s_70, s_71, s_72, s_73, sws_n, sws_c, lget, lset, fget, fset, nolg, nolong, avc, stw, cnd, isobj_eo, GCi, GCn, retk, List.length_cons, List.length_nil, ↓reduceIte, and_true, true_and, not_true_eq_false, not_false_eq_true, forall_const, Nat.reduceAdd, Nat.reduceLT, Nat.reduceLeDiff, Nat.lt_add_one, Nat.le_refl, Nat.zero_le, Nat.sub_zero, Int.reduceEq, Int.reduceNe, Int.reduceLT, Int.reduceLE, Int.reduceAdd, Int.reduceSub, Int.reduceMul, Int.reduceNeg, Int.reduceTDiv, Int.reduceTMod, ne_eq, reduceCtorEq, Nat.reduceEqDiff, Int.cast_ofNat_Int, true_or, or_true, false_or, or_false, lcq_0, lcq_2, lcq_3, lcq_4, lcq_5, wu_s, wu_1, wu_w, wu_lt, wu_ne, ar_s, ar_n, rr_s, rr_n, ob_n, nz_c, lt_T, lt_F, le_T, le_F, ie_T, ie_F, nt_T, nt_F, nl_T, nl_F, in_T, and_false, false_and, and_self, not_true_eq_false, Int.toNat_natCast, Int.reduceToNat, if_true, if_false, mi_52, i52_0, i52_1, i52_3, i52_4, i52_8, i52_9, i52_12, i52_14, i52_15, i52_16, i52_19, i52_20, i52_22, i52_23, i52_25, i52_26, i52_28, i52_29, i52_31, i52_32, i52_33, i52_34, i52_36, i52_38, i52_41, i52_43, i52_44, i52_47, i52_48, i52_51, i52_52, i52_55, i52_57, i52_59, i52_60, i52_61, i52_64, i52_67, i52_69, i52_70, i52_73, i52_75, i52_76, i52_79, i52_80, i52_83, i52_85, i52_86, i52_89, i52_90, i52_93, i52_94, i52_97, i52_99, i52_100, i52_103, i52_105, i52_106, i52_107, i52_110, i52_113, i52_115, i52_117, i52_120, i52_122, i52_123, i52_126, i52_127, i52_130, i52_132, i52_133, i52_134, i52_135, i52_136, i52_139, i52_141, i52_142, i52_143, i52_144, i52_145, i52_146, i52_149, i52_151, i52_152, i52_155, i52_158, i52_159, i52_162, i52_164, i52_165, i52_166, i52_168, i52_169, i52_172, i52_174, i52_175, i52_176, i52_177, i52_178, i52_181, i52_183, i52_184, i52_187, i52_188, i52_191, i52_194, i52_196, i52_199, i52_200, i52_203, i52_205, i52_206, i52_207, i52_208, i52_211, i52_212, k53, g5_0, g5_1, c1, c2, c3, hca, szb, a127, ecd, n1, n3, l60, aj, ij, q6, q7]
        exact n2
      · rw [if_neg k0] at hst
        by_cases k1 : k = 1
        · subst k1
          rw [if_pos rfl] at hst
          rw [if_pos (Or.inr rfl)] at env
          have vb : 0 ≤ v ∧ v < wNo sl := by
            split at hst
            · next q => exact q
            · cases hst
          have wb := wmp_b vb
          obtain ⟨x, hx⟩ : ∃ x : Nat, wmp sl v = (x : Int) := ⟨(wmp sl v).toNat, by omega⟩
          have ee : enc sl 1 v = ((16 * x + 1 : Nat) : Int) := by
            unfold enc
            rw [if_neg (by decide), if_pos rfl, hx]
            omega
          rw [ee] at ecd
          have n1 := and_15 (x := 16 * x + 1) (by omega)
          have n3 := shr_4 (x := 16 * x + 1) (by omega)
          rw [show (16 * x + 1) % 16 = 1 by omega] at n1
          rw [show (16 * x + 1) / 16 = x by omega] at n3
          have n1 : (Int32.ofInt ((16 * x + 1 : Nat) : Int) &&& Int32.ofInt 15).toInt = 1 := n1
          have l60 : (l.length : Int) < 60 := by omega
          have x12 : (x : Int) < 12 := by omega
          have hwv := hw2 v vb.1 vb.2
          rw [hx, Int.toNat_natCast] at hwv
          have n2 := nx (fu g l.length (w v.toNat)) (some (vi 1)) (some (vi (x : Int))) trivial trivial (stk_p hg)
          change G 52 6 [some (vr 127), some (vr ca), some (vi (A : Int)), some (vi ((A + K : Nat) : Int)), some (vi (((w v.toNat :: l).length : Nat) : Int)), some (vi ((A + (j + 1) : Nat) : Int)), some (vi 1), some (vi (x : Int))] [] (wu W 129 (ea 3 60 (fu g l.length (w v.toNat)))) 0 0 Q at n2
          rw [List.length_cons, nc1, hwv] at n2
          simp (disch := omega) only [s_1, s_2, s_3, s_4, s_76, s_5, s_6, s_7, s_8, s_9, s_10, s_11, s_12, s_13, s_14, s_15, s_16, s_17, s_18, s_19, s_20, s_21, s_22, s_23, s_24, s_25, s_26, s_27, s_28, s_29, s_30, s_31, s_32, s_33, s_34, s_35, s_36, s_37, s_38, s_39, s_40l, s_40i, s_40r, s_41, s_43, t_44, t_45, t_46, t_47, s_48, s_49, s_50, s_51, s_52, s_53, s_54, s_55, s_56, s_57, s_58, s_59, s_60, s_61, s_62_0, s_62_1, s_62_2, s_66, s_67, s_68, s_69, s_70, s_71, s_72, s_73, sws_n, sws_c, lget, lset, fget, fset, nolg, nolong, avc, stw, cnd, isobj_eo, GCi, GCn, retk, List.length_cons, List.length_nil, ↓reduceIte, and_true, true_and, not_true_eq_false, not_false_eq_true, forall_const, Nat.reduceAdd, Nat.reduceLT, Nat.reduceLeDiff, Nat.lt_add_one, Nat.le_refl, Nat.zero_le, Nat.sub_zero, Int.reduceEq, Int.reduceNe, Int.reduceLT, Int.reduceLE, Int.reduceAdd, Int.reduceSub, Int.reduceMul, Int.reduceNeg, Int.reduceTDiv, Int.reduceTMod, ne_eq, reduceCtorEq, Nat.reduceEqDiff, Int.cast_ofNat_Int, true_or, or_true, false_or, or_false, lcq_0, lcq_2, lcq_3, lcq_4, lcq_5, wu_s, wu_1, wu_w, wu_lt, wu_ne, ar_s, ar_n, rr_s, rr_n, ob_n, nz_c, lt_T, lt_F, le_T, le_F, ie_T, ie_F, nt_T, nt_F, nl_T, nl_F, in_T, and_false, false_and, and_self, not_true_eq_false, Int.toNat_natCast, Int.reduceToNat, if_true, if_false, mi_52, i52_0, i52_1, i52_3, i52_4, i52_8, i52_9, i52_12, i52_14, i52_15, i52_16, i52_19, i52_20, i52_22, i52_23, i52_25, i52_26, i52_28, i52_29, i52_31, i52_32, i52_33, i52_34, i52_36, i52_38, i52_41, i52_43, i52_44, i52_47, i52_48, i52_51, i52_52, i52_55, i52_57, i52_59, i52_60, i52_61, i52_64, i52_67, i52_69, i52_70, i52_73, i52_75, i52_76, i52_79, i52_80, i52_83, i52_85, i52_86, i52_89, i52_90, i52_93, i52_94, i52_97, i52_99, i52_100, i52_103, i52_105, i52_106, i52_107, i52_110, i52_113, i52_115, i52_117, i52_120, i52_122, i52_123, i52_126, i52_127, i52_130, i52_132, i52_133, i52_134, i52_135, i52_136, i52_139, i52_141, i52_142, i52_143, i52_144, i52_145, i52_146, i52_149, i52_151, i52_152, i52_155, i52_158, i52_159, i52_162, i52_164, i52_165, i52_166, i52_168, i52_169, i52_172, i52_174, i52_175, i52_176, i52_177, i52_178, i52_181, i52_183, i52_184, i52_187, i52_188, i52_191, i52_194, i52_196, i52_199, i52_200, i52_203, i52_205, i52_206, i52_207, i52_208, i52_211, i52_212, k53, g5_0, g5_1, c1, c2, c3, hca, szb, a127, a128, ecd, n1, n3, l60, x12, aj, ij, q6, q7]
          exact n2
        · rw [if_neg k1] at hst
          have ee : enc sl k v = sgC k := by
            unfold enc
            rw [if_neg k0, if_neg k1]
          rw [ee] at ecd
          by_cases k9 : k = 9
          · subst k9
            rw [if_pos rfl] at hst
            have ecd : cd (A + j) = ((13 : Nat) : Int) := ecd
            have n1 : (Int32.ofInt ((13 : Nat) : Int) &&& Int32.ofInt 15).toInt = 13 := and_15 (x := 13) (by omega)
            have n3 : (Int32.ofInt ((13 : Nat) : Int) >>> (Int32.ofInt 4 &&& 31)).toInt = 0 := shr_4 (x := 13) (by omega)
            match tl, l, ok, hst, hg, nx, ll with
            | [], [], ok, hst, hg, nx, ll => cases hst
            | t :: tl, x :: r, ok, hst, hg, nx, ll =>
              have n2 := nx (fu g r.length (w64 (1 - x))) (some (vi 13)) (some (vi 0)) trivial trivial (stk_p hg.2)
              change G 52 6 [some (vr 127), some (vr ca), some (vi (A : Int)), some (vi ((A + K : Nat) : Int)), some (vi (((w64 (1 - x) :: r).length : Nat) : Int)), some (vi ((A + (j + 1) : Nat) : Int)), some (vi 13), some (vi 0)] [] (wu W 129 (ea 3 60 (fu g r.length (w64 (1 - x))))) 0 0 Q at n2
              rw [List.length_cons, nc1] at n2
              have gx : g r.length = x := hg.1
              rw [List.length_cons] at ll
              have e1 : ((r.length : Nat) : Int) + 1 - 1 = (r.length : Int) := by omega
              have e2 : (r.length : Int) < 60 := by omega
              have e5 : 1 ≤ (r.length : Int) + 1 := by omega
              rw [List.length_cons, nc1]
              simp (disch := omega) only [s_1, s_2, s_3, s_4, s_76, s_5, s_6, s_7, s_8, s_9, s_10, s_11, s_12, s_13, s_14, s_15, s_16, s_17, s_18, s_19, s_20, s_21, s_22, s_23, s_24, s_25, s_26, s_27, s_28, s_29, s_30, s_31, s_32, s_33, s_34, s_35, s_36, s_37, s_38, s_39, s_40l, s_40i, s_40r, s_41, s_43, t_44, t_45, t_46, t_47, s_48, s_49, s_50, s_51, s_52, s_53, s_54, s_55, s_56, s_57, s_58, s_59, s_60, s_61, s_62_0, s_62_1, s_62_2, s_66, s_67, s_68, s_69, s_70, s_71, s_72, s_73, sws_n, sws_c, lget, lset, fget, fset, nolg, nolong, avc, stw, cnd, isobj_eo, GCi, GCn, retk, List.length_cons, List.length_nil, ↓reduceIte, and_true, true_and, not_true_eq_false, not_false_eq_true, forall_const, Nat.reduceAdd, Nat.reduceLT, Nat.reduceLeDiff, Nat.lt_add_one, Nat.le_refl, Nat.zero_le, Nat.sub_zero, Int.reduceEq, Int.reduceNe, Int.reduceLT, Int.reduceLE, Int.reduceAdd, Int.reduceSub, Int.reduceMul, Int.reduceNeg, Int.reduceTDiv, Int.reduceTMod, ne_eq, reduceCtorEq, Nat.reduceEqDiff, Int.cast_ofNat_Int, true_or, or_true, false_or, or_false, lcq_0, lcq_2, lcq_3, lcq_4, lcq_5, wu_s, wu_1, wu_w, wu_lt, wu_ne, ar_s, ar_n, rr_s, rr_n, ob_n, nz_c, lt_T, lt_F, le_T, le_F, ie_T, ie_F, nt_T, nt_F, nl_T, nl_F, in_T, and_false, false_and, and_self, not_true_eq_false, Int.toNat_natCast, Int.reduceToNat, if_true, if_false, mi_52, i52_0, i52_1, i52_3, i52_4, i52_8, i52_9, i52_12, i52_14, i52_15, i52_16, i52_19, i52_20, i52_22, i52_23, i52_25, i52_26, i52_28, i52_29, i52_31, i52_32, i52_33, i52_34, i52_36, i52_38, i52_41, i52_43, i52_44, i52_47, i52_48, i52_51, i52_52, i52_55, i52_57, i52_59, i52_60, i52_61, i52_64, i52_67, i52_69, i52_70, i52_73, i52_75, i52_76, i52_79, i52_80, i52_83, i52_85, i52_86, i52_89, i52_90, i52_93, i52_94, i52_97, i52_99, i52_100, i52_103, i52_105, i52_106, i52_107, i52_110, i52_113, i52_115, i52_117, i52_120, i52_122, i52_123, i52_126, i52_127, i52_130, i52_132, i52_133, i52_134, i52_135, i52_136, i52_139, i52_141, i52_142, i52_143, i52_144, i52_145, i52_146, i52_149, i52_151, i52_152, i52_155, i52_158, i52_159, i52_162, i52_164, i52_165, i52_166, i52_168, i52_169, i52_172, i52_174, i52_175, i52_176, i52_177, i52_178, i52_181, i52_183, i52_184, i52_187, i52_188, i52_191, i52_194, i52_196, i52_199, i52_200, i52_203, i52_205, i52_206, i52_207, i52_208, i52_211, i52_212, k53, g5_0, g5_1, c1, c2, c3, hca, szb, a127, ecd, n1, n3, e1, e2, e5, gx, aj, ij, q6, q7]
              exact n2
          · rw [if_neg k9] at hst
            have kk : k = 2 ∨ k = 3 ∨ k = 4 ∨ k = 5 ∨ k = 6 ∨ k = 7 ∨ k = 8 ∨ k = 10 ∨ k = 11 ∨ k = 13 ∨ k = 14 := by
              by_cases q1 : k = 10 ∨ k = 11
              · omega
              · rw [if_neg q1] at hst
                by_cases q2 : 4 ≤ k ∧ k ≤ 8
                · omega
                · rw [if_neg q2] at hst
                  by_cases q3 : k = 2 ∨ k = 3 ∨ k = 13 ∨ k = 14
                  · omega
                  · rw [if_neg q3] at hst
                    cases hst
            have two : 2 ≤ tl.length := by
              match tl, hst with
              | [], hst =>
                split at hst
                · cases hst
                · split at hst
                  · cases hst
                  · split at hst <;> cases hst
              | [t], hst =>
                split at hst
                · cases t <;> cases hst
                · split at hst
                  · cases hst
                  · split at hst <;> cases hst
              | t :: u :: tl, hst => exact Nat.le_add_left 2 _
            have hlen := ok.len
            have sb : ∃ y : Nat, sgC k = (y : Int) ∧ 2 ≤ y ∧ y ≤ 12 := by
              rcases kk with rfl | rfl | rfl | rfl | rfl | rfl | rfl | rfl | rfl | rfl | rfl
              · exact ⟨2, rfl, by decide, by decide⟩
              · exact ⟨3, rfl, by decide, by decide⟩
              · exact ⟨6, rfl, by decide, by decide⟩
              · exact ⟨7, rfl, by decide, by decide⟩
              · exact ⟨8, rfl, by decide, by decide⟩
              · exact ⟨9, rfl, by decide, by decide⟩
              · exact ⟨10, rfl, by decide, by decide⟩
              · exact ⟨11, rfl, by decide, by decide⟩
              · exact ⟨12, rfl, by decide, by decide⟩
              · exact ⟨4, rfl, by decide, by decide⟩
              · exact ⟨5, rfl, by decide, by decide⟩
            obtain ⟨y, hy, y2, y12⟩ := sb
            rw [hy] at ecd
            have n1 := and_15 (x := y) (by omega)
            have n3 := shr_4 (x := y) (by omega)
            rw [show y % 16 = y by omega] at n1
            rw [show y / 16 = 0 by omega, Int.natCast_zero] at n3
            have m0 : ¬ (y : Int) = 0 := by omega
            have m1 : ¬ (y : Int) = 1 := by omega
            have m13 : ¬ (y : Int) = 13 := by omega
            match l, hlen, hg, nx, ll with
            | [], hlen, hg, nx, ll =>
              have : tl.length = 0 := hlen
              omega
            | [x], hlen, hg, nx, ll =>
              have : tl.length = 1 := hlen
              omega
            | z :: x :: r, hlen, hg, nx, ll =>
              have ev : evI w k v (z :: x :: r) = joV k x z :: r := by
                unfold evI
                rw [if_neg k0, if_neg k1, if_neg k9]
              rw [ev] at nx
              have n2 := nx (fu g r.length (joV k x z)) (some (vi (y : Int))) (some (vi 0)) trivial trivial (stk_p hg.2.2)
              rw [List.length_cons, nc1] at n2
              have gx : g r.length = x := hg.2.1
              have gz : g (r.length + 1) = z := hg.1
              rw [List.length_cons, List.length_cons] at ll
              have e0 : ((r.length + 1 + 1 : Nat) : Int) + -1 = (r.length : Int) + 1 := by omega
              have e1 : ((r.length : Nat) : Int) + 1 - 1 = (r.length : Int) := by omega
              have e2 : (r.length : Int) < 60 := by omega
              have e3 : (r.length : Int) + 1 < 60 := by omega
              have e4 : ((r.length : Int) + 1).toNat = r.length + 1 := by omega
              have e5 : 2 ≤ ((r.length + 1 + 1 : Nat) : Int) := by omega
              have xj := fun {W : AW} {Q : AQ} => x_joined (W := W) (Q := Q) (a := x) (b := z) kk
              rw [hy] at xj
              rw [List.length_cons, List.length_cons]
              simp (disch := omega) only [s_1, s_2, s_3, s_4, s_76, s_5, s_6, s_7, s_8, s_9, s_10, s_11, s_12, s_13, s_14, s_15, s_16, s_17, s_18, s_19, s_20, s_21, s_22, s_23, s_24, s_25, s_26, s_27, s_28, s_29, s_30, s_31, s_32, s_33, s_34, s_35, s_36, s_37, s_38, s_39, s_40l, s_40i, s_40r, s_41, s_43, t_44, t_45, t_46, t_47, s_48, s_49, s_50, s_51, s_52, s_53, s_54, s_55, s_56, s_57, s_58, s_59, s_60, s_61, s_62_0, s_62_1, s_62_2, s_66, s_67, s_68, s_69, s_70, s_71, s_72, s_73, sws_n, sws_c, lget, lset, fget, fset, nolg, nolong, avc, stw, cnd, isobj_eo, GCi, GCn, retk, List.length_cons, List.length_nil, ↓reduceIte, and_true, true_and, not_true_eq_false, not_false_eq_true, forall_const, Nat.reduceAdd, Nat.reduceLT, Nat.reduceLeDiff, Nat.lt_add_one, Nat.le_refl, Nat.zero_le, Nat.sub_zero, Int.reduceEq, Int.reduceNe, Int.reduceLT, Int.reduceLE, Int.reduceAdd, Int.reduceSub, Int.reduceMul, Int.reduceNeg, Int.reduceTDiv, Int.reduceTMod, ne_eq, reduceCtorEq, Nat.reduceEqDiff, Int.cast_ofNat_Int, true_or, or_true, false_or, or_false, lcq_0, lcq_2, lcq_3, lcq_4, lcq_5, wu_s, wu_1, wu_w, wu_lt, wu_ne, ar_s, ar_n, rr_s, rr_n, ob_n, nz_c, lt_T, lt_F, le_T, le_F, ie_T, ie_F, nt_T, nt_F, nl_T, nl_F, in_T, and_false, false_and, and_self, not_true_eq_false, Int.toNat_natCast, Int.reduceToNat, if_true, if_false, mi_52, i52_0, i52_1, i52_3, i52_4, i52_8, i52_9, i52_12, i52_14, i52_15, i52_16, i52_19, i52_20, i52_22, i52_23, i52_25, i52_26, i52_28, i52_29, i52_31, i52_32, i52_33, i52_34, i52_36, i52_38, i52_41, i52_43, i52_44, i52_47, i52_48, i52_51, i52_52, i52_55, i52_57, i52_59, i52_60, i52_61, i52_64, i52_67, i52_69, i52_70, i52_73, i52_75, i52_76, i52_79, i52_80, i52_83, i52_85, i52_86, i52_89, i52_90, i52_93, i52_94, i52_97, i52_99, i52_100, i52_103, i52_105, i52_106, i52_107, i52_110, i52_113, i52_115, i52_117, i52_120, i52_122, i52_123, i52_126, i52_127, i52_130, i52_132, i52_133, i52_134, i52_135, i52_136, i52_139, i52_141, i52_142, i52_143, i52_144, i52_145, i52_146, i52_149, i52_151, i52_152, i52_155, i52_158, i52_159, i52_162, i52_164, i52_165, i52_166, i52_168, i52_169, i52_172, i52_174, i52_175, i52_176, i52_177, i52_178, i52_181, i52_183, i52_184, i52_187, i52_188, i52_191, i52_194, i52_196, i52_199, i52_200, i52_203, i52_205, i52_206, i52_207, i52_208, i52_211, i52_212, k53, g5_0, g5_1, c1, c2, c3, hca, szb, a127, ecd, n1, n3, m0, m1, m13, e0, e1, e2, e3, e4, e5, gx, gz, xj, aj, ij, q6, q7]
              exact n2
  have l0 := loop K 0 (ar W 129) none none trivial trivial (by omega) trivial
  rw [wu_id a129] at l0
  rw [e52]
  simp (disch := omega) only [s_1, s_2, s_3, s_4, s_76, s_5, s_6, s_7, s_8, s_9, s_10, s_11, s_12, s_13, s_14, s_15, s_16, s_17, s_18, s_19, s_20, s_21, s_22, s_23, s_24, s_25, s_26, s_27, s_28, s_29, s_30, s_31, s_32, s_33, s_34, s_35, s_36, s_37, s_38, s_39, s_40l, s_40i, s_40r, s_41, s_43, t_44, t_45, t_46, t_47, s_48, s_49, s_50, s_51, s_52, s_53, s_54, s_55, s_56, s_57, s_58, s_59, s_60, s_61, s_62_0, s_62_1, s_62_2, s_66, s_67, s_68, s_69, s_70, s_71, s_72, s_73, sws_n, sws_c, lget, lset, fget, fset, nolg, nolong, avc, stw, cnd, isobj_eo, GCi, GCn, retk, List.length_cons, List.length_nil, ↓reduceIte, and_true, true_and, not_true_eq_false, not_false_eq_true, forall_const, Nat.reduceAdd, Nat.reduceLT, Nat.reduceLeDiff, Nat.lt_add_one, Nat.le_refl, Nat.zero_le, Nat.sub_zero, Int.reduceEq, Int.reduceNe, Int.reduceLT, Int.reduceLE, Int.reduceAdd, Int.reduceSub, Int.reduceMul, Int.reduceNeg, Int.reduceTDiv, Int.reduceTMod, ne_eq, reduceCtorEq, Nat.reduceEqDiff, Int.cast_ofNat_Int, true_or, or_true, false_or, or_false, lcq_0, lcq_2, lcq_3, lcq_4, lcq_5, wu_s, wu_1, wu_w, wu_lt, wu_ne, ar_s, ar_n, rr_s, rr_n, ob_n, nz_c, lt_T, lt_F, le_T, le_F, ie_T, ie_F, nt_T, nt_F, nl_T, nl_F, in_T, and_false, false_and, and_self, not_true_eq_false, Int.toNat_natCast, Int.reduceToNat, if_true, if_false, mi_52, i52_0, i52_1, i52_3, i52_4, i52_8, i52_9, i52_12, i52_14, i52_15, i52_16, i52_19, i52_20, i52_22, i52_23, i52_25, i52_26, i52_28, i52_29, i52_31, i52_32, i52_33, i52_34, i52_36, i52_38, i52_41, i52_43, i52_44, i52_47, i52_48, i52_51, i52_52, i52_55, i52_57, i52_59, i52_60, i52_61, i52_64, i52_67, i52_69, i52_70, i52_73, i52_75, i52_76, i52_79, i52_80, i52_83, i52_85, i52_86, i52_89, i52_90, i52_93, i52_94, i52_97, i52_99, i52_100, i52_103, i52_105, i52_106, i52_107, i52_110, i52_113, i52_115, i52_117, i52_120, i52_122, i52_123, i52_126, i52_127, i52_130, i52_132, i52_133, i52_134, i52_135, i52_136, i52_139, i52_141, i52_142, i52_143, i52_144, i52_145, i52_146, i52_149, i52_151, i52_152, i52_155, i52_158, i52_159, i52_162, i52_164, i52_165, i52_166, i52_168, i52_169, i52_172, i52_174, i52_175, i52_176, i52_177, i52_178, i52_181, i52_183, i52_184, i52_187, i52_188, i52_191, i52_194, i52_196, i52_199, i52_200, i52_203, i52_205, i52_206, i52_207, i52_208, i52_211, i52_212, k53, g5_0, g5_1]
  exact l0
end EVC
