-- HELPERS OF THE CLASS AND OF THE REFERENCE, as simp rows
noncomputable def bi (p : Prop) : Int := @ite Int p (Classical.propDecidable p) 1 0
theorem bi_p {p : Prop} (h : p) : bi p = 1 := if_pos h
theorem bi_n {p : Prop} (h : ¬ p) : bi p = 0 := if_neg h
theorem bi_z {p : Prop} : (bi p = 0) = ¬ p := by
  by_cases h : p
  · rw [bi_p h]; simp [h]
  · rw [bi_n h]; simp [h]
theorem bi_o {p : Prop} : bi p = 0 ∨ bi p = 1 := by
  by_cases h : p
  · exact Or.inr (bi_p h)
  · exact Or.inl (bi_n h)
theorem m_within {n a b : Int} {W : AW} {Q : AQ} : Gm 14 [vi n, vi a, vi b] W Q ↔ Q (some (vi (bi (a ≤ n ∧ n ≤ b)))) W := by
  rw [e14]
  simp only [s_1, s_2, s_3, s_4, s_76, s_5, s_6, s_7, s_8, s_9, s_10, s_11, s_12, s_13, s_14, s_15, s_16, s_17, s_18, s_19, s_20, s_21, s_22, s_23, s_24, s_25, s_26, s_27, s_28, s_29, s_30, s_31, s_32, s_33, s_34, s_35, s_36, s_37, s_38, s_39, s_40l, s_40i, s_40r, s_41, s_43, t_44, t_45, t_46, t_47, s_48, s_49, s_50, s_51, s_52, s_53, s_54, s_55, s_56, s_57, s_58, s_59, s_60, s_61, s_62_0, s_62_1, s_62_2, s_66, s_67, s_68, s_69, s_70, s_71, s_72, s_73, sws_n, sws_c, lget, lset, fget, fset, nolg, nolong, avc, stw, cnd, isobj_eo, GCi, GCn, retk, List.length_cons, List.length_nil, ↓reduceIte, and_true, true_and, not_true_eq_false, not_false_eq_true, forall_const, Nat.reduceAdd, Nat.reduceLT, Nat.reduceLeDiff, Nat.lt_add_one, Nat.le_refl, Nat.zero_le, Nat.sub_zero, Int.reduceEq, Int.reduceNe, Int.reduceLT, Int.reduceLE, Int.reduceAdd, Int.reduceSub, Int.reduceMul, Int.reduceNeg, Int.reduceTDiv, Int.reduceTMod, ne_eq, reduceCtorEq, Nat.reduceEqDiff, Int.cast_ofNat_Int, true_or, or_true, false_or, or_false, lcq_0, lcq_2, lcq_3, lcq_4, lcq_5, mi_14, i14_0, i14_1, i14_2, i14_5, i14_6, i14_7, i14_10, i14_11, i14_14, i14_15]
  by_cases h1 : n < a
  · rw [if_pos h1, bi_n (by omega)]
  · rw [if_neg h1]
    by_cases h2 : b < n
    · rw [if_pos h2, bi_n (by omega)]
    · rw [if_neg h2, bi_p (by omega)]
theorem m_isEdge {e : Int} {W : AW} {Q : AQ} : Gm 44 [vi e] W Q ↔ Q (some (vi (bi (0 ≤ e ∧ e ≤ 179)))) W := by
  rw [e44]
  simp only [s_1, s_2, s_3, s_4, s_76, s_5, s_6, s_7, s_8, s_9, s_10, s_11, s_12, s_13, s_14, s_15, s_16, s_17, s_18, s_19, s_20, s_21, s_22, s_23, s_24, s_25, s_26, s_27, s_28, s_29, s_30, s_31, s_32, s_33, s_34, s_35, s_36, s_37, s_38, s_39, s_40l, s_40i, s_40r, s_41, s_43, t_44, t_45, t_46, t_47, s_48, s_49, s_50, s_51, s_52, s_53, s_54, s_55, s_56, s_57, s_58, s_59, s_60, s_61, s_62_0, s_62_1, s_62_2, s_66, s_67, s_68, s_69, s_70, s_71, s_72, s_73, sws_n, sws_c, lget, lset, fget, fset, nolg, nolong, avc, stw, cnd, isobj_eo, GCi, GCn, retk, List.length_cons, List.length_nil, ↓reduceIte, and_true, true_and, not_true_eq_false, not_false_eq_true, forall_const, Nat.reduceAdd, Nat.reduceLT, Nat.reduceLeDiff, Nat.lt_add_one, Nat.le_refl, Nat.zero_le, Nat.sub_zero, Int.reduceEq, Int.reduceNe, Int.reduceLT, Int.reduceLE, Int.reduceAdd, Int.reduceSub, Int.reduceMul, Int.reduceNeg, Int.reduceTDiv, Int.reduceTMod, ne_eq, reduceCtorEq, Nat.reduceEqDiff, Int.cast_ofNat_Int, true_or, or_true, false_or, or_false, lcq_0, lcq_2, lcq_3, lcq_4, lcq_5, mi_44, i44_0, i44_1, i44_2, i44_5, i44_8, k14, m_within, bi_o]
theorem m_isCell {x y : Int} {W : AW} {Q : AQ} : Gm 22 [vi x, vi y] W Q ↔ Q (some (vi (bi ((0 ≤ x ∧ x ≤ 9) ∧ (0 ≤ y ∧ y ≤ 9))))) W := by
  rw [e22]
  simp only [s_1, s_2, s_3, s_4, s_76, s_5, s_6, s_7, s_8, s_9, s_10, s_11, s_12, s_13, s_14, s_15, s_16, s_17, s_18, s_19, s_20, s_21, s_22, s_23, s_24, s_25, s_26, s_27, s_28, s_29, s_30, s_31, s_32, s_33, s_34, s_35, s_36, s_37, s_38, s_39, s_40l, s_40i, s_40r, s_41, s_43, t_44, t_45, t_46, t_47, s_48, s_49, s_50, s_51, s_52, s_53, s_54, s_55, s_56, s_57, s_58, s_59, s_60, s_61, s_62_0, s_62_1, s_62_2, s_66, s_67, s_68, s_69, s_70, s_71, s_72, s_73, sws_n, sws_c, lget, lset, fget, fset, nolg, nolong, avc, stw, cnd, isobj_eo, GCi, GCn, retk, List.length_cons, List.length_nil, ↓reduceIte, and_true, true_and, not_true_eq_false, not_false_eq_true, forall_const, Nat.reduceAdd, Nat.reduceLT, Nat.reduceLeDiff, Nat.lt_add_one, Nat.le_refl, Nat.zero_le, Nat.sub_zero, Int.reduceEq, Int.reduceNe, Int.reduceLT, Int.reduceLE, Int.reduceAdd, Int.reduceSub, Int.reduceMul, Int.reduceNeg, Int.reduceTDiv, Int.reduceTMod, ne_eq, reduceCtorEq, Nat.reduceEqDiff, Int.cast_ofNat_Int, true_or, or_true, false_or, or_false, lcq_0, lcq_2, lcq_3, lcq_4, lcq_5, mi_22, i22_0, i22_1, i22_2, i22_4, i22_7, i22_10, i22_11, i22_12, i22_14, i22_17, i22_20, i22_21, i22_24, i22_25, k14, m_within, bi_o, bi_z]
  by_cases h1 : 0 ≤ x ∧ x ≤ 9
  · rw [if_neg (by simpa using h1)]
    by_cases h2 : 0 ≤ y ∧ y ≤ 9
    · rw [if_neg (by simpa using h2), bi_p ⟨h1, h2⟩]
    · rw [if_pos h2, bi_n (fun q => h2 q.2)]
  · rw [if_pos h1, bi_n (fun q => h1 q.1)]
theorem m_in {v a b : Int} {W : AW} {Q : AQ} : Gm 179 [vl v, vl a, vl b] W Q ↔ Q (some (vi (bi (a ≤ v ∧ v ≤ b)))) W := by
  rw [e179]
  simp only [s_1, s_2, s_3, s_4, s_76, s_5, s_6, s_7, s_8, s_9, s_10, s_11, s_12, s_13, s_14, s_15, s_16, s_17, s_18, s_19, s_20, s_21, s_22, s_23, s_24, s_25, s_26, s_27, s_28, s_29, s_30, s_31, s_32, s_33, s_34, s_35, s_36, s_37, s_38, s_39, s_40l, s_40i, s_40r, s_41, s_43, t_44, t_45, t_46, t_47, s_48, s_49, s_50, s_51, s_52, s_53, s_54, s_55, s_56, s_57, s_58, s_59, s_60, s_61, s_62_0, s_62_1, s_62_2, s_66, s_67, s_68, s_69, s_70, s_71, s_72, s_73, sws_n, sws_c, lget, lset, fget, fset, nolg, nolong, avc, stw, cnd, isobj_eo, GCi, GCn, retk, List.length_cons, List.length_nil, ↓reduceIte, and_true, true_and, not_true_eq_false, not_false_eq_true, forall_const, Nat.reduceAdd, Nat.reduceLT, Nat.reduceLeDiff, Nat.lt_add_one, Nat.le_refl, Nat.zero_le, Nat.sub_zero, Int.reduceEq, Int.reduceNe, Int.reduceLT, Int.reduceLE, Int.reduceAdd, Int.reduceSub, Int.reduceMul, Int.reduceNeg, Int.reduceTDiv, Int.reduceTMod, ne_eq, reduceCtorEq, Nat.reduceEqDiff, Int.cast_ofNat_Int, true_or, or_true, false_or, or_false, lcq_0, lcq_2, lcq_3, lcq_4, lcq_5, mi_179, i179_0, i179_1, i179_2, i179_3, i179_6, i179_7, i179_9, i179_10, i179_13, i179_14, i179_17, i179_18]
  by_cases h1 : v < a
  · rw [if_pos h1, bi_n (by omega)]
  · rw [if_neg h1]
    by_cases h2 : b < v
    · rw [if_pos h2, bi_n (by omega)]
    · rw [if_neg h2, bi_p (by omega)]
