-- THE CLASS'S READER: a rule is made
theorem wn_at {W : AW} {e : AE} : (wn W e).2 W.1 = e := fu_eq _ _ _
theorem wn_f1 {W : AW} {e : AE} : (wn W e).1 = W.1 + 1 := rfl
theorem wn_ol {W : AW} {e : AE} {k : Nat} (h : k < W.1) : (wn W e).2 k = W.2 k := fu_ne _ _ (by omega)
theorem wn_wu {W : AW} {e e2 : AE} : wu (wn W e) W.1 e2 = wn W e2 := Prod.ext rfl fu_fu
section RUL
variable {W V : AW} {Q : AQ} {T : Nat → Int} {c : CR} {n p i j : Nat} {s v r w : Int}
theorem x_copy {k m N : Nat} {f : Nat → Int} (hk : W.2 k = ea 0 N f) (hz : nfz ≤ k) (hl : k < W.1) (hm : m ≤ N) (hN : N ≤ 400) (hQ : ∀ g : Nat → Int, (∀ i, i < m → g i = f i) → Q (some (vr W.1)) (wn W (ea 0 m g))) : Gm 101 [vr k, vi (m : Int)] W Q := by
  have hnf : nfz = 67 := rfl
  rw [e101]
  by_cases c1 : m = N
  · subst c1
    have q := hQ f (fun _ _ => rfl)
    have m1 : m ≤ 406 := by omega
    have m2 : m < 2147483648 := by omega
    have w1 : W.1 < W.1 + 1 := by omega
    have w2 : nfz ≤ W.1 := by omega
    simp (disch := omega) only [s_1, s_2, s_3, s_4, s_76, s_5, s_6, s_7, s_8, s_9, s_10, s_11, s_12, s_13, s_14, s_15, s_16, s_17, s_18, s_19, s_20, s_21, s_22, s_23, s_24, s_25, s_26, s_27, s_28, s_29, s_30, s_31, s_32, s_33, s_34, s_35, s_36, s_37, s_38, s_39, s_40l, s_40i, s_40r, s_41, s_43, t_44, t_45, t_46, t_47, s_48, s_49, s_50, s_51, s_52, s_53, s_54, s_55, s_56, s_57, s_58, s_59, s_60, s_61, s_62_0, s_62_1, s_62_2, s_66, s_67, s_68, s_69, s_70, s_71, s_72, s_73, sws_n, sws_c, lget, lset, fget, fset, nolg, nolong, avc, stw, cnd, isobj_eo, GCi, GCn, retk, List.length_cons, List.length_nil, ↓reduceIte, and_true, true_and, not_true_eq_false, not_false_eq_true, forall_const, Nat.reduceAdd, Nat.reduceLT, Nat.reduceLeDiff, Nat.lt_add_one, Nat.le_refl, Nat.zero_le, Nat.sub_zero, Int.reduceEq, Int.reduceNe, Int.reduceLT, Int.reduceLE, Int.reduceAdd, Int.reduceSub, Int.reduceMul, Int.reduceNeg, Int.reduceTDiv, Int.reduceTMod, ne_eq, reduceCtorEq, Nat.reduceEqDiff, Int.cast_ofNat_Int, true_or, or_true, false_or, or_false, lcq_0, lcq_2, lcq_3, lcq_4, lcq_5, wu_s, wu_1, wu_w, wu_lt, wu_ne, ar_s, ar_n, rr_s, rr_n, ob_n, nz_c, lt_T, lt_F, le_T, le_F, ie_T, ie_F, nt_T, nt_F, nl_T, nl_F, in_T, and_false, false_and, and_self, not_true_eq_false, Int.toNat_natCast, Int.reduceToNat, if_true, if_false, mi_101, i101_0, i101_1, i101_2, i101_3, i101_6, i101_7, i101_10, i101_13, i101_14, i101_15, i101_17, i101_18, i101_19, i101_20, i101_21, i101_22, i101_23, i101_24, i101_25, i101_28, i101_31, i101_32, k36, hk, hl, hz, m1, m2, true_or, wn_at, wn_f1, w1, w2, Nat.reduceSub]
    exact q
  · have c2 : ¬ (m : Int) = (N : Int) := by omega
    have q := hQ (fcp f (fun _ => 0) 0 0 m) (fun i hi => by
      unfold fcp
      rw [if_pos (by omega)]
      exact congrArg f (by omega))
    have m1 : m ≤ 406 := by omega
    have m2 : N < 2147483648 := by omega
    have w1 : W.1 < W.1 + 1 := by omega
    have w2 : nfz ≤ W.1 := by omega
    have em : min (N : Int) (m : Int) = (m : Int) := by omega
    have hk2 : (wn W (ea 0 m (fun _ => 0))).2 k = ea 0 N f := by rw [wn_ol hl]; exact hk
    have hl2 : k < W.1 + 1 := by omega
    have m3 : (m : Int) ≤ 1000000 := by omega
    simp (disch := omega) only [s_1, s_2, s_3, s_4, s_76, s_5, s_6, s_7, s_8, s_9, s_10, s_11, s_12, s_13, s_14, s_15, s_16, s_17, s_18, s_19, s_20, s_21, s_22, s_23, s_24, s_25, s_26, s_27, s_28, s_29, s_30, s_31, s_32, s_33, s_34, s_35, s_36, s_37, s_38, s_39, s_40l, s_40i, s_40r, s_41, s_43, t_44, t_45, t_46, t_47, s_48, s_49, s_50, s_51, s_52, s_53, s_54, s_55, s_56, s_57, s_58, s_59, s_60, s_61, s_62_0, s_62_1, s_62_2, s_66, s_67, s_68, s_69, s_70, s_71, s_72, s_73, sws_n, sws_c, lget, lset, fget, fset, nolg, nolong, avc, stw, cnd, isobj_eo, GCi, GCn, retk, List.length_cons, List.length_nil, ↓reduceIte, and_true, true_and, not_true_eq_false, not_false_eq_true, forall_const, Nat.reduceAdd, Nat.reduceLT, Nat.reduceLeDiff, Nat.lt_add_one, Nat.le_refl, Nat.zero_le, Nat.sub_zero, Int.reduceEq, Int.reduceNe, Int.reduceLT, Int.reduceLE, Int.reduceAdd, Int.reduceSub, Int.reduceMul, Int.reduceNeg, Int.reduceTDiv, Int.reduceTMod, ne_eq, reduceCtorEq, Nat.reduceEqDiff, Int.cast_ofNat_Int, true_or, or_true, false_or, or_false, lcq_0, lcq_2, lcq_3, lcq_4, lcq_5, wu_s, wu_1, wu_w, wu_lt, wu_ne, ar_s, ar_n, rr_s, rr_n, ob_n, nz_c, lt_T, lt_F, le_T, le_F, ie_T, ie_F, nt_T, nt_F, nl_T, nl_F, in_T, and_false, false_and, and_self, not_true_eq_false, Int.toNat_natCast, Int.reduceToNat, if_true, if_false, mi_101, i101_0, i101_1, i101_2, i101_3, i101_6, i101_7, i101_10, i101_13, i101_14, i101_15, i101_17, i101_18, i101_19, i101_20, i101_21, i101_22, i101_23, i101_24, i101_25, i101_28, i101_31, i101_32, k36, hk, hl, hz, m1, m2, m3, c2, m_min, em, wn_at, wn_f1, w1, w2, hk2, hl2, wn_wu, Nat.reduceSub]
    exact q
theorem x_rule2 {rr9 cd kd md en st : Nat → Int} {sz cl : Nat} {o1 : Option AV} (h9 : V.2 119 = o9 rr9) (hD : V.2 120 = ea 0 400 cd) (hI : V.2 122 = ea 0 12 kd) (hM : V.2 123 = ea 0 12 md) (hE : V.2 124 = ea 0 12 en) (hS : V.2 125 = ea 0 6 st) (hw : 192 ≤ V.1) (h7 : rr9 7 = (sz : Int)) (hs : sz ≤ 400) (h14 : rr9 14 = (cl : Int)) (hc : cl ≤ 12)
    (hQ : ∀ V' gd gi gm ge, V'.1 = V.1 + 6 → (∀ k, k < V.1 → V'.2 k = V.2 k) → V'.2 V.1 = o6 (V.1 + 1) (V.1 + 2) (V.1 + 3) (V.1 + 4) (V.1 + 5) → V'.2 (V.1 + 1) = ea 0 sz gd → V'.2 (V.1 + 2) = ea 0 cl gi → V'.2 (V.1 + 3) = ea 0 cl gm → V'.2 (V.1 + 4) = ea 0 cl ge → V'.2 (V.1 + 5) = ea 0 6 st → (∀ i, i < sz → gd i = cd i) → (∀ i, i < cl → gi i = kd i ∧ gm i = md i ∧ ge i = en i) → Q (some (vr V.1)) V') : G 100 35 [some (vr 119), o1] [] V 10 1635 Q := by
  have hnf : nfz = 67 := rfl
  rw [i100_35]
  simp (disch := omega) only [s_1, s_2, s_3, s_4, s_76, s_5, s_6, s_7, s_8, s_9, s_10, s_11, s_12, s_13, s_14, s_15, s_16, s_17, s_18, s_19, s_20, s_21, s_22, s_23, s_24, s_25, s_26, s_27, s_28, s_29, s_30, s_31, s_32, s_33, s_34, s_35, s_36, s_37, s_38, s_39, s_40l, s_40i, s_40r, s_41, s_43, t_44, t_45, t_46, t_47, s_48, s_49, s_50, s_51, s_52, s_53, s_54, s_55, s_56, s_57, s_58, s_59, s_60, s_61, s_62_0, s_62_1, s_62_2, s_66, s_67, s_68, s_69, s_70, s_71, s_72, s_73, sws_n, sws_c, lget, lset, fget, fset, nolg, nolong, avc, stw, cnd, isobj_eo, GCi, GCn, retk, List.length_cons, List.length_nil, ↓reduceIte, and_true, true_and, not_true_eq_false, not_false_eq_true, forall_const, Nat.reduceAdd, Nat.reduceLT, Nat.reduceLeDiff, Nat.lt_add_one, Nat.le_refl, Nat.zero_le, Nat.sub_zero, Int.reduceEq, Int.reduceNe, Int.reduceLT, Int.reduceLE, Int.reduceAdd, Int.reduceSub, Int.reduceMul, Int.reduceNeg, Int.reduceTDiv, Int.reduceTMod, ne_eq, reduceCtorEq, Nat.reduceEqDiff, Int.cast_ofNat_Int, true_or, or_true, false_or, or_false, lcq_0, lcq_2, lcq_3, lcq_4, lcq_5, wu_s, wu_1, wu_w, wu_lt, wu_ne, ar_s, ar_n, rr_s, rr_n, ob_n, nz_c, lt_T, lt_F, le_T, le_F, ie_T, ie_F, nt_T, nt_F, nl_T, nl_F, in_T, and_false, false_and, and_self, not_true_eq_false, Int.toNat_natCast, Int.reduceToNat, if_true, if_false, mi_100, i100_0, i100_1, i100_2, i100_3, i100_5, i100_8, i100_9, i100_12, i100_13, i100_14, i100_15, i100_18, i100_19, i100_22, i100_23, i100_26, i100_27, i100_28, i100_29, i100_32, i100_35, i100_38, i100_39, i100_40, i100_43, i100_44, i100_47, i100_50, i100_51, i100_54, i100_55, i100_58, i100_61, i100_62, i100_65, i100_66, i100_69, i100_72, i100_73, i100_76, i100_77, i100_80, i100_83, i100_84, i100_87, i100_90, i100_93, i100_96, k10, k101, g9_11, g9_12, g9_13, g9_14, g9_15, g9_6, g9_7, fl_6, wn_f1, wn_ol, h9, h7, Nat.reduceSub]
  have hw0 := hw
  generalize hV1 : wn V (eo 6 (fdf 6)) = V1
  have a1 : V1.1 = V.1 + 1 := by rw [← hV1]; rfl
  have b1 : ∀ k, k < V.1 → V1.2 k = V.2 k := fun k hk => by rw [← hV1]; exact wn_ol hk
  have n1 : V1.2 V.1 = eo 6 (fdf 6) := by rw [← hV1]; exact wn_at
  refine x_copy (W := V1) (N := 400) (f := cd) (by rw [b1 120 (by omega)]; exact hD) (by omega) (by omega) hs (by decide) (fun g1 hg1 => ?_)
  generalize hV2 : wn V1 (ea 0 sz g1) = V2
  have a2 : V2.1 = V.1 + 2 := by rw [← hV2]; show V1.1 + 1 = _; omega
  have b2 : ∀ k, k < V.1 → V2.2 k = V.2 k := fun k hk => by rw [← hV2, wn_ol (by omega)]; exact b1 k hk
  have n2 : V2.2 V.1 = eo 6 (fdf 6) ∧ V2.2 (V.1 + 1) = ea 0 sz g1 := by
    rw [← hV2]
    exact ⟨by rw [wn_ol (by omega)]; exact n1, by rw [← a1]; exact wn_at⟩
  simp (disch := omega) only [s_1, s_2, s_3, s_4, s_76, s_5, s_6, s_7, s_8, s_9, s_10, s_11, s_12, s_13, s_14, s_15, s_16, s_17, s_18, s_19, s_20, s_21, s_22, s_23, s_24, s_25, s_26, s_27, s_28, s_29, s_30, s_31, s_32, s_33, s_34, s_35, s_36, s_37, s_38, s_39, s_40l, s_40i, s_40r, s_41, s_43, t_44, t_45, t_46, t_47, s_48, s_49, s_50, s_51, s_52, s_53, s_54, s_55, s_56, s_57, s_58, s_59, s_60, s_61, s_62_0, s_62_1, s_62_2, s_66, s_67, s_68, s_69, s_70, s_71, s_72, s_73, sws_n, sws_c, lget, lset, fget, fset, nolg, nolong, avc, stw, cnd, isobj_eo, GCi, GCn, retk, List.length_cons, List.length_nil, ↓reduceIte, and_true, true_and, not_true_eq_false, not_false_eq_true, forall_const, Nat.reduceAdd, Nat.reduceLT, Nat.reduceLeDiff, Nat.lt_add_one, Nat.le_refl, Nat.zero_le, Nat.sub_zero, Int.reduceEq, Int.reduceNe, Int.reduceLT, Int.reduceLE, Int.reduceAdd, Int.reduceSub, Int.reduceMul, Int.reduceNeg, Int.reduceTDiv, Int.reduceTMod, ne_eq, reduceCtorEq, Nat.reduceEqDiff, Int.cast_ofNat_Int, true_or, or_true, false_or, or_false, lcq_0, lcq_2, lcq_3, lcq_4, lcq_5, wu_s, wu_1, wu_w, wu_lt, wu_ne, ar_s, ar_n, rr_s, rr_n, ob_n, nz_c, lt_T, lt_F, le_T, le_F, ie_T, ie_F, nt_T, nt_F, nl_T, nl_F, in_T, and_false, false_and, and_self, not_true_eq_false, Int.toNat_natCast, Int.reduceToNat, if_true, if_false, mi_100, i100_0, i100_1, i100_2, i100_3, i100_5, i100_8, i100_9, i100_12, i100_13, i100_14, i100_15, i100_18, i100_19, i100_22, i100_23, i100_26, i100_27, i100_28, i100_29, i100_32, i100_35, i100_38, i100_39, i100_40, i100_43, i100_44, i100_47, i100_50, i100_51, i100_54, i100_55, i100_58, i100_61, i100_62, i100_65, i100_66, i100_69, i100_72, i100_73, i100_76, i100_77, i100_80, i100_83, i100_84, i100_87, i100_90, i100_93, i100_96, k10, k101, g9_11, g9_12, g9_13, g9_14, g9_15, g9_6, g9_7, b2 119 (by omega), b2 120 (by omega), h9, h14, a2, Nat.reduceSub]
  refine x_copy (W := V2) (N := 12) (f := kd) (by rw [b2 122 (by omega)]; exact hI) (by omega) (by omega) hc (by decide) (fun g2 hg2 => ?_)
  generalize hV3 : wn V2 (ea 0 cl g2) = V3
  have a3 : V3.1 = V.1 + 3 := by rw [← hV3]; show V2.1 + 1 = _; omega
  have b3 : ∀ k, k < V.1 → V3.2 k = V.2 k := fun k hk => by rw [← hV3, wn_ol (by omega)]; exact b2 k hk
  have n3 : V3.2 V.1 = eo 6 (fdf 6) ∧ V3.2 (V.1 + 1) = ea 0 sz g1 ∧ V3.2 (V.1 + 2) = ea 0 cl g2 := by
    rw [← hV3]
    exact ⟨by rw [wn_ol (by omega)]; exact n2.1, by rw [wn_ol (by omega)]; exact n2.2, by rw [← a2]; exact wn_at⟩
  simp (disch := omega) only [s_1, s_2, s_3, s_4, s_76, s_5, s_6, s_7, s_8, s_9, s_10, s_11, s_12, s_13, s_14, s_15, s_16, s_17, s_18, s_19, s_20, s_21, s_22, s_23, s_24, s_25, s_26, s_27, s_28, s_29, s_30, s_31, s_32, s_33, s_34, s_35, s_36, s_37, s_38, s_39, s_40l, s_40i, s_40r, s_41, s_43, t_44, t_45, t_46, t_47, s_48, s_49, s_50, s_51, s_52, s_53, s_54, s_55, s_56, s_57, s_58, s_59, s_60, s_61, s_62_0, s_62_1, s_62_2, s_66, s_67, s_68, s_69, s_70, s_71, s_72, s_73, sws_n, sws_c, lget, lset, fget, fset, nolg, nolong, avc, stw, cnd, isobj_eo, GCi, GCn, retk, List.length_cons, List.length_nil, ↓reduceIte, and_true, true_and, not_true_eq_false, not_false_eq_true, forall_const, Nat.reduceAdd, Nat.reduceLT, Nat.reduceLeDiff, Nat.lt_add_one, Nat.le_refl, Nat.zero_le, Nat.sub_zero, Int.reduceEq, Int.reduceNe, Int.reduceLT, Int.reduceLE, Int.reduceAdd, Int.reduceSub, Int.reduceMul, Int.reduceNeg, Int.reduceTDiv, Int.reduceTMod, ne_eq, reduceCtorEq, Nat.reduceEqDiff, Int.cast_ofNat_Int, true_or, or_true, false_or, or_false, lcq_0, lcq_2, lcq_3, lcq_4, lcq_5, wu_s, wu_1, wu_w, wu_lt, wu_ne, ar_s, ar_n, rr_s, rr_n, ob_n, nz_c, lt_T, lt_F, le_T, le_F, ie_T, ie_F, nt_T, nt_F, nl_T, nl_F, in_T, and_false, false_and, and_self, not_true_eq_false, Int.toNat_natCast, Int.reduceToNat, if_true, if_false, mi_100, i100_0, i100_1, i100_2, i100_3, i100_5, i100_8, i100_9, i100_12, i100_13, i100_14, i100_15, i100_18, i100_19, i100_22, i100_23, i100_26, i100_27, i100_28, i100_29, i100_32, i100_35, i100_38, i100_39, i100_40, i100_43, i100_44, i100_47, i100_50, i100_51, i100_54, i100_55, i100_58, i100_61, i100_62, i100_65, i100_66, i100_69, i100_72, i100_73, i100_76, i100_77, i100_80, i100_83, i100_84, i100_87, i100_90, i100_93, i100_96, k10, k101, g9_11, g9_12, g9_13, g9_14, g9_15, g9_6, g9_7, b3 119 (by omega), h9, h14, a3, Nat.reduceSub]
  refine x_copy (W := V3) (N := 12) (f := md) (by rw [b3 123 (by omega)]; exact hM) (by omega) (by omega) hc (by decide) (fun g3 hg3 => ?_)
  generalize hV4 : wn V3 (ea 0 cl g3) = V4
  have a4 : V4.1 = V.1 + 4 := by rw [← hV4]; show V3.1 + 1 = _; omega
  have b4 : ∀ k, k < V.1 → V4.2 k = V.2 k := fun k hk => by rw [← hV4, wn_ol (by omega)]; exact b3 k hk
  have n4 : V4.2 V.1 = eo 6 (fdf 6) ∧ V4.2 (V.1 + 1) = ea 0 sz g1 ∧ V4.2 (V.1 + 2) = ea 0 cl g2 ∧ V4.2 (V.1 + 3) = ea 0 cl g3 := by
    rw [← hV4]
    exact ⟨by rw [wn_ol (by omega)]; exact n3.1, by rw [wn_ol (by omega)]; exact n3.2.1, by rw [wn_ol (by omega)]; exact n3.2.2, by rw [← a3]; exact wn_at⟩
  simp (disch := omega) only [s_1, s_2, s_3, s_4, s_76, s_5, s_6, s_7, s_8, s_9, s_10, s_11, s_12, s_13, s_14, s_15, s_16, s_17, s_18, s_19, s_20, s_21, s_22, s_23, s_24, s_25, s_26, s_27, s_28, s_29, s_30, s_31, s_32, s_33, s_34, s_35, s_36, s_37, s_38, s_39, s_40l, s_40i, s_40r, s_41, s_43, t_44, t_45, t_46, t_47, s_48, s_49, s_50, s_51, s_52, s_53, s_54, s_55, s_56, s_57, s_58, s_59, s_60, s_61, s_62_0, s_62_1, s_62_2, s_66, s_67, s_68, s_69, s_70, s_71, s_72, s_73, sws_n, sws_c, lget, lset, fget, fset, nolg, nolong, avc, stw, cnd, isobj_eo, GCi, GCn, retk, List.length_cons, List.length_nil, ↓reduceIte, and_true, true_and, not_true_eq_false, not_false_eq_true, forall_const, Nat.reduceAdd, Nat.reduceLT, Nat.reduceLeDiff, Nat.lt_add_one, Nat.le_refl, Nat.zero_le, Nat.sub_zero, Int.reduceEq, Int.reduceNe, Int.reduceLT, Int.reduceLE, Int.reduceAdd, Int.reduceSub, Int.reduceMul, Int.reduceNeg, Int.reduceTDiv, Int.reduceTMod, ne_eq, reduceCtorEq, Nat.reduceEqDiff, Int.cast_ofNat_Int, true_or, or_true, false_or, or_false, lcq_0, lcq_2, lcq_3, lcq_4, lcq_5, wu_s, wu_1, wu_w, wu_lt, wu_ne, ar_s, ar_n, rr_s, rr_n, ob_n, nz_c, lt_T, lt_F, le_T, le_F, ie_T, ie_F, nt_T, nt_F, nl_T, nl_F, in_T, and_false, false_and, and_self, not_true_eq_false, Int.toNat_natCast, Int.reduceToNat, if_true, if_false, mi_100, i100_0, i100_1, i100_2, i100_3, i100_5, i100_8, i100_9, i100_12, i100_13, i100_14, i100_15, i100_18, i100_19, i100_22, i100_23, i100_26, i100_27, i100_28, i100_29, i100_32, i100_35, i100_38, i100_39, i100_40, i100_43, i100_44, i100_47, i100_50, i100_51, i100_54, i100_55, i100_58, i100_61, i100_62, i100_65, i100_66, i100_69, i100_72, i100_73, i100_76, i100_77, i100_80, i100_83, i100_84, i100_87, i100_90, i100_93, i100_96, k10, k101, g9_11, g9_12, g9_13, g9_14, g9_15, g9_6, g9_7, b4 119 (by omega), h9, h14, a4, Nat.reduceSub]
  refine x_copy (W := V4) (N := 12) (f := en) (by rw [b4 124 (by omega)]; exact hE) (by omega) (by omega) hc (by decide) (fun g4 hg4 => ?_)
  generalize hV5 : wn V4 (ea 0 cl g4) = V5
  have a5 : V5.1 = V.1 + 5 := by rw [← hV5]; show V4.1 + 1 = _; omega
  have b5 : ∀ k, k < V.1 → V5.2 k = V.2 k := fun k hk => by rw [← hV5, wn_ol (by omega)]; exact b4 k hk
  have n5 : V5.2 V.1 = eo 6 (fdf 6) ∧ V5.2 (V.1 + 1) = ea 0 sz g1 ∧ V5.2 (V.1 + 2) = ea 0 cl g2 ∧ V5.2 (V.1 + 3) = ea 0 cl g3 ∧ V5.2 (V.1 + 4) = ea 0 cl g4 := by
    rw [← hV5]
    exact ⟨by rw [wn_ol (by omega)]; exact n4.1, by rw [wn_ol (by omega)]; exact n4.2.1, by rw [wn_ol (by omega)]; exact n4.2.2.1, by rw [wn_ol (by omega)]; exact n4.2.2.2, by rw [← a4]; exact wn_at⟩
  have s5 : V5.2 125 = ea 0 6 st := (b5 125 (by omega)).trans hS
  have s6 : ∀ e : AE, (wn V5 e).2 (V.1 + 5) = e := fun e => by rw [← a5]; exact wn_at
  simp (disch := omega) only [s_1, s_2, s_3, s_4, s_76, s_5, s_6, s_7, s_8, s_9, s_10, s_11, s_12, s_13, s_14, s_15, s_16, s_17, s_18, s_19, s_20, s_21, s_22, s_23, s_24, s_25, s_26, s_27, s_28, s_29, s_30, s_31, s_32, s_33, s_34, s_35, s_36, s_37, s_38, s_39, s_40l, s_40i, s_40r, s_41, s_43, t_44, t_45, t_46, t_47, s_48, s_49, s_50, s_51, s_52, s_53, s_54, s_55, s_56, s_57, s_58, s_59, s_60, s_61, s_62_0, s_62_1, s_62_2, s_66, s_67, s_68, s_69, s_70, s_71, s_72, s_73, sws_n, sws_c, lget, lset, fget, fset, nolg, nolong, avc, stw, cnd, isobj_eo, GCi, GCn, retk, List.length_cons, List.length_nil, ↓reduceIte, and_true, true_and, not_true_eq_false, not_false_eq_true, forall_const, Nat.reduceAdd, Nat.reduceLT, Nat.reduceLeDiff, Nat.lt_add_one, Nat.le_refl, Nat.zero_le, Nat.sub_zero, Int.reduceEq, Int.reduceNe, Int.reduceLT, Int.reduceLE, Int.reduceAdd, Int.reduceSub, Int.reduceMul, Int.reduceNeg, Int.reduceTDiv, Int.reduceTMod, ne_eq, reduceCtorEq, Nat.reduceEqDiff, Int.cast_ofNat_Int, true_or, or_true, false_or, or_false, lcq_0, lcq_2, lcq_3, lcq_4, lcq_5, wu_s, wu_1, wu_w, wu_lt, wu_ne, ar_s, ar_n, rr_s, rr_n, ob_n, nz_c, lt_T, lt_F, le_T, le_F, ie_T, ie_F, nt_T, nt_F, nl_T, nl_F, in_T, and_false, false_and, and_self, not_true_eq_false, Int.toNat_natCast, Int.reduceToNat, if_true, if_false, mi_100, i100_0, i100_1, i100_2, i100_3, i100_5, i100_8, i100_9, i100_12, i100_13, i100_14, i100_15, i100_18, i100_19, i100_22, i100_23, i100_26, i100_27, i100_28, i100_29, i100_32, i100_35, i100_38, i100_39, i100_40, i100_43, i100_44, i100_47, i100_50, i100_51, i100_54, i100_55, i100_58, i100_61, i100_62, i100_65, i100_66, i100_69, i100_72, i100_73, i100_76, i100_77, i100_80, i100_83, i100_84, i100_87, i100_90, i100_93, i100_96, k10, k101, g9_11, g9_12, g9_13, g9_14, g9_15, g9_6, g9_7, b5 119 (by omega), h9, s5, s6, a1, a2, a3, a4, a5, wn_f1, Nat.reduceSub]
  generalize hV6 : wn V5 (ea 0 6 st) = V6
  have a6 : V6.1 = V.1 + 6 := by rw [← hV6]; show V5.1 + 1 = _; omega
  have b6 : ∀ k, k < V.1 → V6.2 k = V.2 k := fun k hk => by rw [← hV6, wn_ol (by omega)]; exact b5 k hk
  have n6 : V6.2 V.1 = eo 6 (fdf 6) ∧ V6.2 (V.1 + 1) = ea 0 sz g1 ∧ V6.2 (V.1 + 2) = ea 0 cl g2 ∧ V6.2 (V.1 + 3) = ea 0 cl g3 ∧ V6.2 (V.1 + 4) = ea 0 cl g4 ∧ V6.2 (V.1 + 5) = ea 0 6 st := by
    rw [← hV6]
    exact ⟨by rw [wn_ol (by omega)]; exact n5.1, by rw [wn_ol (by omega)]; exact n5.2.1, by rw [wn_ol (by omega)]; exact n5.2.2.1, by rw [wn_ol (by omega)]; exact n5.2.2.2.1, by rw [wn_ol (by omega)]; exact n5.2.2.2.2, by rw [← a5]; exact wn_at⟩
  have ew : wx V6.1 V6.2 [] = V6 := wx_e
  have ct := ct_Rule (a := V.1) (n := V6.1) (f := V6.2) (r1 := some (V.1 + 1)) (r2 := some (V.1 + 2)) (r3 := some (V.1 + 3)) (r4 := some (V.1 + 4)) (r5 := some (V.1 + 5)) (Q := GC 100 96 [some (vr 119), o1] [vr V.1] 0 0 Q) (by omega) (by omega) n6.1
  rw [ew] at ct
  refine ct ?_
  have ew2 : wx V6.1 (fu V6.2 V.1 (eo 6 [vr (V.1 + 1), vr (V.1 + 2), vr (V.1 + 3), vr (V.1 + 4), vr (V.1 + 5)])) [] = wu V6 V.1 (o6 (V.1 + 1) (V.1 + 2) (V.1 + 3) (V.1 + 4) (V.1 + 5)) := wx_e (W := wu V6 V.1 (o6 (V.1 + 1) (V.1 + 2) (V.1 + 3) (V.1 + 4) (V.1 + 5)))
  rw [ew2]
  simp (disch := omega) only [s_1, s_2, s_3, s_4, s_76, s_5, s_6, s_7, s_8, s_9, s_10, s_11, s_12, s_13, s_14, s_15, s_16, s_17, s_18, s_19, s_20, s_21, s_22, s_23, s_24, s_25, s_26, s_27, s_28, s_29, s_30, s_31, s_32, s_33, s_34, s_35, s_36, s_37, s_38, s_39, s_40l, s_40i, s_40r, s_41, s_43, t_44, t_45, t_46, t_47, s_48, s_49, s_50, s_51, s_52, s_53, s_54, s_55, s_56, s_57, s_58, s_59, s_60, s_61, s_62_0, s_62_1, s_62_2, s_66, s_67, s_68, s_69, s_70, s_71, s_72, s_73, sws_n, sws_c, lget, lset, fget, fset, nolg, nolong, avc, stw, cnd, isobj_eo, GCi, GCn, retk, List.length_cons, List.length_nil, ↓reduceIte, and_true, true_and, not_true_eq_false, not_false_eq_true, forall_const, Nat.reduceAdd, Nat.reduceLT, Nat.reduceLeDiff, Nat.lt_add_one, Nat.le_refl, Nat.zero_le, Nat.sub_zero, Int.reduceEq, Int.reduceNe, Int.reduceLT, Int.reduceLE, Int.reduceAdd, Int.reduceSub, Int.reduceMul, Int.reduceNeg, Int.reduceTDiv, Int.reduceTMod, ne_eq, reduceCtorEq, Nat.reduceEqDiff, Int.cast_ofNat_Int, true_or, or_true, false_or, or_false, lcq_0, lcq_2, lcq_3, lcq_4, lcq_5, wu_s, wu_1, wu_w, wu_lt, wu_ne, ar_s, ar_n, rr_s, rr_n, ob_n, nz_c, lt_T, lt_F, le_T, le_F, ie_T, ie_F, nt_T, nt_F, nl_T, nl_F, in_T, and_false, false_and, and_self, not_true_eq_false, Int.toNat_natCast, Int.reduceToNat, if_true, if_false, mi_100, i100_0, i100_1, i100_2, i100_3, i100_5, i100_8, i100_9, i100_12, i100_13, i100_14, i100_15, i100_18, i100_19, i100_22, i100_23, i100_26, i100_27, i100_28, i100_29, i100_32, i100_35, i100_38, i100_39, i100_40, i100_43, i100_44, i100_47, i100_50, i100_51, i100_54, i100_55, i100_58, i100_61, i100_62, i100_65, i100_66, i100_69, i100_72, i100_73, i100_76, i100_77, i100_80, i100_83, i100_84, i100_87, i100_90, i100_93, i100_96, k10, k101, g9_11, g9_12, g9_13, g9_14, g9_15, g9_6, g9_7]
  refine hQ _ g1 g2 g3 g4 a6 (fun k hk => ?_) wu_s ?_ ?_ ?_ ?_ ?_ hg1 (fun i hi => ⟨hg2 i hi, hg3 i hi, hg4 i hi⟩)
  · rw [wu_ne (by omega)]; exact b6 k hk
  · rw [wu_ne (by omega)]; exact n6.2.1
  · rw [wu_ne (by omega)]; exact n6.2.2.1
  · rw [wu_ne (by omega)]; exact n6.2.2.2.1
  · rw [wu_ne (by omega)]; exact n6.2.2.2.2.1
  · rw [wu_ne (by omega)]; exact n6.2.2.2.2.2
/-- settings, with what is usual -/
def usI (s : Nat) : Int := (fzi.getD 0 []).getD s 0
def stF (f : Nat → Int) (k : Nat) : Nat → Int := fun s => if s < k ∧ f s = -1 then usI s else f s
theorem stF_s {f : Nat → Int} {k : Nat} : stF f (k + 1) = fu (stF f k) k (if f k = -1 then usI k else f k) := by
  funext s
  rw [fu_3]
  show (if s < k + 1 ∧ f s = -1 then usI s else f s) = if s = k then (if f k = -1 then usI k else f k) else (if s < k ∧ f s = -1 then usI s else f s)
  by_cases c : s = k
  · subst c
    rw [if_pos rfl]
    by_cases c2 : f s = -1
    · rw [if_pos ⟨by omega, c2⟩, if_pos c2]
    · rw [if_neg (fun z => c2 z.2), if_neg c2]
  · rw [if_neg c]
    by_cases c2 : s < k ∧ f s = -1
    · rw [if_pos c2, if_pos ⟨by omega, c2.2⟩]
    · rw [if_neg c2, if_neg (fun z => c2 ⟨by omega, z.2⟩)]
def stW (c : CR) (k : Nat) : CR := (c.1, c.2.1, c.2.2.1, c.2.2.2.1, c.2.2.2.2.1, c.2.2.2.2.2.1, c.2.2.2.2.2.2.1, stF c.2.2.2.2.2.2.2 k)
theorem x_rule (hC : CS W) (h : XI n c) (hQ : ∀ V' gd gi gm ge, V'.1 = W.1 + 6 → (∀ k, k < W.1 → V'.2 k = (RX W (stW c 6)).2 k) → V'.2 W.1 = o6 (W.1 + 1) (W.1 + 2) (W.1 + 3) (W.1 + 4) (W.1 + 5) → V'.2 (W.1 + 1) = ea 0 (c.1 7).toNat gd → V'.2 (W.1 + 2) = ea 0 (c.1 14).toNat gi → V'.2 (W.1 + 3) = ea 0 (c.1 14).toNat gm → V'.2 (W.1 + 4) = ea 0 (c.1 14).toNat ge → V'.2 (W.1 + 5) = ea 0 6 (stF c.2.2.2.2.2.2.2 6) → (∀ i : Nat, i < (c.1 7).toNat → gd i = c.2.2.1 i) → (∀ i : Nat, i < (c.1 14).toNat → gi i = c.2.2.2.2.1 i ∧ gm i = c.2.2.2.2.2.1 i ∧ ge i = c.2.2.2.2.2.2.1 i) → Q (some (vr W.1)) V') : Gm 100 [vr 119] (RX W c) Q := by
  have hw : 192 ≤ W.1 := hC.1
  have k1 : W.2 1 = ea 0 6 (fun j => (fzi.getD 0 []).getD j 0) := ca_fz hC (by decide) (by decide)
  have b7 := h.2.1
  have b14 := h.2.2.2.2.2.2.1
  have loop : ∀ (f k : Nat) (x : CR), k + f = 6 → x = stW c k → G 100 2 [some (vr 119), some (vi (k : Int))] [] (RX W x) 10 1635 Q := by
    intro f
    induction f with
    | zero =>
      intro k x hk hx
      have e6 : k = 6 := by omega
      subst e6
      have t := x_rule2 (V := RX W x) (o1 := some (vi ((6 : Nat) : Int))) (sz := (c.1 7).toNat) (cl := (c.1 14).toNat) (Q := Q) (rr9 := x.1) (cd := x.2.2.1) (kd := x.2.2.2.2.1) (md := x.2.2.2.2.2.1) (en := x.2.2.2.2.2.2.1) (st := x.2.2.2.2.2.2.2) rfl rfl rfl rfl rfl rfl hw (by subst hx; exact (Int.toNat_of_nonneg b7.1).symm) (by omega) (by subst hx; exact (Int.toNat_of_nonneg b14.1).symm) (by omega) (by subst hx; exact hQ)
      rw [i100_2]
      simp (disch := omega) only [s_1, s_2, s_3, s_4, s_76, s_5, s_6, s_7, s_8, s_9, s_10, s_11, s_12, s_13, s_14, s_15, s_16, s_17, s_18, s_19, s_20, s_21, s_22, s_23, s_24, s_25, s_26, s_27, s_28, s_29, s_30, s_31, s_32, s_33, s_34, s_35, s_36, s_37, s_38, s_39, s_40l, s_40i, s_40r, s_41, s_43, t_44, t_45, t_46, t_47, s_48, s_49, s_50, s_51, s_52, s_53, s_54, s_55, s_56, s_57, s_58, s_59, s_60, s_61, s_62_0, s_62_1, s_62_2, s_66, s_67, s_68, s_69, s_70, s_71, s_72, s_73, sws_n, sws_c, lget, lset, fget, fset, nolg, nolong, avc, stw, cnd, isobj_eo, GCi, GCn, retk, List.length_cons, List.length_nil, ↓reduceIte, and_true, true_and, not_true_eq_false, not_false_eq_true, forall_const, Nat.reduceAdd, Nat.reduceLT, Nat.reduceLeDiff, Nat.lt_add_one, Nat.le_refl, Nat.zero_le, Nat.sub_zero, Int.reduceEq, Int.reduceNe, Int.reduceLT, Int.reduceLE, Int.reduceAdd, Int.reduceSub, Int.reduceMul, Int.reduceNeg, Int.reduceTDiv, Int.reduceTMod, ne_eq, reduceCtorEq, Nat.reduceEqDiff, Int.cast_ofNat_Int, true_or, or_true, false_or, or_false, lcq_0, lcq_2, lcq_3, lcq_4, lcq_5, wu_s, wu_1, wu_w, wu_lt, wu_ne, ar_s, ar_n, rr_s, rr_n, ob_n, nz_c, lt_T, lt_F, le_T, le_F, ie_T, ie_F, nt_T, nt_F, nl_T, nl_F, in_T, and_false, false_and, and_self, not_true_eq_false, Int.toNat_natCast, Int.reduceToNat, if_true, if_false, mi_100, i100_0, i100_1, i100_2, i100_3, i100_5, i100_8, i100_9, i100_12, i100_13, i100_14, i100_15, i100_18, i100_19, i100_22, i100_23, i100_26, i100_27, i100_28, i100_29, i100_32, i100_38, i100_39, i100_40, i100_43, i100_44, i100_47, i100_50, i100_51, i100_54, i100_55, i100_58, i100_61, i100_62, i100_65, i100_66, i100_69, i100_72, i100_73, i100_76, i100_77, i100_80, i100_83, i100_84, i100_87, i100_90, i100_93, i100_96, k10, k101, g9_11, g9_12, g9_13, g9_14, g9_15, g9_6, g9_7, show ((6 : Nat) : Int) = 6 from rfl]
      exact t
    | succ f ih =>
      intro k x hk hx
      have k6 : (k : Int) < 6 := by omega
      have e := ih (k + 1) (stW c (k + 1)) (by omega) rfl
      rw [nc1] at e
      have es : stW c (k + 1) = (x.1, x.2.1, x.2.2.1, x.2.2.2.1, x.2.2.2.2.1, x.2.2.2.2.2.1, x.2.2.2.2.2.2.1, fu x.2.2.2.2.2.2.2 k (if c.2.2.2.2.2.2.2 k = -1 then usI k else c.2.2.2.2.2.2.2 k)) := by
        subst hx
        unfold stW
        dsimp only
        rw [stF_s]
      have ek : x.2.2.2.2.2.2.2 k = c.2.2.2.2.2.2.2 k := by
        subst hx
        show stF c.2.2.2.2.2.2.2 k k = _
        unfold stF
        rw [if_neg (fun z => by omega)]
      have hu : (fzi.getD 0 []).getD k 0 = usI k := rfl
      rw [es] at e
      rw [i100_2]
      by_cases c1 : c.2.2.2.2.2.2.2 k = -1
      · rw [if_pos c1] at e
        rw [c1] at ek
        simp (disch := omega) only [s_1, s_2, s_3, s_4, s_76, s_5, s_6, s_7, s_8, s_9, s_10, s_11, s_12, s_13, s_14, s_15, s_16, s_17, s_18, s_19, s_20, s_21, s_22, s_23, s_24, s_25, s_26, s_27, s_28, s_29, s_30, s_31, s_32, s_33, s_34, s_35, s_36, s_37, s_38, s_39, s_40l, s_40i, s_40r, s_41, s_43, t_44, t_45, t_46, t_47, s_48, s_49, s_50, s_51, s_52, s_53, s_54, s_55, s_56, s_57, s_58, s_59, s_60, s_61, s_62_0, s_62_1, s_62_2, s_66, s_67, s_68, s_69, s_70, s_71, s_72, s_73, sws_n, sws_c, lget, lset, fget, fset, nolg, nolong, avc, stw, cnd, isobj_eo, GCi, GCn, retk, List.length_cons, List.length_nil, ↓reduceIte, and_true, true_and, not_true_eq_false, not_false_eq_true, forall_const, Nat.reduceAdd, Nat.reduceLT, Nat.reduceLeDiff, Nat.lt_add_one, Nat.le_refl, Nat.zero_le, Nat.sub_zero, Int.reduceEq, Int.reduceNe, Int.reduceLT, Int.reduceLE, Int.reduceAdd, Int.reduceSub, Int.reduceMul, Int.reduceNeg, Int.reduceTDiv, Int.reduceTMod, ne_eq, reduceCtorEq, Nat.reduceEqDiff, Int.cast_ofNat_Int, true_or, or_true, false_or, or_false, lcq_0, lcq_2, lcq_3, lcq_4, lcq_5, wu_s, wu_1, wu_w, wu_lt, wu_ne, ar_s, ar_n, rr_s, rr_n, ob_n, nz_c, lt_T, lt_F, le_T, le_F, ie_T, ie_F, nt_T, nt_F, nl_T, nl_F, in_T, and_false, false_and, and_self, not_true_eq_false, Int.toNat_natCast, Int.reduceToNat, if_true, if_false, mi_100, i100_0, i100_1, i100_3, i100_5, i100_8, i100_9, i100_12, i100_13, i100_14, i100_15, i100_18, i100_19, i100_22, i100_23, i100_26, i100_27, i100_28, i100_29, i100_32, i100_38, i100_39, i100_40, i100_43, i100_44, i100_47, i100_50, i100_51, i100_54, i100_55, i100_58, i100_61, i100_62, i100_65, i100_66, i100_69, i100_72, i100_73, i100_76, i100_77, i100_80, i100_83, i100_84, i100_87, i100_90, i100_93, i100_96, k10, k101, g9_11, g9_12, g9_13, g9_14, g9_15, g9_6, g9_7, k6, k1, hu, ek]
        exact e
      · rw [if_neg c1, ← ek, fu_sf (f := x.2.2.2.2.2.2.2) rfl] at e
        have ek2 : ¬ x.2.2.2.2.2.2.2 k = -1 := by rw [ek]; exact c1
        simp (disch := omega) only [s_1, s_2, s_3, s_4, s_76, s_5, s_6, s_7, s_8, s_9, s_10, s_11, s_12, s_13, s_14, s_15, s_16, s_17, s_18, s_19, s_20, s_21, s_22, s_23, s_24, s_25, s_26, s_27, s_28, s_29, s_30, s_31, s_32, s_33, s_34, s_35, s_36, s_37, s_38, s_39, s_40l, s_40i, s_40r, s_41, s_43, t_44, t_45, t_46, t_47, s_48, s_49, s_50, s_51, s_52, s_53, s_54, s_55, s_56, s_57, s_58, s_59, s_60, s_61, s_62_0, s_62_1, s_62_2, s_66, s_67, s_68, s_69, s_70, s_71, s_72, s_73, sws_n, sws_c, lget, lset, fget, fset, nolg, nolong, avc, stw, cnd, isobj_eo, GCi, GCn, retk, List.length_cons, List.length_nil, ↓reduceIte, and_true, true_and, not_true_eq_false, not_false_eq_true, forall_const, Nat.reduceAdd, Nat.reduceLT, Nat.reduceLeDiff, Nat.lt_add_one, Nat.le_refl, Nat.zero_le, Nat.sub_zero, Int.reduceEq, Int.reduceNe, Int.reduceLT, Int.reduceLE, Int.reduceAdd, Int.reduceSub, Int.reduceMul, Int.reduceNeg, Int.reduceTDiv, Int.reduceTMod, ne_eq, reduceCtorEq, Nat.reduceEqDiff, Int.cast_ofNat_Int, true_or, or_true, false_or, or_false, lcq_0, lcq_2, lcq_3, lcq_4, lcq_5, wu_s, wu_1, wu_w, wu_lt, wu_ne, ar_s, ar_n, rr_s, rr_n, ob_n, nz_c, lt_T, lt_F, le_T, le_F, ie_T, ie_F, nt_T, nt_F, nl_T, nl_F, in_T, and_false, false_and, and_self, not_true_eq_false, Int.toNat_natCast, Int.reduceToNat, if_true, if_false, mi_100, i100_0, i100_1, i100_3, i100_5, i100_8, i100_9, i100_12, i100_13, i100_14, i100_15, i100_18, i100_19, i100_22, i100_23, i100_26, i100_27, i100_28, i100_29, i100_32, i100_38, i100_39, i100_40, i100_43, i100_44, i100_47, i100_50, i100_51, i100_54, i100_55, i100_58, i100_61, i100_62, i100_65, i100_66, i100_69, i100_72, i100_73, i100_76, i100_77, i100_80, i100_83, i100_84, i100_87, i100_90, i100_93, i100_96, k10, k101, g9_11, g9_12, g9_13, g9_14, g9_15, g9_6, g9_7, k6, ek2]
        exact e
  have e0 : stW c 0 = c := by
    have : stF c.2.2.2.2.2.2.2 0 = c.2.2.2.2.2.2.2 := by
      funext s
      unfold stF
      rw [if_neg (fun z => by omega)]
    unfold stW
    rw [this]
  have l0 := loop 6 0 c rfl e0.symm
  rw [e100]
  simp (disch := omega) only [s_1, s_2, s_3, s_4, s_76, s_5, s_6, s_7, s_8, s_9, s_10, s_11, s_12, s_13, s_14, s_15, s_16, s_17, s_18, s_19, s_20, s_21, s_22, s_23, s_24, s_25, s_26, s_27, s_28, s_29, s_30, s_31, s_32, s_33, s_34, s_35, s_36, s_37, s_38, s_39, s_40l, s_40i, s_40r, s_41, s_43, t_44, t_45, t_46, t_47, s_48, s_49, s_50, s_51, s_52, s_53, s_54, s_55, s_56, s_57, s_58, s_59, s_60, s_61, s_62_0, s_62_1, s_62_2, s_66, s_67, s_68, s_69, s_70, s_71, s_72, s_73, sws_n, sws_c, lget, lset, fget, fset, nolg, nolong, avc, stw, cnd, isobj_eo, GCi, GCn, retk, List.length_cons, List.length_nil, ↓reduceIte, and_true, true_and, not_true_eq_false, not_false_eq_true, forall_const, Nat.reduceAdd, Nat.reduceLT, Nat.reduceLeDiff, Nat.lt_add_one, Nat.le_refl, Nat.zero_le, Nat.sub_zero, Int.reduceEq, Int.reduceNe, Int.reduceLT, Int.reduceLE, Int.reduceAdd, Int.reduceSub, Int.reduceMul, Int.reduceNeg, Int.reduceTDiv, Int.reduceTMod, ne_eq, reduceCtorEq, Nat.reduceEqDiff, Int.cast_ofNat_Int, true_or, or_true, false_or, or_false, lcq_0, lcq_2, lcq_3, lcq_4, lcq_5, wu_s, wu_1, wu_w, wu_lt, wu_ne, ar_s, ar_n, rr_s, rr_n, ob_n, nz_c, lt_T, lt_F, le_T, le_F, ie_T, ie_F, nt_T, nt_F, nl_T, nl_F, in_T, and_false, false_and, and_self, not_true_eq_false, Int.toNat_natCast, Int.reduceToNat, if_true, if_false, mi_100, i100_0, i100_1, i100_3, i100_5, i100_8, i100_9, i100_12, i100_13, i100_14, i100_15, i100_18, i100_19, i100_22, i100_23, i100_26, i100_27, i100_28, i100_29, i100_32, i100_35, i100_38, i100_39, i100_40, i100_43, i100_44, i100_47, i100_50, i100_51, i100_54, i100_55, i100_58, i100_61, i100_62, i100_65, i100_66, i100_69, i100_72, i100_73, i100_76, i100_77, i100_80, i100_83, i100_84, i100_87, i100_90, i100_93, i100_96, k10, k101, g9_11, g9_12, g9_13, g9_14, g9_15, g9_6, g9_7]
  exact l0
end RUL
