-- IMAGE, BACK: whole calls
set_option maxHeartbeats 10000000 in
/-- with more room it goes as well -/
theorem G_bc0 {y pc : Nat} {L : AL} {st : List AV} {W : AW} {bc bs : Nat} {Q : AQ} (h : G y pc L st W bc bs Q) : ∀ bc2 bs2, bc ≤ bc2 → bs ≤ bs2 → G y pc L st W bc2 bs2 Q := by
  refine G_ind (fun y pc L st W bc bs Q => ∀ bc2 bs2, bc ≤ bc2 → bs ≤ bs2 → G y pc L st W bc2 bs2 Q) ?_ h
  intro y pc L st W bc bs Q hs bc2 bs2 hb1 hb2
  refine G_in ?_
  generalize hi : cd y pc = i at hs ⊢
  unfold sem at hs ⊢
  split at hs <;> (try dsimp only at hs) <;> (try dsimp only) <;> (repeat' split at hs) <;> (try dsimp only) <;>
    first
    | exact hs.elim
    | exact hs bc2 bs2 hb1 hb2
    | exact fun r hr => hs r hr bc2 bs2 hb1 hb2
    | exact ⟨fun c => hs.1 c bc2 bs2 hb1 hb2, fun c => hs.2 c bc2 bs2 hb1 hb2⟩
    | exact sws_mono (fun _ g => g bc2 bs2 hb1 hb2) _ _ _ hs
    | exact hs
    | exact ⟨hs.1, hs.2 bc2 bs2 hb1 hb2⟩
    | exact ⟨hs.1, hs.2.1, hs.2.2 bc2 bs2 hb1 hb2⟩
    | exact ⟨hs.1, hs.2.1, hs.2.2.1, hs.2.2.2 bc2 bs2 hb1 hb2⟩
    | exact ⟨hs.1, hs.2.1, hs.2.2.1, hs.2.2.2.1, hs.2.2.2.2 bc2 bs2 hb1 hb2⟩
    | exact ⟨hs.1, hs.2.1, hs.2.2.1, hs.2.2.2.1, hs.2.2.2.2.1, hs.2.2.2.2.2 bc2 bs2 hb1 hb2⟩
    | exact ⟨hs.1, hs.2.1, hs.2.2.1, hs.2.2.2.1, hs.2.2.2.2.1, hs.2.2.2.2.2.1, hs.2.2.2.2.2.2.1, hs.2.2.2.2.2.2.2.1, hs.2.2.2.2.2.2.2.2 bc2 bs2 hb1 hb2⟩
    | exact ⟨hs.1, hs.2.1, hs.2.2.1, hs.2.2.2.1, hs.2.2.2.2.1, hs.2.2.2.2.2.1, hs.2.2.2.2.2.2.1, hs.2.2.2.2.2.2.2.1, hs.2.2.2.2.2.2.2.2.1, hs.2.2.2.2.2.2.2.2.2.1, hs.2.2.2.2.2.2.2.2.2.2 bc2 bs2 hb1 hb2⟩
    | exact ⟨hs.1, hs.2.1, by omega, by omega, hs.2.2.2.2 _ _ (by omega) (by omega)⟩
    | exact ⟨by omega, by omega, hs.2.2 _ _ (by omega) (by omega)⟩
    | exact ⟨hs.1, hs.2.1, hs.2.2.1, by omega, by omega, hs.2.2.2.2.2 _ _ (by omega) (by omega)⟩
    | (obtain ⟨a1, a2, a3, a4, P, p1, p2⟩ := hs; exact ⟨a1, a2, by omega, by omega, P, p1 _ _ (Nat.le_refl _) (Nat.le_refl _), fun r W' q => p2 r W' q _ _ (by omega) (by omega)⟩)
    | (obtain ⟨a1, a2, a3, a4, a5, a6, P, p1, p2⟩ := hs; exact ⟨a1, a2, a3, a4, by omega, by omega, P, p1 _ _ (Nat.le_refl _) (Nat.le_refl _), fun r W' q => p2 r W' q _ _ (by omega) (by omega)⟩)
theorem G_bc {y pc : Nat} {L : AL} {st : List AV} {W : AW} {bc2 bs : Nat} {Q : AQ} (h : G y pc L st W 0 bs Q) : G y pc L st W bc2 bs Q := G_bc0 h bc2 bs (Nat.zero_le _) (Nat.le_refl _)
section IM2
variable {W : AW} {Q : AQ} {s : ST} {c : Int} {k : Nat} {σ : SG} {x : Int}
theorem Zw.upR {W : AW} {j t n i : Nat} {f : Nat → Option Nat} {x : Option Nat} (h : Zw W) (h0 : W.2 j = er t n f) (h1 : 1 ≤ j) (hj : j < W.1) (hi : i < n) : Zw (wu W j (er t n (fu f i x))) := h.up (fun k hk => by
  have := h j h1 hj
  rw [h0] at this
  rw [fu_ne _ _ (by omega)]
  exact this k hk)
theorem x_image0 (hH : CH W) (hC : CC W s) (hg : ¬ (hasF s ∧ 0 ≤ x ∧ x ≤ 3)) (hQ : Q (some (vi (-1))) W) : Gm 174 [vr 67, vi x] W Q := by
  have hw : 192 ≤ W.1 := hH.1.1
  rw [e174]
  by_cases c1 : sF s 0 0 = 0
  · simp (disch := omega) only [s_1, s_2, s_3, s_4, s_76, s_5, s_6, s_7, s_8, s_9, s_10, s_11, s_12, s_13, s_14, s_15, s_16, s_17, s_18, s_19, s_20, s_21, s_22, s_23, s_24, s_25, s_26, s_27, s_28, s_29, s_30, s_31, s_32, s_33, s_34, s_35, s_36, s_37, s_38, s_39, s_40l, s_40i, s_40r, s_41, s_43, t_44, t_45, t_46, t_47, s_48, s_49, s_50, s_51, s_52, s_53, s_54, s_55, s_56, s_57, s_58, s_59, s_60, s_61, s_62_0, s_62_1, s_62_2, s_66, s_67, s_68, s_69, s_70, s_71, s_72, s_73, sws_n, sws_c, lget, lset, fget, fset, nolg, nolong, avc, stw, cnd, isobj_eo, GCi, GCn, retk, List.length_cons, List.length_nil, ↓reduceIte, and_true, true_and, not_true_eq_false, not_false_eq_true, forall_const, Nat.reduceAdd, Nat.reduceLT, Nat.reduceLeDiff, Nat.lt_add_one, Nat.le_refl, Nat.zero_le, Nat.sub_zero, Int.reduceEq, Int.reduceNe, Int.reduceLT, Int.reduceLE, Int.reduceAdd, Int.reduceSub, Int.reduceMul, Int.reduceNeg, Int.reduceTDiv, Int.reduceTMod, ne_eq, reduceCtorEq, Nat.reduceEqDiff, Int.cast_ofNat_Int, true_or, or_true, false_or, or_false, lcq_0, lcq_2, lcq_3, lcq_4, lcq_5, wu_s, wu_1, wu_w, wu_lt, wu_ne, ar_s, ar_n, rr_s, rr_n, ob_n, nz_c, lt_T, lt_F, le_T, le_F, ie_T, ie_F, nt_T, nt_F, nl_T, nl_F, in_T, and_false, false_and, and_self, not_true_eq_false, Int.toNat_natCast, Int.reduceToNat, if_true, if_false, mi_174, i174_0, i174_1, i174_4, i174_7, i174_8, i174_9, i174_10, i174_13, i174_16, i174_17, i174_18, i174_19, i174_22, i174_23, i174_24, i174_27, i174_28, i174_31, i174_32, i174_33, i174_37, i174_40, i174_41, i174_44, i174_45, i174_48, i174_49, i174_50, i174_53, i174_54, i174_57, i174_58, i174_61, i174_63, i174_66, i174_67, i174_68, i174_69, i174_72, i174_75, i174_76, i174_79, i174_80, i174_81, i174_82, i174_85, i174_88, i174_89, i174_92, i174_95, k3, k5, k14, k21, k154, k175, g11_1, g11_3, g11_4, g11_5, g2_5, ca_67 hH.1, x_noFloor hH hC, bi_z, Classical.not_not, c1]
    exact hQ
  · have c2 : ¬ (0 ≤ x ∧ x ≤ 3) := fun q => hg ⟨c1, q⟩
    simp (disch := omega) only [s_1, s_2, s_3, s_4, s_76, s_5, s_6, s_7, s_8, s_9, s_10, s_11, s_12, s_13, s_14, s_15, s_16, s_17, s_18, s_19, s_20, s_21, s_22, s_23, s_24, s_25, s_26, s_27, s_28, s_29, s_30, s_31, s_32, s_33, s_34, s_35, s_36, s_37, s_38, s_39, s_40l, s_40i, s_40r, s_41, s_43, t_44, t_45, t_46, t_47, s_48, s_49, s_50, s_51, s_52, s_53, s_54, s_55, s_56, s_57, s_58, s_59, s_60, s_61, s_62_0, s_62_1, s_62_2, s_66, s_67, s_68, s_69, s_70, s_71, s_72, s_73, sws_n, sws_c, lget, lset, fget, fset, nolg, nolong, avc, stw, cnd, isobj_eo, GCi, GCn, retk, List.length_cons, List.length_nil, ↓reduceIte, and_true, true_and, not_true_eq_false, not_false_eq_true, forall_const, Nat.reduceAdd, Nat.reduceLT, Nat.reduceLeDiff, Nat.lt_add_one, Nat.le_refl, Nat.zero_le, Nat.sub_zero, Int.reduceEq, Int.reduceNe, Int.reduceLT, Int.reduceLE, Int.reduceAdd, Int.reduceSub, Int.reduceMul, Int.reduceNeg, Int.reduceTDiv, Int.reduceTMod, ne_eq, reduceCtorEq, Nat.reduceEqDiff, Int.cast_ofNat_Int, true_or, or_true, false_or, or_false, lcq_0, lcq_2, lcq_3, lcq_4, lcq_5, wu_s, wu_1, wu_w, wu_lt, wu_ne, ar_s, ar_n, rr_s, rr_n, ob_n, nz_c, lt_T, lt_F, le_T, le_F, ie_T, ie_F, nt_T, nt_F, nl_T, nl_F, in_T, and_false, false_and, and_self, not_true_eq_false, Int.toNat_natCast, Int.reduceToNat, if_true, if_false, mi_174, i174_0, i174_1, i174_4, i174_7, i174_8, i174_9, i174_10, i174_13, i174_16, i174_17, i174_18, i174_19, i174_22, i174_23, i174_24, i174_27, i174_28, i174_31, i174_32, i174_33, i174_37, i174_40, i174_41, i174_44, i174_45, i174_48, i174_49, i174_50, i174_53, i174_54, i174_57, i174_58, i174_61, i174_63, i174_66, i174_67, i174_68, i174_69, i174_72, i174_75, i174_76, i174_79, i174_80, i174_81, i174_82, i174_85, i174_88, i174_89, i174_92, i174_95, k3, k5, k14, k21, k154, k175, g11_1, g11_3, g11_4, g11_5, g2_5, ca_67 hH.1, x_noFloor hH hC, bi_z, Classical.not_not, c1, m_within, c2]
    exact hQ
theorem x_imgNew (hz : Zw W) (hH : CH W) (hC : CC W s) (hS : SOK c s) (hk : k < 4) (hi : sI s k = none) (hQ : ∀ V, CH V → CC V (sIm s k (sF s)) → Q (some (vi (sF s 0 4))) V) : G 174 36 [some (vr 67), some (vi (k : Int))] [] W 21 3959 Q := by
  have hw : 192 ≤ W.1 := hH.1.1
  have q67 : nfz = 67 := rfl
  obtain ⟨b1, b2, b3, b4, ow, b5, b6, b7⟩ := id hC
  rw [i174_36]
  simp (disch := omega) only [s_1, s_2, s_3, s_4, s_76, s_5, s_6, s_7, s_8, s_9, s_10, s_11, s_12, s_13, s_14, s_15, s_16, s_17, s_18, s_19, s_20, s_21, s_22, s_23, s_24, s_25, s_26, s_27, s_28, s_29, s_30, s_31, s_32, s_33, s_34, s_35, s_36, s_37, s_38, s_39, s_40l, s_40i, s_40r, s_41, s_43, t_44, t_45, t_46, t_47, s_48, s_49, s_50, s_51, s_52, s_53, s_54, s_55, s_56, s_57, s_58, s_59, s_60, s_61, s_62_0, s_62_1, s_62_2, s_66, s_67, s_68, s_69, s_70, s_71, s_72, s_73, sws_n, sws_c, lget, lset, fget, fset, nolg, nolong, avc, stw, cnd, isobj_eo, GCi, GCn, retk, List.length_cons, List.length_nil, ↓reduceIte, and_true, true_and, not_true_eq_false, not_false_eq_true, forall_const, Nat.reduceAdd, Nat.reduceLT, Nat.reduceLeDiff, Nat.lt_add_one, Nat.le_refl, Nat.zero_le, Nat.sub_zero, Int.reduceEq, Int.reduceNe, Int.reduceLT, Int.reduceLE, Int.reduceAdd, Int.reduceSub, Int.reduceMul, Int.reduceNeg, Int.reduceTDiv, Int.reduceTMod, ne_eq, reduceCtorEq, Nat.reduceEqDiff, Int.cast_ofNat_Int, true_or, or_true, false_or, or_false, lcq_0, lcq_2, lcq_3, lcq_4, lcq_5, wu_s, wu_1, wu_w, wu_lt, wu_ne, ar_s, ar_n, rr_s, rr_n, ob_n, nz_c, lt_T, lt_F, le_T, le_F, ie_T, ie_F, nt_T, nt_F, nl_T, nl_F, in_T, and_false, false_and, and_self, not_true_eq_false, Int.toNat_natCast, Int.reduceToNat, if_true, if_false, mi_174, i174_0, i174_1, i174_4, i174_7, i174_8, i174_9, i174_10, i174_13, i174_16, i174_17, i174_18, i174_19, i174_22, i174_23, i174_24, i174_27, i174_28, i174_31, i174_32, i174_33, i174_37, i174_40, i174_41, i174_44, i174_45, i174_48, i174_49, i174_50, i174_53, i174_54, i174_57, i174_58, i174_61, i174_63, i174_66, i174_67, i174_68, i174_69, i174_72, i174_75, i174_76, i174_79, i174_80, i174_81, i174_82, i174_85, i174_88, i174_89, i174_92, i174_95, k3, k5, k14, k21, k154, k175, g11_1, g11_3, g11_4, g11_5, g2_5, ca_67 hH.1, fl_2, fl_4]
  have raw : Gm 3 [vr W.1] (wn W (eo 2 (fdf 2))) (fun r V => r = none ∧ V.1 = W.1 + 17 ∧ (∀ x, x < W.1 → V.2 x = W.2 x) ∧ MS V W.1 ∧ Ln V W.1) := x_newMud hw (fun V v1 v2 v3 v4 => ⟨rfl, v1, v2, v3, v4⟩)
  refine Gm_post (Gm_zero raw (hz.new trivial)) (fun r V q => ?_)
  obtain ⟨⟨rfl, v1, v2, v3, v4⟩, vz⟩ := q
  have e114 : V.2 114 = er 2 4 (rr W 114) := (v2 114 (by omega)).trans hH.2.2.2.2.1
  have e115 : V.2 115 = er 4 4 (rr W 115) := (v2 115 (by omega)).trans hH.2.2.2.2.2.1
  have e67 : V.2 67 = o11 (ob W 67) := (v2 67 (by omega)).trans (ca_67 hH.1)
  have z1 : Zw (wu V 114 (er 2 4 (fu (rr W 114) k (some W.1)))) := vz.upR e114 (by decide) (by omega) hk
  have f1 : ∀ x, x < W.1 → x ≠ 114 → (wu V 114 (er 2 4 (fu (rr W 114) k (some W.1)))).2 x = W.2 x := fun x a b => (wu_ne b).trans (v2 x a)
  have f2 : (wu V 114 (er 2 4 (fu (rr W 114) k (some W.1)))).2 114 = er 2 4 (fu (rr W 114) k (some W.1)) := wu_s
  have f3 : MS (wu V 114 (er 2 4 (fu (rr W 114) k (some W.1)))) W.1 := v3.ot (by omega)
  have f4 : Ln (wu V 114 (er 2 4 (fu (rr W 114) k (some W.1)))) W.1 := v4.cg (fun j _ => wu_ne (by omega))
  simp (disch := omega) only [s_1, s_2, s_3, s_4, s_76, s_5, s_6, s_7, s_8, s_9, s_10, s_11, s_12, s_13, s_14, s_15, s_16, s_17, s_18, s_19, s_20, s_21, s_22, s_23, s_24, s_25, s_26, s_27, s_28, s_29, s_30, s_31, s_32, s_33, s_34, s_35, s_36, s_37, s_38, s_39, s_40l, s_40i, s_40r, s_41, s_43, t_44, t_45, t_46, t_47, s_48, s_49, s_50, s_51, s_52, s_53, s_54, s_55, s_56, s_57, s_58, s_59, s_60, s_61, s_62_0, s_62_1, s_62_2, s_66, s_67, s_68, s_69, s_70, s_71, s_72, s_73, sws_n, sws_c, lget, lset, fget, fset, nolg, nolong, avc, stw, cnd, isobj_eo, GCi, GCn, retk, List.length_cons, List.length_nil, ↓reduceIte, and_true, true_and, not_true_eq_false, not_false_eq_true, forall_const, Nat.reduceAdd, Nat.reduceLT, Nat.reduceLeDiff, Nat.lt_add_one, Nat.le_refl, Nat.zero_le, Nat.sub_zero, Int.reduceEq, Int.reduceNe, Int.reduceLT, Int.reduceLE, Int.reduceAdd, Int.reduceSub, Int.reduceMul, Int.reduceNeg, Int.reduceTDiv, Int.reduceTMod, ne_eq, reduceCtorEq, Nat.reduceEqDiff, Int.cast_ofNat_Int, true_or, or_true, false_or, or_false, lcq_0, lcq_2, lcq_3, lcq_4, lcq_5, wu_s, wu_1, wu_w, wu_lt, wu_ne, ar_s, ar_n, rr_s, rr_n, ob_n, nz_c, lt_T, lt_F, le_T, le_F, ie_T, ie_F, nt_T, nt_F, nl_T, nl_F, in_T, and_false, false_and, and_self, not_true_eq_false, Int.toNat_natCast, Int.reduceToNat, if_true, if_false, mi_174, i174_0, i174_1, i174_4, i174_7, i174_8, i174_9, i174_10, i174_13, i174_16, i174_17, i174_18, i174_19, i174_22, i174_23, i174_24, i174_27, i174_28, i174_31, i174_32, i174_33, i174_37, i174_40, i174_41, i174_44, i174_45, i174_48, i174_49, i174_50, i174_53, i174_54, i174_57, i174_58, i174_61, i174_63, i174_66, i174_67, i174_68, i174_69, i174_72, i174_75, i174_76, i174_79, i174_80, i174_81, i174_82, i174_85, i174_88, i174_89, i174_92, i174_95, k3, k5, k14, k21, k154, k175, g11_1, g11_3, g11_4, g11_5, g2_5, e114, e67, ma_0 v3, fl_2, fl_4]
  have f0 : (wu V 114 (er 2 4 (fu (rr W 114) k (some W.1)))).1 = W.1 + 17 := v1
  have raw2 : Gm 5 [vr (wu V 114 (er 2 4 (fu (rr W 114) k (some W.1)))).1] (wn (wu V 114 (er 2 4 (fu (rr W 114) k (some W.1)))) (eo 4 (fdf 4))) (fun r U => r = none ∧ U.1 = (wu V 114 (er 2 4 (fu (rr W 114) k (some W.1)))).1 + 4 ∧ (∀ x, x < (wu V 114 (er 2 4 (fu (rr W 114) k (some W.1)))).1 → U.2 x = (wu V 114 (er 2 4 (fu (rr W 114) k (some W.1)))).2 x) ∧ NS U (wu V 114 (er 2 4 (fu (rr W 114) k (some W.1)))).1) := x_newNotes (by rw [f0]; omega) (fun V v1 v2 v3 => ⟨rfl, v1, v2, v3⟩)
  refine Gm_post (Gm_zero raw2 (z1.new trivial)) (fun r U q => ?_)
  obtain ⟨⟨rfl, u1, u2, u3⟩, uz⟩ := q
  rw [f0] at u1 u2 u3
  have g1 : ∀ x, x < W.1 → x ≠ 114 → U.2 x = W.2 x := fun x a b => (u2 x (by omega)).trans (f1 x a b)
  have g2 : U.2 114 = er 2 4 (fu (rr W 114) k (some W.1)) := (u2 114 (by omega)).trans f2
  have g3 : MS U W.1 := f3.cg (fun j q => u2 _ (by omega))
  have g4 : Ln U W.1 := f4.cg (fun j q => u2 _ (by omega))
  have g67 : U.2 67 = o11 (ob W 67) := (g1 67 (by omega) (by decide)).trans (ca_67 hH.1)
  have g115 : U.2 115 = er 4 4 (rr W 115) := (g1 115 (by omega) (by decide)).trans hH.2.2.2.2.2.1
  have v1' : V.1 = W.1 + 17 := v1
  rw [v1']
  have n0 : U.2 (W.1 + 17) = o4 (W.1 + 17) (ob U (W.1 + 17)) := u3.1
  simp (disch := omega) only [s_1, s_2, s_3, s_4, s_76, s_5, s_6, s_7, s_8, s_9, s_10, s_11, s_12, s_13, s_14, s_15, s_16, s_17, s_18, s_19, s_20, s_21, s_22, s_23, s_24, s_25, s_26, s_27, s_28, s_29, s_30, s_31, s_32, s_33, s_34, s_35, s_36, s_37, s_38, s_39, s_40l, s_40i, s_40r, s_41, s_43, t_44, t_45, t_46, t_47, s_48, s_49, s_50, s_51, s_52, s_53, s_54, s_55, s_56, s_57, s_58, s_59, s_60, s_61, s_62_0, s_62_1, s_62_2, s_66, s_67, s_68, s_69, s_70, s_71, s_72, s_73, sws_n, sws_c, lget, lset, fget, fset, nolg, nolong, avc, stw, cnd, isobj_eo, GCi, GCn, retk, List.length_cons, List.length_nil, ↓reduceIte, and_true, true_and, not_true_eq_false, not_false_eq_true, forall_const, Nat.reduceAdd, Nat.reduceLT, Nat.reduceLeDiff, Nat.lt_add_one, Nat.le_refl, Nat.zero_le, Nat.sub_zero, Int.reduceEq, Int.reduceNe, Int.reduceLT, Int.reduceLE, Int.reduceAdd, Int.reduceSub, Int.reduceMul, Int.reduceNeg, Int.reduceTDiv, Int.reduceTMod, ne_eq, reduceCtorEq, Nat.reduceEqDiff, Int.cast_ofNat_Int, true_or, or_true, false_or, or_false, lcq_0, lcq_2, lcq_3, lcq_4, lcq_5, wu_s, wu_1, wu_w, wu_lt, wu_ne, ar_s, ar_n, rr_s, rr_n, ob_n, nz_c, lt_T, lt_F, le_T, le_F, ie_T, ie_F, nt_T, nt_F, nl_T, nl_F, in_T, and_false, false_and, and_self, not_true_eq_false, Int.toNat_natCast, Int.reduceToNat, if_true, if_false, mi_174, i174_0, i174_1, i174_4, i174_7, i174_8, i174_9, i174_10, i174_13, i174_16, i174_17, i174_18, i174_19, i174_22, i174_23, i174_24, i174_27, i174_28, i174_31, i174_32, i174_33, i174_37, i174_40, i174_41, i174_44, i174_45, i174_48, i174_49, i174_50, i174_53, i174_54, i174_57, i174_58, i174_61, i174_63, i174_66, i174_67, i174_68, i174_69, i174_72, i174_75, i174_76, i174_79, i174_80, i174_81, i174_82, i174_85, i174_88, i174_89, i174_92, i174_95, k3, k5, k14, k21, k154, k175, g11_1, g11_3, g11_4, g11_5, g2_5, g67, g115, n0]
  have t1 : Zw (wu U 115 (er 4 4 (fu (rr W 115) k (some (W.1 + 17))))) := uz.upR g115 (by decide) (by omega) hk
  have t2 : ∀ x, x < W.1 → x ≠ 114 → x ≠ 115 → (wu U 115 (er 4 4 (fu (rr W 115) k (some (W.1 + 17))))).2 x = W.2 x := fun x a b d => (wu_ne d).trans (g1 x a b)
  have t3 : (wu U 115 (er 4 4 (fu (rr W 115) k (some (W.1 + 17))))).2 114 = er 2 4 (fu (rr W 114) k (some W.1)) := (wu_ne (by decide)).trans g2
  have t4 : (wu U 115 (er 4 4 (fu (rr W 115) k (some (W.1 + 17))))).2 115 = er 4 4 (fu (rr W 115) k (some (W.1 + 17))) := wu_s
  have t5 : MS (wu U 115 (er 4 4 (fu (rr W 115) k (some (W.1 + 17))))) W.1 := g3.ot (by omega)
  have t6 : Ln (wu U 115 (er 4 4 (fu (rr W 115) k (some (W.1 + 17))))) W.1 := g4.cg (fun j _ => wu_ne (by omega))
  have t7 : NS (wu U 115 (er 4 4 (fu (rr W 115) k (some (W.1 + 17))))) (W.1 + 17) := u3.cg (fun j _ => wu_ne (by omega))
  have t8 : (wu U 115 (er 4 4 (fu (rr W 115) k (some (W.1 + 17))))).1 = W.1 + 21 := u1
  generalize wu U 115 (er 4 4 (fu (rr W 115) k (some (W.1 + 17)))) = Z at t1 t2 t3 t4 t5 t6 t7 t8 ⊢
  have hHZ : CH Z := by
    obtain ⟨a1, a2, a3, ⟨mm, l0, a4⟩, a5, a6, a7, a8⟩ := hH
    refine ⟨a1.cg (by omega) (fun x q => t2 x ?_ ?_ ?_), a2.cg (fun j q => t2 _ (by omega) (by omega) (by omega)), a3.cg (fun j q => t2 _ (by omega) (by omega) (by omega)), ⟨mm, l0, by rw [t2 130 (by omega) (by decide) (by decide), ob_c (t2 130 (by omega) (by decide) (by decide))]; exact a4⟩, by rw [rr_er t3]; exact t3, by rw [rr_er t4]; exact t4, by rw [t2 116 (by omega) (by decide) (by decide), rr_c (t2 116 (by omega) (by decide) (by decide))]; exact a7, by rw [t2 117 (by omega) (by decide) (by decide), rr_c (t2 117 (by omega) (by decide) (by decide))]; exact a8⟩
    · have := cown_b x q; omega
    · have := (show ∀ x ∈ cown, x ≠ 114 ∧ x ≠ 115 by decide) x q; exact this.1
    · have := (show ∀ x ∈ cown, x ≠ 114 ∧ x ≠ 115 by decide) x q; exact this.2
  have hCZ : CC Z (sIm s k (cN Z W.1 (W.1 + 17))) := by
    have n2 : ∀ x, 192 ≤ x → x < W.1 → Z.2 x = W.2 x := fun x a b => t2 x b (by omega) (by omega)
    refine ⟨?_, b2.cg (fun j q => t2 _ (by omega) (by omega) (by omega)), by rw [ob_c (t2 67 (by omega) (by decide) (by decide))]; exact b3, by rw [ar_c (t2 118 (by omega) (by decide) (by decide))]; exact b4, fun x => if x < W.1 then ow x else if x < W.1 + 17 then 16 + k else 20 + k, fun j q => ?_, fun j q => ?_, fun j q => ?_⟩
    · rw [cN_c (fun j q => t2 _ (by omega) (by omega) (by omega)) (fun j q => t2 _ (by omega) (by omega) (by omega))]
      exact b1
    · obtain ⟨ll, c1, c2, c3⟩ := b5 j q
      have hb := c2.bd
      have e : Z.2 ll = W.2 ll := by
        obtain ⟨xa, xb, xc, xe, xf, st, d1, d2, -⟩ := id c2
        exact n2 ll d1 d2
      refine ⟨ll, by rw [rr_c (t2 116 (by omega) (by decide) (by decide))]; exact c1, c2.cg (by omega) n2, fun ca cb cc ce cf e2 x hx => ?_⟩
      rw [e] at e2
      dsimp only
      rw [if_pos (hb ca cb cc ce cf e2 x hx).2]
      exact c3 ca cb cc ce cf e2 x hx
    · obtain ⟨ll, c1, c2, c3⟩ := b6 j q
      have hb := c2.bd
      have e : Z.2 ll = W.2 ll := by
        obtain ⟨xa, xb, xc, xe, xf, kd, md, en, d1, -⟩ := id c2
        exact n2 ll d1.1 d1.2
      refine ⟨ll, by rw [rr_c (t2 117 (by omega) (by decide) (by decide))]; exact c1, c2.cg (by omega) n2, fun ca cb cc ce cf e2 x hx => ?_⟩
      rw [e] at e2
      dsimp only
      rw [if_pos (hb ca cb cc ce cf e2 x hx).2]
      exact c3 ca cb cc ce cf e2 x hx
    · rw [rr_er t3, rr_er t4]
      by_cases c1 : j = k
      · subst c1
        show ImC Z _ _ _ j (fu (sI s) j (some (cN Z W.1 (W.1 + 17))) j)
        rw [fu_eq, fu_eq, fu_eq]
        refine ⟨W.1, W.1 + 17, rfl, rfl, by omega, t5, t7, Sq2.rf, t6, fun i q => ?_, fun i q => ?_⟩
        · dsimp only
          rw [if_neg (by omega), if_pos (by omega)]
        · dsimp only
          rw [if_neg (by omega), if_neg (by omega)]
      · show ImC Z _ _ _ j (fu (sI s) k (some (cN Z W.1 (W.1 + 17))) j)
        rw [fu_ne _ _ c1, fu_ne _ _ c1, fu_ne _ _ c1]
        exact ((b7 j q).ow (fun x hx => if_pos hx)).cg (by omega) (fun x p q _ => n2 x p q)
  have hF := hS.f0
  have hN0 := hS.2.1
  have hN1 := hS.2.2.1
  refine x_imgDo1 (s := sIm s k (cN Z W.1 (W.1 + 17))) t1 hHZ hCZ (by show 0 ≤ sF s 0 5 ∧ sF s 0 5 ≤ 200 ∧ 0 ≤ sF s 0 6 ∧ sF s 0 6 ≤ 60; omega) hN0.2 hN1.2 hk (fu_eq _ _ _) (fun V a b => hQ V a ?_)
  have : sIm (sIm s k (cN Z W.1 (W.1 + 17))) k (sF s) = sIm s k (sF s) := by
    show (s.1, s.2.1, s.2.2.1, s.2.2.2.1, s.2.2.2.2.1, fu (fu (sI s) k (some (cN Z W.1 (W.1 + 17)))) k (some (sF s))) = _
    rw [fu_fu]
  rw [← this]
  exact b
theorem x_image1 (hz : Zw W) (hH : CH W) (hC : CC W s) (hS : SOK c s) (hg : hasF s ∧ 0 ≤ x ∧ x ≤ 3) (hQ : ∀ V, CH V → CC V (sIm s x.toNat (sF s)) → Q (some (vi (sF s 0 4))) V) : Gm 174 [vr 67, vi x] W Q := by
  have hw : 192 ≤ W.1 := hH.1.1
  obtain ⟨c1, c2⟩ := hg
  have c1' : ¬ sF s 0 0 = 0 := c1
  obtain ⟨k, rfl⟩ : ∃ k : Nat, x = k := ⟨x.toNat, by omega⟩
  rw [Int.toNat_natCast] at hQ
  have hF := hS.f0
  have hN0 := hS.2.1
  have hN1 := hS.2.2.1
  rw [e174]
  cases hi : sI s k with
  | none =>
    have b := hC.ni c2 (by rw [Int.toNat_natCast]; exact hi)
    rw [Int.toNat_natCast] at b
    simp (disch := omega) only [s_1, s_2, s_3, s_4, s_76, s_5, s_6, s_7, s_8, s_9, s_10, s_11, s_12, s_13, s_14, s_15, s_16, s_17, s_18, s_19, s_20, s_21, s_22, s_23, s_24, s_25, s_26, s_27, s_28, s_29, s_30, s_31, s_32, s_33, s_34, s_35, s_36, s_37, s_38, s_39, s_40l, s_40i, s_40r, s_41, s_43, t_44, t_45, t_46, t_47, s_48, s_49, s_50, s_51, s_52, s_53, s_54, s_55, s_56, s_57, s_58, s_59, s_60, s_61, s_62_0, s_62_1, s_62_2, s_66, s_67, s_68, s_69, s_70, s_71, s_72, s_73, sws_n, sws_c, lget, lset, fget, fset, nolg, nolong, avc, stw, cnd, isobj_eo, GCi, GCn, retk, List.length_cons, List.length_nil, ↓reduceIte, and_true, true_and, not_true_eq_false, not_false_eq_true, forall_const, Nat.reduceAdd, Nat.reduceLT, Nat.reduceLeDiff, Nat.lt_add_one, Nat.le_refl, Nat.zero_le, Nat.sub_zero, Int.reduceEq, Int.reduceNe, Int.reduceLT, Int.reduceLE, Int.reduceAdd, Int.reduceSub, Int.reduceMul, Int.reduceNeg, Int.reduceTDiv, Int.reduceTMod, ne_eq, reduceCtorEq, Nat.reduceEqDiff, Int.cast_ofNat_Int, true_or, or_true, false_or, or_false, lcq_0, lcq_2, lcq_3, lcq_4, lcq_5, wu_s, wu_1, wu_w, wu_lt, wu_ne, ar_s, ar_n, rr_s, rr_n, ob_n, nz_c, lt_T, lt_F, le_T, le_F, ie_T, ie_F, nt_T, nt_F, nl_T, nl_F, in_T, and_false, false_and, and_self, not_true_eq_false, Int.toNat_natCast, Int.reduceToNat, if_true, if_false, mi_174, i174_0, i174_1, i174_4, i174_7, i174_8, i174_9, i174_10, i174_13, i174_16, i174_17, i174_18, i174_19, i174_22, i174_23, i174_24, i174_27, i174_28, i174_31, i174_32, i174_33, i174_37, i174_40, i174_41, i174_44, i174_45, i174_48, i174_49, i174_50, i174_53, i174_54, i174_57, i174_58, i174_61, i174_63, i174_66, i174_67, i174_68, i174_69, i174_72, i174_75, i174_76, i174_79, i174_80, i174_81, i174_82, i174_85, i174_88, i174_89, i174_92, i174_95, k3, k5, k14, k21, k154, k175, g11_1, g11_3, g11_4, g11_5, g2_5, ca_67 hH.1, hH.2.2.2.2.1, hH.2.2.2.2.2.1, x_noFloor hH hC, bi_z, Classical.not_not, c1', m_within, c2, b.1, b.2]
    exact x_imgNew hz hH hC hS (by omega) hi hQ
  | some σ =>
    obtain ⟨m, n, b1, b2, -⟩ := hC.im c2 (by rw [Int.toNat_natCast]; exact hi)
    rw [Int.toNat_natCast] at b1 b2
    simp (disch := omega) only [s_1, s_2, s_3, s_4, s_76, s_5, s_6, s_7, s_8, s_9, s_10, s_11, s_12, s_13, s_14, s_15, s_16, s_17, s_18, s_19, s_20, s_21, s_22, s_23, s_24, s_25, s_26, s_27, s_28, s_29, s_30, s_31, s_32, s_33, s_34, s_35, s_36, s_37, s_38, s_39, s_40l, s_40i, s_40r, s_41, s_43, t_44, t_45, t_46, t_47, s_48, s_49, s_50, s_51, s_52, s_53, s_54, s_55, s_56, s_57, s_58, s_59, s_60, s_61, s_62_0, s_62_1, s_62_2, s_66, s_67, s_68, s_69, s_70, s_71, s_72, s_73, sws_n, sws_c, lget, lset, fget, fset, nolg, nolong, avc, stw, cnd, isobj_eo, GCi, GCn, retk, List.length_cons, List.length_nil, ↓reduceIte, and_true, true_and, not_true_eq_false, not_false_eq_true, forall_const, Nat.reduceAdd, Nat.reduceLT, Nat.reduceLeDiff, Nat.lt_add_one, Nat.le_refl, Nat.zero_le, Nat.sub_zero, Int.reduceEq, Int.reduceNe, Int.reduceLT, Int.reduceLE, Int.reduceAdd, Int.reduceSub, Int.reduceMul, Int.reduceNeg, Int.reduceTDiv, Int.reduceTMod, ne_eq, reduceCtorEq, Nat.reduceEqDiff, Int.cast_ofNat_Int, true_or, or_true, false_or, or_false, lcq_0, lcq_2, lcq_3, lcq_4, lcq_5, wu_s, wu_1, wu_w, wu_lt, wu_ne, ar_s, ar_n, rr_s, rr_n, ob_n, nz_c, lt_T, lt_F, le_T, le_F, ie_T, ie_F, nt_T, nt_F, nl_T, nl_F, in_T, and_false, false_and, and_self, not_true_eq_false, Int.toNat_natCast, Int.reduceToNat, if_true, if_false, mi_174, i174_0, i174_1, i174_4, i174_7, i174_8, i174_9, i174_10, i174_13, i174_16, i174_17, i174_18, i174_19, i174_22, i174_23, i174_24, i174_27, i174_28, i174_31, i174_32, i174_33, i174_37, i174_40, i174_41, i174_44, i174_45, i174_48, i174_49, i174_50, i174_53, i174_54, i174_57, i174_58, i174_61, i174_63, i174_66, i174_67, i174_68, i174_69, i174_72, i174_75, i174_76, i174_79, i174_80, i174_81, i174_82, i174_85, i174_88, i174_89, i174_92, i174_95, k3, k5, k14, k21, k154, k175, g11_1, g11_3, g11_4, g11_5, g2_5, ca_67 hH.1, hH.2.2.2.2.1, hH.2.2.2.2.2.1, x_noFloor hH hC, bi_z, Classical.not_not, c1', m_within, c2, b1, b2]
    have := x_imgDo1 (Q := Q) (bs := 3959) hz hH hC (by omega) hN0.2 hN1.2 (by omega) hi hQ
    exact G_bc this
theorem x_back0 (hH : CH W) (hC : CC W s) (hg : ¬ (0 ≤ x ∧ x ≤ 3) ∨ sI s x.toNat = none) (hQ : Q (some (vi (-1))) W) : Gm 176 [vr 67, vi x] W Q := by
  have hw : 192 ≤ W.1 := hH.1.1
  rw [e176]
  simp (disch := omega) only [s_1, s_2, s_3, s_4, s_76, s_5, s_6, s_7, s_8, s_9, s_10, s_11, s_12, s_13, s_14, s_15, s_16, s_17, s_18, s_19, s_20, s_21, s_22, s_23, s_24, s_25, s_26, s_27, s_28, s_29, s_30, s_31, s_32, s_33, s_34, s_35, s_36, s_37, s_38, s_39, s_40l, s_40i, s_40r, s_41, s_43, t_44, t_45, t_46, t_47, s_48, s_49, s_50, s_51, s_52, s_53, s_54, s_55, s_56, s_57, s_58, s_59, s_60, s_61, s_62_0, s_62_1, s_62_2, s_66, s_67, s_68, s_69, s_70, s_71, s_72, s_73, sws_n, sws_c, lget, lset, fget, fset, nolg, nolong, avc, stw, cnd, isobj_eo, GCi, GCn, retk, List.length_cons, List.length_nil, ↓reduceIte, and_true, true_and, not_true_eq_false, not_false_eq_true, forall_const, Nat.reduceAdd, Nat.reduceLT, Nat.reduceLeDiff, Nat.lt_add_one, Nat.le_refl, Nat.zero_le, Nat.sub_zero, Int.reduceEq, Int.reduceNe, Int.reduceLT, Int.reduceLE, Int.reduceAdd, Int.reduceSub, Int.reduceMul, Int.reduceNeg, Int.reduceTDiv, Int.reduceTMod, ne_eq, reduceCtorEq, Nat.reduceEqDiff, Int.cast_ofNat_Int, true_or, or_true, false_or, or_false, lcq_0, lcq_2, lcq_3, lcq_4, lcq_5, wu_s, wu_1, wu_w, wu_lt, wu_ne, ar_s, ar_n, rr_s, rr_n, ob_n, nz_c, lt_T, lt_F, le_T, le_F, ie_T, ie_F, nt_T, nt_F, nl_T, nl_F, in_T, and_false, false_and, and_self, not_true_eq_false, Int.toNat_natCast, Int.reduceToNat, if_true, if_false, mi_176, i176_0, i176_1, i176_2, i176_5, i176_8, i176_9, i176_10, i176_11, i176_14, i176_15, i176_18, i176_19, i176_20, i176_23, i176_24, i176_27, i176_28, i176_31, i176_32, i176_33, i176_36, i176_37, i176_40, i176_43, k154, k159, k175, g11_1, g11_3, g11_4, g11_5, g2_5, ca_67 hH.1, x_isImage0 hH hC hg]
  exact hQ
theorem x_back1 (hz : Zw W) (hH : CH W) (hC : CC W s) (hx : 0 ≤ x ∧ x ≤ 3) (hi : sI s x.toNat = some σ) (hN : FN c σ) (hQ : ∀ V, CH V → CC V (σ, s.2) → Q (some (vi (σ 0 4))) V) : Gm 176 [vr 67, vi x] W Q := by
  have hw : 192 ≤ W.1 := hH.1.1
  obtain ⟨m, n, i1, i2, i3, i4, i5, i6, i7⟩ := hC.im hx hi
  have f5 := hN.1.2.2.1
  have f6 := hN.2.2.2.2.1
  have e5 : ob W (m + 9) 0 = σ 0 5 := i6.1.1.2.2.2.2.2.1
  have e6 : ob W n 0 = σ 0 6 := i6.2.1
  rw [e176]
  simp (disch := omega) only [s_1, s_2, s_3, s_4, s_76, s_5, s_6, s_7, s_8, s_9, s_10, s_11, s_12, s_13, s_14, s_15, s_16, s_17, s_18, s_19, s_20, s_21, s_22, s_23, s_24, s_25, s_26, s_27, s_28, s_29, s_30, s_31, s_32, s_33, s_34, s_35, s_36, s_37, s_38, s_39, s_40l, s_40i, s_40r, s_41, s_43, t_44, t_45, t_46, t_47, s_48, s_49, s_50, s_51, s_52, s_53, s_54, s_55, s_56, s_57, s_58, s_59, s_60, s_61, s_62_0, s_62_1, s_62_2, s_66, s_67, s_68, s_69, s_70, s_71, s_72, s_73, sws_n, sws_c, lget, lset, fget, fset, nolg, nolong, avc, stw, cnd, isobj_eo, GCi, GCn, retk, List.length_cons, List.length_nil, ↓reduceIte, and_true, true_and, not_true_eq_false, not_false_eq_true, forall_const, Nat.reduceAdd, Nat.reduceLT, Nat.reduceLeDiff, Nat.lt_add_one, Nat.le_refl, Nat.zero_le, Nat.sub_zero, Int.reduceEq, Int.reduceNe, Int.reduceLT, Int.reduceLE, Int.reduceAdd, Int.reduceSub, Int.reduceMul, Int.reduceNeg, Int.reduceTDiv, Int.reduceTMod, ne_eq, reduceCtorEq, Nat.reduceEqDiff, Int.cast_ofNat_Int, true_or, or_true, false_or, or_false, lcq_0, lcq_2, lcq_3, lcq_4, lcq_5, wu_s, wu_1, wu_w, wu_lt, wu_ne, ar_s, ar_n, rr_s, rr_n, ob_n, nz_c, lt_T, lt_F, le_T, le_F, ie_T, ie_F, nt_T, nt_F, nl_T, nl_F, in_T, and_false, false_and, and_self, not_true_eq_false, Int.toNat_natCast, Int.reduceToNat, if_true, if_false, mi_176, i176_0, i176_1, i176_2, i176_5, i176_8, i176_9, i176_10, i176_11, i176_14, i176_15, i176_18, i176_19, i176_20, i176_23, i176_24, i176_27, i176_28, i176_31, i176_32, i176_33, i176_36, i176_37, i176_40, i176_43, k154, k159, k175, g11_1, g11_3, g11_4, g11_5, g2_5, ca_67 hH.1, hH.2.2.2.2.1, mv76_0 hH.2.1, x_isImage1 hH hC hx hi, i1]
  have raw : Gm 154 [vr 76, vr m] W (fun r V => r = none ∧ V.1 = W.1 ∧ (∀ x, x < 76 ∨ 92 < x → V.2 x = W.2 x) ∧ MS V 76 ∧ Sq (cF V 76) (cF W m) ∧ Ln V 76) := x_become (d := 76) (o := m) hz hH.2.1 i4 (by omega) (by omega) (by omega) (by rw [e5]; exact f5) i7 (fun V v1 v2 v3 v4 v5 => ⟨rfl, v1, v2, v3, v4, v5⟩)
  refine Gm_post (Gm_zero raw hz) (fun r V q => ?_)
  obtain ⟨⟨rfl, v1, v2, v3, v4, v5⟩, vz⟩ := q
  have wV : 192 ≤ V.1 := by omega
  have cV : CS V := hH.1.cg (by omega) (fun k q => v2 k (by have := (show ∀ k ∈ cown, ¬ (76 ≤ k ∧ k ≤ 92) by decide) k q; omega))
  have r5 : V.2 115 = er 4 4 (rr W 115) := (v2 115 (by omega)).trans hH.2.2.2.2.2.1
  have i5V : NS V n := i5.cg (fun j q => v2 _ (by omega))
  have o110 : ob V n 0 = σ 0 6 := by rw [ob_c (v2 n (by omega))]; exact e6
  simp (disch := omega) only [s_1, s_2, s_3, s_4, s_76, s_5, s_6, s_7, s_8, s_9, s_10, s_11, s_12, s_13, s_14, s_15, s_16, s_17, s_18, s_19, s_20, s_21, s_22, s_23, s_24, s_25, s_26, s_27, s_28, s_29, s_30, s_31, s_32, s_33, s_34, s_35, s_36, s_37, s_38, s_39, s_40l, s_40i, s_40r, s_41, s_43, t_44, t_45, t_46, t_47, s_48, s_49, s_50, s_51, s_52, s_53, s_54, s_55, s_56, s_57, s_58, s_59, s_60, s_61, s_62_0, s_62_1, s_62_2, s_66, s_67, s_68, s_69, s_70, s_71, s_72, s_73, sws_n, sws_c, lget, lset, fget, fset, nolg, nolong, avc, stw, cnd, isobj_eo, GCi, GCn, retk, List.length_cons, List.length_nil, ↓reduceIte, and_true, true_and, not_true_eq_false, not_false_eq_true, forall_const, Nat.reduceAdd, Nat.reduceLT, Nat.reduceLeDiff, Nat.lt_add_one, Nat.le_refl, Nat.zero_le, Nat.sub_zero, Int.reduceEq, Int.reduceNe, Int.reduceLT, Int.reduceLE, Int.reduceAdd, Int.reduceSub, Int.reduceMul, Int.reduceNeg, Int.reduceTDiv, Int.reduceTMod, ne_eq, reduceCtorEq, Nat.reduceEqDiff, Int.cast_ofNat_Int, true_or, or_true, false_or, or_false, lcq_0, lcq_2, lcq_3, lcq_4, lcq_5, wu_s, wu_1, wu_w, wu_lt, wu_ne, ar_s, ar_n, rr_s, rr_n, ob_n, nz_c, lt_T, lt_F, le_T, le_F, ie_T, ie_F, nt_T, nt_F, nl_T, nl_F, in_T, and_false, false_and, and_self, not_true_eq_false, Int.toNat_natCast, Int.reduceToNat, if_true, if_false, mi_176, i176_0, i176_1, i176_2, i176_5, i176_8, i176_9, i176_10, i176_11, i176_14, i176_15, i176_18, i176_19, i176_20, i176_23, i176_24, i176_27, i176_28, i176_31, i176_32, i176_33, i176_36, i176_37, i176_40, i176_43, k154, k159, k175, g11_1, g11_3, g11_4, g11_5, g2_5, ca_67 cV, r5, ca_110 cV, i2]
  refine x_nbecome (d := 110) (o := n) vz (ns110 cV) i5V (by omega) (by omega) (by omega) (by rw [o110]; exact f6) (fun U u1 u2 u3 u4 u5 u6 u7 => ?_)
  have wU : 192 ≤ U.1 := by omega
  have all : ∀ x, x < 76 ∨ 92 < x → x < 110 ∨ 113 < x → U.2 x = W.2 x := fun x a b => (u2 x b).trans (v2 x a)
  have mU : ∀ j, j ≤ 16 → U.2 (76 + j) = V.2 (76 + j) := fun j q => u2 _ (by omega)
  have cU : CS U := cV.of (by omega) (by rw [u2 67 (by omega), ob_c (u2 67 (by omega))]; exact ca_67 cV) u3.1 u3.2.1 u3.2.2.1 u3.2.2.2 (fun k q p1 p2 => u2 k (by omega))
  have hHU : CH U := by
    obtain ⟨-, -, a3, ⟨mm, l0, a4⟩, a5, a6, a7, a8⟩ := hH
    exact ⟨cU, v3.cg mU, a3.cg (fun j q => all _ (by omega) (by omega)), ⟨mm, l0, by rw [all 130 (by omega) (by omega), ob_c (all 130 (by omega) (by omega))]; exact a4⟩, by rw [all 114 (by omega) (by omega), rr_c (all 114 (by omega) (by omega))]; exact a5, by rw [all 115 (by omega) (by omega), rr_c (all 115 (by omega) (by omega))]; exact a6, by rw [all 116 (by omega) (by omega), rr_c (all 116 (by omega) (by omega))]; exact a7, by rw [all 117 (by omega) (by omega), rr_c (all 117 (by omega) (by omega))]; exact a8⟩
  have hs2 : Sq2 (cN U 76 110) (cN W m n) := by
    refine ⟨?_, ?_, fun i hi => ?_, ?_, ?_⟩
    · show Sq (cF U 76) (cF W m)
      rw [cF_c (fun j q _ => mU j q)]
      exact v4
    · show ob U 110 0 = ob W n 0
      rw [u4, ob_c (v2 n (by omega))]
    · have hi2 : (i : Int) < 7 * ob U 110 0 := hi
      rw [u4] at hi2
      rw [cN_15, cN_15, u5 i hi2, ar_c (v2 (n + 1) (by omega))]
    · rw [cN_16, cN_16, u6, ar_c (v2 (n + 2) (by omega))]
    · rw [cN_17, cN_17, u7, ar_c (v2 (n + 3) (by omega))]
  have hCU : CC U (σ, s.2) := hC.al (by omega) (fun k q => all k (by omega) (by omega)) (fun k p q => all k (by omega) (by omega)) (hs2.tr i6) (v5.cg mU)
  have eU := hCU.v.2.2.2.2.1
  simp (disch := omega) only [s_1, s_2, s_3, s_4, s_76, s_5, s_6, s_7, s_8, s_9, s_10, s_11, s_12, s_13, s_14, s_15, s_16, s_17, s_18, s_19, s_20, s_21, s_22, s_23, s_24, s_25, s_26, s_27, s_28, s_29, s_30, s_31, s_32, s_33, s_34, s_35, s_36, s_37, s_38, s_39, s_40l, s_40i, s_40r, s_41, s_43, t_44, t_45, t_46, t_47, s_48, s_49, s_50, s_51, s_52, s_53, s_54, s_55, s_56, s_57, s_58, s_59, s_60, s_61, s_62_0, s_62_1, s_62_2, s_66, s_67, s_68, s_69, s_70, s_71, s_72, s_73, sws_n, sws_c, lget, lset, fget, fset, nolg, nolong, avc, stw, cnd, isobj_eo, GCi, GCn, retk, List.length_cons, List.length_nil, ↓reduceIte, and_true, true_and, not_true_eq_false, not_false_eq_true, forall_const, Nat.reduceAdd, Nat.reduceLT, Nat.reduceLeDiff, Nat.lt_add_one, Nat.le_refl, Nat.zero_le, Nat.sub_zero, Int.reduceEq, Int.reduceNe, Int.reduceLT, Int.reduceLE, Int.reduceAdd, Int.reduceSub, Int.reduceMul, Int.reduceNeg, Int.reduceTDiv, Int.reduceTMod, ne_eq, reduceCtorEq, Nat.reduceEqDiff, Int.cast_ofNat_Int, true_or, or_true, false_or, or_false, lcq_0, lcq_2, lcq_3, lcq_4, lcq_5, wu_s, wu_1, wu_w, wu_lt, wu_ne, ar_s, ar_n, rr_s, rr_n, ob_n, nz_c, lt_T, lt_F, le_T, le_F, ie_T, ie_F, nt_T, nt_F, nl_T, nl_F, in_T, and_false, false_and, and_self, not_true_eq_false, Int.toNat_natCast, Int.reduceToNat, if_true, if_false, mi_176, i176_0, i176_1, i176_2, i176_5, i176_8, i176_9, i176_10, i176_11, i176_14, i176_15, i176_18, i176_19, i176_20, i176_23, i176_24, i176_27, i176_28, i176_31, i176_32, i176_33, i176_36, i176_37, i176_40, i176_43, k154, k159, k175, g11_1, g11_3, g11_4, g11_5, g2_5, ca_67 cU, mv76_0 hHU.2.1, eU]
  exact hQ U hHU hCU
-- the reference
theorem y_image0 (hR : KR W s) (hS : SOK c s) (hg : ¬ (hasF s ∧ 0 ≤ x ∧ x ≤ 3)) (hQ : Q (some (vi (-1))) W) : Gm 275 [vr 148, vi x] W Q := by
  have hw : 192 ≤ W.1 := hR.1.1
  have f0 := hS.f0.1
  rw [e275]
  by_cases c2 : 0 ≤ x ∧ x ≤ 3
  · have c1 : ¬ 0 < sF s 0 0 := fun q => hg ⟨f0.mp q, c2⟩
    simp (disch := omega) only [s_1, s_2, s_3, s_4, s_76, s_5, s_6, s_7, s_8, s_9, s_10, s_11, s_12, s_13, s_14, s_15, s_16, s_17, s_18, s_19, s_20, s_21, s_22, s_23, s_24, s_25, s_26, s_27, s_28, s_29, s_30, s_31, s_32, s_33, s_34, s_35, s_36, s_37, s_38, s_39, s_40l, s_40i, s_40r, s_41, s_43, t_44, t_45, t_46, t_47, s_48, s_49, s_50, s_51, s_52, s_53, s_54, s_55, s_56, s_57, s_58, s_59, s_60, s_61, s_62_0, s_62_1, s_62_2, s_66, s_67, s_68, s_69, s_70, s_71, s_72, s_73, sws_n, sws_c, lget, lset, fget, fset, nolg, nolong, avc, stw, cnd, isobj_eo, GCi, GCn, retk, List.length_cons, List.length_nil, ↓reduceIte, and_true, true_and, not_true_eq_false, not_false_eq_true, forall_const, Nat.reduceAdd, Nat.reduceLT, Nat.reduceLeDiff, Nat.lt_add_one, Nat.le_refl, Nat.zero_le, Nat.sub_zero, Int.reduceEq, Int.reduceNe, Int.reduceLT, Int.reduceLE, Int.reduceAdd, Int.reduceSub, Int.reduceMul, Int.reduceNeg, Int.reduceTDiv, Int.reduceTMod, ne_eq, reduceCtorEq, Nat.reduceEqDiff, Int.cast_ofNat_Int, true_or, or_true, false_or, or_false, lcq_0, lcq_2, lcq_3, lcq_4, lcq_5, wu_s, wu_1, wu_w, wu_lt, wu_ne, ar_s, ar_n, rr_s, rr_n, ob_n, nz_c, lt_T, lt_F, le_T, le_F, ie_T, ie_F, nt_T, nt_F, nl_T, nl_F, in_T, and_false, false_and, and_self, not_true_eq_false, Int.toNat_natCast, Int.reduceToNat, if_true, if_false, mi_275, i275_0, i275_1, i275_2, i275_3, i275_6, i275_9, i275_12, i275_13, i275_16, i275_19, i275_20, i275_21, i275_22, i275_25, i275_26, i275_27, i275_28, i275_29, i275_30, i275_31, i275_34, i275_35, i275_38, i275_39, i275_40, k179, k183, k276, g12_2, g12_55, ra_148 hR.1, y_isFloor hR, m_in, bi_z, Classical.not_not, c1, c2]
    exact hQ
  · simp (disch := omega) only [s_1, s_2, s_3, s_4, s_76, s_5, s_6, s_7, s_8, s_9, s_10, s_11, s_12, s_13, s_14, s_15, s_16, s_17, s_18, s_19, s_20, s_21, s_22, s_23, s_24, s_25, s_26, s_27, s_28, s_29, s_30, s_31, s_32, s_33, s_34, s_35, s_36, s_37, s_38, s_39, s_40l, s_40i, s_40r, s_41, s_43, t_44, t_45, t_46, t_47, s_48, s_49, s_50, s_51, s_52, s_53, s_54, s_55, s_56, s_57, s_58, s_59, s_60, s_61, s_62_0, s_62_1, s_62_2, s_66, s_67, s_68, s_69, s_70, s_71, s_72, s_73, sws_n, sws_c, lget, lset, fget, fset, nolg, nolong, avc, stw, cnd, isobj_eo, GCi, GCn, retk, List.length_cons, List.length_nil, ↓reduceIte, and_true, true_and, not_true_eq_false, not_false_eq_true, forall_const, Nat.reduceAdd, Nat.reduceLT, Nat.reduceLeDiff, Nat.lt_add_one, Nat.le_refl, Nat.zero_le, Nat.sub_zero, Int.reduceEq, Int.reduceNe, Int.reduceLT, Int.reduceLE, Int.reduceAdd, Int.reduceSub, Int.reduceMul, Int.reduceNeg, Int.reduceTDiv, Int.reduceTMod, ne_eq, reduceCtorEq, Nat.reduceEqDiff, Int.cast_ofNat_Int, true_or, or_true, false_or, or_false, lcq_0, lcq_2, lcq_3, lcq_4, lcq_5, wu_s, wu_1, wu_w, wu_lt, wu_ne, ar_s, ar_n, rr_s, rr_n, ob_n, nz_c, lt_T, lt_F, le_T, le_F, ie_T, ie_F, nt_T, nt_F, nl_T, nl_F, in_T, and_false, false_and, and_self, not_true_eq_false, Int.toNat_natCast, Int.reduceToNat, if_true, if_false, mi_275, i275_0, i275_1, i275_2, i275_3, i275_6, i275_9, i275_12, i275_13, i275_16, i275_19, i275_20, i275_21, i275_22, i275_25, i275_26, i275_27, i275_28, i275_29, i275_30, i275_31, i275_34, i275_35, i275_38, i275_39, i275_40, k179, k183, k276, g12_2, g12_55, ra_148 hR.1, m_in, bi_z, Classical.not_not, c2]
    exact hQ
theorem okt_1 : okt 2 1 = True := eq_true (Or.inr rfl)
theorem y_image1 (hR : KR W s) (hz : Zw W) (hS : SOK c s) (hg : hasF s ∧ 0 ≤ x ∧ x ≤ 3) (hQ : ∀ V, KR V (sIm s x.toNat (sF s)) → Q (some (vi (sF s 0 4))) V) : Gm 275 [vr 148, vi x] W Q := by
  have hw : 192 ≤ W.1 := hR.1.1
  obtain ⟨c1, c2⟩ := hg
  have c1' := hS.f0.1.mpr c1
  obtain ⟨k, rfl⟩ : ∃ k : Nat, x = k := ⟨x.toNat, by omega⟩
  rw [Int.toNat_natCast] at hQ
  have r1 : RS (wu W 191 (ea 2 5 (fu (ar W 191) k 1))) := ru_191 hR.1
  have z1 : Zw (wu W 191 (ea 2 5 (fu (ar W 191) k 1))) := hz.upA (ra_191 hR.1) (by decide) (by omega) (by omega)
  rw [e275]
  simp (disch := omega) only [s_1, s_2, s_3, s_4, s_76, s_5, s_6, s_7, s_8, s_9, s_10, s_11, s_12, s_13, s_14, s_15, s_16, s_17, s_18, s_19, s_20, s_21, s_22, s_23, s_24, s_25, s_26, s_27, s_28, s_29, s_30, s_31, s_32, s_33, s_34, s_35, s_36, s_37, s_38, s_39, s_40l, s_40i, s_40r, s_41, s_43, t_44, t_45, t_46, t_47, s_48, s_49, s_50, s_51, s_52, s_53, s_54, s_55, s_56, s_57, s_58, s_59, s_60, s_61, s_62_0, s_62_1, s_62_2, s_66, s_67, s_68, s_69, s_70, s_71, s_72, s_73, sws_n, sws_c, lget, lset, fget, fset, nolg, nolong, avc, stw, cnd, isobj_eo, GCi, GCn, retk, List.length_cons, List.length_nil, ↓reduceIte, and_true, true_and, not_true_eq_false, not_false_eq_true, forall_const, Nat.reduceAdd, Nat.reduceLT, Nat.reduceLeDiff, Nat.lt_add_one, Nat.le_refl, Nat.zero_le, Nat.sub_zero, Int.reduceEq, Int.reduceNe, Int.reduceLT, Int.reduceLE, Int.reduceAdd, Int.reduceSub, Int.reduceMul, Int.reduceNeg, Int.reduceTDiv, Int.reduceTMod, ne_eq, reduceCtorEq, Nat.reduceEqDiff, Int.cast_ofNat_Int, true_or, or_true, false_or, or_false, lcq_0, lcq_2, lcq_3, lcq_4, lcq_5, wu_s, wu_1, wu_w, wu_lt, wu_ne, ar_s, ar_n, rr_s, rr_n, ob_n, nz_c, lt_T, lt_F, le_T, le_F, ie_T, ie_F, nt_T, nt_F, nl_T, nl_F, in_T, and_false, false_and, and_self, not_true_eq_false, Int.toNat_natCast, Int.reduceToNat, if_true, if_false, mi_275, i275_0, i275_1, i275_2, i275_3, i275_6, i275_9, i275_12, i275_13, i275_16, i275_19, i275_20, i275_21, i275_22, i275_25, i275_26, i275_27, i275_28, i275_29, i275_30, i275_31, i275_34, i275_35, i275_38, i275_39, i275_40, k179, k183, k276, g12_2, g12_55, ra_148 hR.1, ra_191 hR.1, y_isFloor hR, m_in, bi_z, Classical.not_not, c1', c2, okt_1]
  have raw : Gm 276 [vr 148, vi (k : Int), vi 0] (wu W 191 (ea 2 5 (fu (ar W 191) k 1))) (fun r V => r = none ∧ IvF (wu W 191 (ea 2 5 (fu (ar W 191) k 1))) k 18 V) := y_carriesF r1 (by omega) (fun V h => ⟨rfl, h⟩)
  refine Gm_post (Gm_zero raw z1) (fun r V q => ?_)
  obtain ⟨⟨rfl, hv⟩, vz⟩ := q
  have eI := hv.im z1 r1
  rw [rF_o (by omega), hR.2.2.1] at eI
  have eO := fun k2 h => hv.ot (k2 := k2) h
  obtain ⟨⟨v1, v2, v3, v4, v5, v6⟩, -⟩ := hv
  have wV : 192 ≤ V.1 := v1.1
  have vw : ∀ y, y ≠ 148 → y ≠ 188 → y ≠ 191 → V.2 y = W.2 y := fun y a b d => (v3 y a b).trans (wu_ne d)
  have n4 : Nm W V := (Nm.c (W := W) (wu_ne (by decide))).tr v4
  have e191 : ar V 191 = fu (ar W 191) k 1 := by rw [ar_c (v3 191 (by decide) (by decide)), ar_s]
  have hKV : KR V (sIm s k (sF s)) := by
    obtain ⟨a1, a2, a3, a4, a5, a6, a7, a8⟩ := hR
    refine ⟨v1, fun j p q => by rw [vw j (by omega) (by omega) (by omega)]; exact a2 j p q, by rw [rF_c (fun j p q => vw j (by omega) (by omega) (by omega))]; exact a3, by rw [n4.2.2.1, n4.2.2.2, n4.2.1, n4.1]; exact a4, by rw [ar_c (vw 167 (by decide) (by decide) (by decide))]; exact a5, fun j q => (a6 j q).cg (fun i p q => vw i (by omega) (by omega) (by omega)), fun j q => ⟨(a7 j q).1.cg (a7 j q).2 (fun i p q => vw i (by omega) (by omega) (by omega)), (a7 j q).2⟩, fun j q => ?_⟩
    show ImR V j (fu (sI s) k (some (sF s)) j)
    by_cases cj : j = k
    · subst cj
      rw [fu_eq]
      exact ⟨by rw [e191, fu_eq], eI⟩
    · rw [fu_ne _ _ cj]
      have h8 := a8 j q
      have e2 : ar V 191 j = ar W 191 j := by rw [e191, fu_ne _ _ cj]
      have e3 : iR V j = iR W j := (eO j cj).trans (iR_c (wu_ne (by decide)))
      cases hj : sI s j with
      | none => rw [hj] at h8; show ar V 191 j = 0; rw [e2]; exact h8
      | some σ => rw [hj] at h8; show ar V 191 j = 1 ∧ iR V j = σ; rw [e2, e3]; exact h8
  have e0 : ar V 149 = sF s 0 := hKV.f 0 (by decide)
  simp (disch := omega) only [s_1, s_2, s_3, s_4, s_76, s_5, s_6, s_7, s_8, s_9, s_10, s_11, s_12, s_13, s_14, s_15, s_16, s_17, s_18, s_19, s_20, s_21, s_22, s_23, s_24, s_25, s_26, s_27, s_28, s_29, s_30, s_31, s_32, s_33, s_34, s_35, s_36, s_37, s_38, s_39, s_40l, s_40i, s_40r, s_41, s_43, t_44, t_45, t_46, t_47, s_48, s_49, s_50, s_51, s_52, s_53, s_54, s_55, s_56, s_57, s_58, s_59, s_60, s_61, s_62_0, s_62_1, s_62_2, s_66, s_67, s_68, s_69, s_70, s_71, s_72, s_73, sws_n, sws_c, lget, lset, fget, fset, nolg, nolong, avc, stw, cnd, isobj_eo, GCi, GCn, retk, List.length_cons, List.length_nil, ↓reduceIte, and_true, true_and, not_true_eq_false, not_false_eq_true, forall_const, Nat.reduceAdd, Nat.reduceLT, Nat.reduceLeDiff, Nat.lt_add_one, Nat.le_refl, Nat.zero_le, Nat.sub_zero, Int.reduceEq, Int.reduceNe, Int.reduceLT, Int.reduceLE, Int.reduceAdd, Int.reduceSub, Int.reduceMul, Int.reduceNeg, Int.reduceTDiv, Int.reduceTMod, ne_eq, reduceCtorEq, Nat.reduceEqDiff, Int.cast_ofNat_Int, true_or, or_true, false_or, or_false, lcq_0, lcq_2, lcq_3, lcq_4, lcq_5, wu_s, wu_1, wu_w, wu_lt, wu_ne, ar_s, ar_n, rr_s, rr_n, ob_n, nz_c, lt_T, lt_F, le_T, le_F, ie_T, ie_F, nt_T, nt_F, nl_T, nl_F, in_T, and_false, false_and, and_self, not_true_eq_false, Int.toNat_natCast, Int.reduceToNat, if_true, if_false, mi_275, i275_0, i275_1, i275_2, i275_3, i275_6, i275_9, i275_12, i275_13, i275_16, i275_19, i275_20, i275_21, i275_22, i275_25, i275_26, i275_27, i275_28, i275_29, i275_30, i275_31, i275_34, i275_35, i275_38, i275_39, i275_40, k179, k183, k276, g12_2, g12_55, ra_148 v1, ra_149 v1, e0]
  exact hQ V hKV
theorem y_back0 (hR : KR W s) (hg : ¬ (0 ≤ x ∧ x ≤ 3) ∨ sI s x.toNat = none) (hQ : Q (some (vi (-1))) W) : Gm 278 [vr 148, vi x] W Q := by
  have hw : 192 ≤ W.1 := hR.1.1
  rw [e278]
  by_cases c2 : 0 ≤ x ∧ x ≤ 3
  · have h := hR.im c2
    rw [hg.resolve_left (fun q => q c2)] at h
    have m1 : ar W 191 x.toNat = 0 := h
    simp (disch := omega) only [s_1, s_2, s_3, s_4, s_76, s_5, s_6, s_7, s_8, s_9, s_10, s_11, s_12, s_13, s_14, s_15, s_16, s_17, s_18, s_19, s_20, s_21, s_22, s_23, s_24, s_25, s_26, s_27, s_28, s_29, s_30, s_31, s_32, s_33, s_34, s_35, s_36, s_37, s_38, s_39, s_40l, s_40i, s_40r, s_41, s_43, t_44, t_45, t_46, t_47, s_48, s_49, s_50, s_51, s_52, s_53, s_54, s_55, s_56, s_57, s_58, s_59, s_60, s_61, s_62_0, s_62_1, s_62_2, s_66, s_67, s_68, s_69, s_70, s_71, s_72, s_73, sws_n, sws_c, lget, lset, fget, fset, nolg, nolong, avc, stw, cnd, isobj_eo, GCi, GCn, retk, List.length_cons, List.length_nil, ↓reduceIte, and_true, true_and, not_true_eq_false, not_false_eq_true, forall_const, Nat.reduceAdd, Nat.reduceLT, Nat.reduceLeDiff, Nat.lt_add_one, Nat.le_refl, Nat.zero_le, Nat.sub_zero, Int.reduceEq, Int.reduceNe, Int.reduceLT, Int.reduceLE, Int.reduceAdd, Int.reduceSub, Int.reduceMul, Int.reduceNeg, Int.reduceTDiv, Int.reduceTMod, ne_eq, reduceCtorEq, Nat.reduceEqDiff, Int.cast_ofNat_Int, true_or, or_true, false_or, or_false, lcq_0, lcq_2, lcq_3, lcq_4, lcq_5, wu_s, wu_1, wu_w, wu_lt, wu_ne, ar_s, ar_n, rr_s, rr_n, ob_n, nz_c, lt_T, lt_F, le_T, le_F, ie_T, ie_F, nt_T, nt_F, nl_T, nl_F, in_T, and_false, false_and, and_self, not_true_eq_false, Int.toNat_natCast, Int.reduceToNat, if_true, if_false, mi_278, i278_0, i278_1, i278_2, i278_3, i278_6, i278_9, i278_12, i278_13, i278_16, i278_17, i278_18, i278_21, i278_22, i278_23, i278_24, i278_25, i278_26, i278_29, i278_30, i278_33, i278_34, i278_35, k179, k276, g12_2, g12_55, ra_148 hR.1, ra_191 hR.1, m_in, bi_z, Classical.not_not, c2, m1]
    exact hQ
  · simp (disch := omega) only [s_1, s_2, s_3, s_4, s_76, s_5, s_6, s_7, s_8, s_9, s_10, s_11, s_12, s_13, s_14, s_15, s_16, s_17, s_18, s_19, s_20, s_21, s_22, s_23, s_24, s_25, s_26, s_27, s_28, s_29, s_30, s_31, s_32, s_33, s_34, s_35, s_36, s_37, s_38, s_39, s_40l, s_40i, s_40r, s_41, s_43, t_44, t_45, t_46, t_47, s_48, s_49, s_50, s_51, s_52, s_53, s_54, s_55, s_56, s_57, s_58, s_59, s_60, s_61, s_62_0, s_62_1, s_62_2, s_66, s_67, s_68, s_69, s_70, s_71, s_72, s_73, sws_n, sws_c, lget, lset, fget, fset, nolg, nolong, avc, stw, cnd, isobj_eo, GCi, GCn, retk, List.length_cons, List.length_nil, ↓reduceIte, and_true, true_and, not_true_eq_false, not_false_eq_true, forall_const, Nat.reduceAdd, Nat.reduceLT, Nat.reduceLeDiff, Nat.lt_add_one, Nat.le_refl, Nat.zero_le, Nat.sub_zero, Int.reduceEq, Int.reduceNe, Int.reduceLT, Int.reduceLE, Int.reduceAdd, Int.reduceSub, Int.reduceMul, Int.reduceNeg, Int.reduceTDiv, Int.reduceTMod, ne_eq, reduceCtorEq, Nat.reduceEqDiff, Int.cast_ofNat_Int, true_or, or_true, false_or, or_false, lcq_0, lcq_2, lcq_3, lcq_4, lcq_5, wu_s, wu_1, wu_w, wu_lt, wu_ne, ar_s, ar_n, rr_s, rr_n, ob_n, nz_c, lt_T, lt_F, le_T, le_F, ie_T, ie_F, nt_T, nt_F, nl_T, nl_F, in_T, and_false, false_and, and_self, not_true_eq_false, Int.toNat_natCast, Int.reduceToNat, if_true, if_false, mi_278, i278_0, i278_1, i278_2, i278_3, i278_6, i278_9, i278_12, i278_13, i278_16, i278_17, i278_18, i278_21, i278_22, i278_23, i278_24, i278_25, i278_26, i278_29, i278_30, i278_33, i278_34, i278_35, k179, k276, g12_2, g12_55, ra_148 hR.1, m_in, bi_z, Classical.not_not, c2]
    exact hQ
theorem y_back1 (hR : KR W s) (hz : Zw W) (hx : 0 ≤ x ∧ x ≤ 3) (hi : sI s x.toNat = some σ) (hQ : ∀ V, KR V (σ, s.2) → Q (some (vi (σ 0 4))) V) : Gm 278 [vr 148, vi x] W Q := by
  have hw : 192 ≤ W.1 := hR.1.1
  have h := hR.im hx
  rw [hi] at h
  obtain ⟨m1, m2⟩ := h
  obtain ⟨k, rfl⟩ : ∃ k : Nat, x = k := ⟨x.toNat, by omega⟩
  rw [Int.toNat_natCast] at m1 m2
  rw [e278]
  simp (disch := omega) only [s_1, s_2, s_3, s_4, s_76, s_5, s_6, s_7, s_8, s_9, s_10, s_11, s_12, s_13, s_14, s_15, s_16, s_17, s_18, s_19, s_20, s_21, s_22, s_23, s_24, s_25, s_26, s_27, s_28, s_29, s_30, s_31, s_32, s_33, s_34, s_35, s_36, s_37, s_38, s_39, s_40l, s_40i, s_40r, s_41, s_43, t_44, t_45, t_46, t_47, s_48, s_49, s_50, s_51, s_52, s_53, s_54, s_55, s_56, s_57, s_58, s_59, s_60, s_61, s_62_0, s_62_1, s_62_2, s_66, s_67, s_68, s_69, s_70, s_71, s_72, s_73, sws_n, sws_c, lget, lset, fget, fset, nolg, nolong, avc, stw, cnd, isobj_eo, GCi, GCn, retk, List.length_cons, List.length_nil, ↓reduceIte, and_true, true_and, not_true_eq_false, not_false_eq_true, forall_const, Nat.reduceAdd, Nat.reduceLT, Nat.reduceLeDiff, Nat.lt_add_one, Nat.le_refl, Nat.zero_le, Nat.sub_zero, Int.reduceEq, Int.reduceNe, Int.reduceLT, Int.reduceLE, Int.reduceAdd, Int.reduceSub, Int.reduceMul, Int.reduceNeg, Int.reduceTDiv, Int.reduceTMod, ne_eq, reduceCtorEq, Nat.reduceEqDiff, Int.cast_ofNat_Int, true_or, or_true, false_or, or_false, lcq_0, lcq_2, lcq_3, lcq_4, lcq_5, wu_s, wu_1, wu_w, wu_lt, wu_ne, ar_s, ar_n, rr_s, rr_n, ob_n, nz_c, lt_T, lt_F, le_T, le_F, ie_T, ie_F, nt_T, nt_F, nl_T, nl_F, in_T, and_false, false_and, and_self, not_true_eq_false, Int.toNat_natCast, Int.reduceToNat, if_true, if_false, mi_278, i278_0, i278_1, i278_2, i278_3, i278_6, i278_9, i278_12, i278_13, i278_16, i278_17, i278_18, i278_21, i278_22, i278_23, i278_24, i278_25, i278_26, i278_29, i278_30, i278_33, i278_34, i278_35, k179, k276, g12_2, g12_55, ra_148 hR.1, ra_191 hR.1, m_in, bi_z, Classical.not_not, hx, m1]
  have raw : Gm 276 [vr 148, vi (k : Int), vi 1] W (fun r V => r = none ∧ IvB W k 18 V) := y_carriesB hR.1 (by omega) (fun V h => ⟨rfl, h⟩)
  refine Gm_post (Gm_zero raw hz) (fun r V q => ?_)
  obtain ⟨⟨rfl, hv⟩, vz⟩ := q
  have e := hv.im vz
  obtain ⟨v1, v2, v3, v4, v5, v6, v7⟩ := hv
  have wV : 192 ≤ V.1 := v1.1
  obtain ⟨a1, a2, a3, a4, a5, a6, a7, a8⟩ := hR
  have hKV : KR V (σ, s.2) := ⟨v1, fun k p q => by rw [v3 k (by omega) (by omega)]; exact a2 k p q, by rw [e]; exact m2, by rw [v4.2.2.1, v4.2.2.2, v4.2.1, v4.1]; exact a4, by rw [ar_c (v3 167 (by decide) (by decide))]; exact a5, fun k q => (a6 k q).cg (fun j p q => v3 j (by omega) (by omega)), fun k q => ⟨(a7 k q).1.cg (a7 k q).2 (fun j p q => v3 j (by omega) (by omega)), (a7 k q).2⟩, fun k q => (a8 k q).cg (v3 188 (by decide) (by decide)) (v3 191 (by decide) (by decide))⟩
  have e0 : ar V 149 = σ 0 := hKV.f 0 (by decide)
  simp (disch := omega) only [s_1, s_2, s_3, s_4, s_76, s_5, s_6, s_7, s_8, s_9, s_10, s_11, s_12, s_13, s_14, s_15, s_16, s_17, s_18, s_19, s_20, s_21, s_22, s_23, s_24, s_25, s_26, s_27, s_28, s_29, s_30, s_31, s_32, s_33, s_34, s_35, s_36, s_37, s_38, s_39, s_40l, s_40i, s_40r, s_41, s_43, t_44, t_45, t_46, t_47, s_48, s_49, s_50, s_51, s_52, s_53, s_54, s_55, s_56, s_57, s_58, s_59, s_60, s_61, s_62_0, s_62_1, s_62_2, s_66, s_67, s_68, s_69, s_70, s_71, s_72, s_73, sws_n, sws_c, lget, lset, fget, fset, nolg, nolong, avc, stw, cnd, isobj_eo, GCi, GCn, retk, List.length_cons, List.length_nil, ↓reduceIte, and_true, true_and, not_true_eq_false, not_false_eq_true, forall_const, Nat.reduceAdd, Nat.reduceLT, Nat.reduceLeDiff, Nat.lt_add_one, Nat.le_refl, Nat.zero_le, Nat.sub_zero, Int.reduceEq, Int.reduceNe, Int.reduceLT, Int.reduceLE, Int.reduceAdd, Int.reduceSub, Int.reduceMul, Int.reduceNeg, Int.reduceTDiv, Int.reduceTMod, ne_eq, reduceCtorEq, Nat.reduceEqDiff, Int.cast_ofNat_Int, true_or, or_true, false_or, or_false, lcq_0, lcq_2, lcq_3, lcq_4, lcq_5, wu_s, wu_1, wu_w, wu_lt, wu_ne, ar_s, ar_n, rr_s, rr_n, ob_n, nz_c, lt_T, lt_F, le_T, le_F, ie_T, ie_F, nt_T, nt_F, nl_T, nl_F, in_T, and_false, false_and, and_self, not_true_eq_false, Int.toNat_natCast, Int.reduceToNat, if_true, if_false, mi_278, i278_0, i278_1, i278_2, i278_3, i278_6, i278_9, i278_12, i278_13, i278_16, i278_17, i278_18, i278_21, i278_22, i278_23, i278_24, i278_25, i278_26, i278_29, i278_30, i278_33, i278_34, i278_35, k179, k276, g12_2, g12_55, ra_148 v1, ra_149 v1, e0]
  exact hQ V hKV
end IM2
theorem ok32 {L : Nat} {X : Nat → Int} {c : Nat} {W : AW} {x : Int} (hI : Inv L X c W) : CallOK (Inv L X (c + 1)) W 174 275 [vi x] := by
  obtain ⟨h0, hz, hcl, s, hS, hH, hC, hR⟩ := hI
  have hcc : (c : Int) ≤ ((c + 1 : Nat) : Int) := by omega
  refine call_mk (has_c has_0) (by decide +kernel) h0 hz hcl hH hR ?_
  by_cases g : hasF s ∧ 0 ≤ x ∧ x ≤ 3
  · refine x_image1 hz hH hC hS g (fun V a b => ⟨_, _, rfl, a, b, ?_, fun W1 k1 z1 => y_image1 k1 z1 hS g (fun W2 k2 => ⟨rfl, k2⟩)⟩)
    obtain ⟨a1, a2, a3, a4, a5, a6, a7, a8, a9, a10⟩ := hS.mono hcc
    refine ⟨a1, a2, a3, a4, a5, a6, a7, a8, fun k σ q => ?_, fun q => absurd q g.1⟩
    have q2 : fu (sI s) x.toNat (some (sF s)) k = some σ := q
    simp only [fu_3] at q2
    split at q2
    · cases q2; exact (hS.fn g.1).mono hcc
    · exact a9 k σ q2
  · exact x_image0 hH hC g ⟨_, s, rfl, hH, hC, hS.mono hcc, fun W1 k1 z1 => y_image0 k1 hS g ⟨rfl, k1⟩⟩
theorem ok33 {L : Nat} {X : Nat → Int} {c : Nat} {W : AW} {x : Int} (hI : Inv L X c W) : CallOK (Inv L X (c + 1)) W 176 278 [vi x] := by
  obtain ⟨h0, hz, hcl, s, hS, hH, hC, hR⟩ := hI
  have hcc : (c : Int) ≤ ((c + 1 : Nat) : Int) := by omega
  refine call_mk (has_c has_0) (by decide +kernel) h0 hz hcl hH hR ?_
  by_cases g : 0 ≤ x ∧ x ≤ 3
  · cases hi : sI s x.toNat with
    | none => exact x_back0 hH hC (Or.inr hi) ⟨_, s, rfl, hH, hC, hS.mono hcc, fun W1 k1 z1 => y_back0 k1 (Or.inr hi) ⟨rfl, k1⟩⟩
    | some σ =>
      have hN := hS.2.2.2.2.2.2.2.2.1 _ _ hi
      have hf : hasF s := fun q => by
        have := hS.2.2.2.2.2.2.2.2.2 q x.toNat
        rw [hi] at this
        cases this
      exact x_back1 hz hH hC g hi hN (fun V a b => ⟨_, _, rfl, a, b, hS.fl hcc hf (hN.mono hcc), fun W1 k1 z1 => y_back1 k1 z1 g hi (fun W2 k2 => ⟨rfl, k2⟩)⟩)
  · exact x_back0 hH hC (Or.inl g) ⟨_, s, rfl, hH, hC, hS.mono hcc, fun W1 k1 z1 => y_back0 k1 (Or.inl g) ⟨rfl, k1⟩⟩
