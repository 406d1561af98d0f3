-- LAW and WANT of the reference, as functions of its state
noncomputable def lwY (T : Nat → Int) (n : Nat) (y : GWX) : GWX := rdF T n (y.1, ((fu y.2.1.1 23 (y.2.1.1 24), y.2.1.2), y.2.2))
noncomputable def wtY (T : Nat → Int) (n : Nat) (y : GWX) : GWX := rdF T n (y.1, ((fu y.2.1.1 23 (8 + y.2.1.1 25), y.2.1.2), y.2.2))
noncomputable def upY (j : Nat) (y : GWX) : GWX := (y.1, ((fu y.2.1.1 j (y.2.1.1 j + (if y.2.1.1 22 = 0 then 1 else 0)), y.2.1.2), y.2.2))
section LAW
variable {W : AW} {Q : AQ} {T : Nat → Int} {x : GT} {n : Nat}
theorem TW_id (hR : RS W) : GX W ((ob W 148, ar W 168, ar W 169), ar W 176) = W := by
  show wu (wu (wu (wu W 148 (o12 (ob W 148))) 168 (ea 0 4800 (ar W 168))) 169 (ea 0 4800 (ar W 169))) 176 (ea 0 402 (ar W 176)) = W
  rw [wu_id (ra_148 hR), wu_id (ra_168 hR), wu_id (ra_169 hR), wu_id (ra_176 hR)]
theorem y_law8 (hx : TX W T n) (h24 : x.1.1 24 = 8) : Gm 196 [vr 148] (GX W x) Q ↔ Q (some (vi (-1))) (GX W x) := by
  have hw : 192 ≤ W.1 := hx.1.1
  rw [e196]
  simp (disch := omega) only [s_1, s_2, s_3, s_4, s_76, s_5, s_6, s_7, s_8, s_9, s_10, s_11, s_12, s_13, s_14, s_15, s_16, s_17, s_18, s_19, s_20, s_21, s_22, s_23, s_24, s_25, s_26, s_27, s_28, s_29, s_30, s_31, s_32, s_33, s_34, s_35, s_36, s_37, s_38, s_39, s_40l, s_40i, s_40r, s_41, s_43, t_44, t_45, t_46, t_47, s_48, s_49, s_50, s_51, s_52, s_53, s_54, s_55, s_56, s_57, s_58, s_59, s_60, s_61, s_62_0, s_62_1, s_62_2, s_66, s_67, s_68, s_69, s_70, s_71, s_72, s_73, sws_n, sws_c, lget, lset, fget, fset, nolg, nolong, avc, stw, cnd, isobj_eo, GCi, GCn, retk, List.length_cons, List.length_nil, ↓reduceIte, and_true, true_and, not_true_eq_false, not_false_eq_true, forall_const, Nat.reduceAdd, Nat.reduceLT, Nat.reduceLeDiff, Nat.lt_add_one, Nat.le_refl, Nat.zero_le, Nat.sub_zero, Int.reduceEq, Int.reduceNe, Int.reduceLT, Int.reduceLE, Int.reduceAdd, Int.reduceSub, Int.reduceMul, Int.reduceNeg, Int.reduceTDiv, Int.reduceTMod, ne_eq, reduceCtorEq, Nat.reduceEqDiff, Int.cast_ofNat_Int, true_or, or_true, false_or, or_false, lcq_0, lcq_2, lcq_3, lcq_4, lcq_5, wu_s, wu_1, wu_w, wu_lt, wu_ne, ar_s, ar_n, rr_s, rr_n, ob_n, nz_c, lt_T, lt_F, le_T, le_F, ie_T, ie_F, nt_T, nt_F, nl_T, nl_F, in_T, and_false, false_and, and_self, not_true_eq_false, Int.toNat_natCast, Int.reduceToNat, if_true, if_false, mi_196, i196_0, i196_1, i196_4, i196_6, i196_9, i196_10, i196_11, i196_12, i196_13, i196_16, i196_19, i196_20, i196_23, i196_24, i196_25, i196_26, i196_29, i196_30, i196_33, i196_34, i196_37, i196_38, i196_39, i196_42, i196_43, i196_46, i196_48, i196_49, i196_50, i196_53, i196_54, i196_57, i196_58, i196_59, k197, g12_24, p12_23, p12_24, h24]
theorem y_want8 (hx : TX W T n) (h25 : x.1.1 25 = 8) : Gm 223 [vr 148] (GX W x) Q ↔ Q (some (vi (-1))) (GX W x) := by
  have hw : 192 ≤ W.1 := hx.1.1
  rw [e223]
  simp (disch := omega) only [s_1, s_2, s_3, s_4, s_76, s_5, s_6, s_7, s_8, s_9, s_10, s_11, s_12, s_13, s_14, s_15, s_16, s_17, s_18, s_19, s_20, s_21, s_22, s_23, s_24, s_25, s_26, s_27, s_28, s_29, s_30, s_31, s_32, s_33, s_34, s_35, s_36, s_37, s_38, s_39, s_40l, s_40i, s_40r, s_41, s_43, t_44, t_45, t_46, t_47, s_48, s_49, s_50, s_51, s_52, s_53, s_54, s_55, s_56, s_57, s_58, s_59, s_60, s_61, s_62_0, s_62_1, s_62_2, s_66, s_67, s_68, s_69, s_70, s_71, s_72, s_73, sws_n, sws_c, lget, lset, fget, fset, nolg, nolong, avc, stw, cnd, isobj_eo, GCi, GCn, retk, List.length_cons, List.length_nil, ↓reduceIte, and_true, true_and, not_true_eq_false, not_false_eq_true, forall_const, Nat.reduceAdd, Nat.reduceLT, Nat.reduceLeDiff, Nat.lt_add_one, Nat.le_refl, Nat.zero_le, Nat.sub_zero, Int.reduceEq, Int.reduceNe, Int.reduceLT, Int.reduceLE, Int.reduceAdd, Int.reduceSub, Int.reduceMul, Int.reduceNeg, Int.reduceTDiv, Int.reduceTMod, ne_eq, reduceCtorEq, Nat.reduceEqDiff, Int.cast_ofNat_Int, true_or, or_true, false_or, or_false, lcq_0, lcq_2, lcq_3, lcq_4, lcq_5, wu_s, wu_1, wu_w, wu_lt, wu_ne, ar_s, ar_n, rr_s, rr_n, ob_n, nz_c, lt_T, lt_F, le_T, le_F, ie_T, ie_F, nt_T, nt_F, nl_T, nl_F, in_T, and_false, false_and, and_self, not_true_eq_false, Int.toNat_natCast, Int.reduceToNat, if_true, if_false, mi_223, i223_0, i223_1, i223_4, i223_6, i223_9, i223_10, i223_11, i223_12, i223_14, i223_15, i223_18, i223_19, i223_22, i223_23, i223_26, i223_27, i223_28, i223_29, i223_32, i223_33, i223_36, i223_37, i223_40, i223_41, i223_42, i223_45, i223_46, i223_49, i223_51, i223_52, i223_53, i223_56, i223_57, i223_60, i223_61, i223_62, k197, g12_25, p12_23, p12_25, h25]
theorem rdL_x {K : Int} (hK : 0 ≤ K) : ∀ (f N : Nat) (W : AW) (x : GT), TX W T n → RI n K 0 x.1 → (0 ≤ x.1.1 27 ∧ x.1.1 27 ≤ x.1.1 21) → x.1.1 22 = 0 → N ≤ 12 → TX (rdL T n f N (W, x)).2.1 T n := by
  intro f
  induction f with
  | zero =>
    intro N W x hx h hd hf hN
    exact hx
  | succ f ih =>
    intro N W x hx h hd hf hN
    obtain ⟨eb, hx1, h12⟩ := clause_b (N := N) hx hK h hd
    unfold rdL
    unfold rdY rdN
    generalize clauseF T n N (W, x) = y1 at *
    split
    · next c =>
      have ep := eb.1.2.1
      have cf : y1.2.1.1 22 = 0 ∧ rdS T n (skF T n y1.2.1) = skF T n y1.2.1 := by
        by_cases c2 : (skF T n y1.2.1).1 22 = 0 ∧ (skF T n y1.2.1).1 21 < (n : Int) ∧ ¬ chr T n ((skF T n y1.2.1).1 21).toNat = 59
        · have er : rdS T n (skF T n y1.2.1) = flF 0 ((skF T n y1.2.1).1 21) (skF T n y1.2.1) := if_pos c2
          rw [er] at c
          exact (fl_z c.1 eb.1.sk.2.1.1 (by decide)).elim
        · have er : rdS T n (skF T n y1.2.1) = skF T n y1.2.1 := if_neg c2
          refine ⟨?_, er⟩
          rw [er, sk_o (by decide)] at c
          exact c.1
      obtain ⟨cf1, cf2⟩ := cf
      rw [cf2] at c ⊢
      obtain ⟨q1, q2, q3⟩ := eb.2 cf1
      obtain ⟨q4, q5⟩ := q1.sk (T := T)
      have f27 : (skF T n y1.2.1).1 27 = y1.2.1.1 27 := sk_o (by decide)
      have hN2 : ¬ N = 12 := fun z => h12 z cf1
      have q6 := (q4.ad (d := 1) (by decide) (by omega)).wk (K' := K) (D' := 0) (by omega) (by decide)
      exact ih (N + 1) y1.1 (adF 1 (skF T n y1.2.1), y1.2.2) hx1 q6 (by show 0 ≤ (adF 1 (skF T n y1.2.1)).1 27 ∧ (adF 1 (skF T n y1.2.1)).1 27 ≤ (adF 1 (skF T n y1.2.1)).1 21; rw [ad_o (by decide), ad_e, f27]; omega) (by show (adF 1 (skF T n y1.2.1)).1 22 = 0; rw [ad_o (by decide), sk_o (by decide)]; exact cf1) (by omega)
    · exact hx1
theorem rdF_x {y : GWX} (hx : TX y.1 T n) (h20 : y.2.1.1 20 = (n : Int)) (h23 : 0 ≤ y.2.1.1 23 ∧ y.2.1.1 23 ≤ 15) : TX (rdF T n y).1 T n := by
  obtain ⟨z1, z2, z3, z4, z5, z6⟩ := rdI_z (σ := y.2.1)
  have r := rdL_x (by decide) 13 0 y.1 (rdI y.2.1, y.2.2) hx (RI.ini h20 h23) (by show 0 ≤ (rdI y.2.1).1 27 ∧ (rdI y.2.1).1 27 ≤ (rdI y.2.1).1 21; rw [z4, z1]; decide) z2 (by decide)
  exact r.up (by decide) (ru_170 r.1)
theorem y_law (hx : TX W T n) (h20 : x.1.1 20 = (n : Int)) (h24 : 0 ≤ x.1.1 24 ∧ x.1.1 24 < 8) (h22 : 0 ≤ (lwY T n (W, x)).2.1.1 22 ∧ (lwY T n (W, x)).2.1.1 22 ≤ 100000) (hQ : Q (some (vi (if (lwY T n (W, x)).2.1.1 22 = 0 then x.1.1 24 else -2 - (lwY T n (W, x)).2.1.1 22))) (GX (upY 24 (lwY T n (W, x))).1 (upY 24 (lwY T n (W, x))).2)) : Gm 196 [vr 148] (GX W x) Q := by
  have hw : 192 ≤ W.1 := hx.1.1
  have c8 : ¬ x.1.1 24 = 8 := by omega
  have e23 : ((fu x.1.1 23 (x.1.1 24), x.1.2) : GS).1 23 = x.1.1 24 := by
    dsimp only
    exact fu_eq _ _ _
  have e20 : ((fu x.1.1 23 (x.1.1 24), x.1.2) : GS).1 20 = (n : Int) := by
    dsimp only
    rw [fu_ne _ _ (by decide)]
    exact h20
  have e24 : (lwY T n (W, x)).2.1.1 24 = x.1.1 24 := by
    unfold lwY
    rw [rdF_o (by decide)]
    show fu x.1.1 23 (x.1.1 24) 24 = _
    exact fu_ne _ _ (by decide)
  rw [e196]
  simp (disch := omega) only [s_1, s_2, s_3, s_4, s_76, s_5, s_6, s_7, s_8, s_9, s_10, s_11, s_12, s_13, s_14, s_15, s_16, s_17, s_18, s_19, s_20, s_21, s_22, s_23, s_24, s_25, s_26, s_27, s_28, s_29, s_30, s_31, s_32, s_33, s_34, s_35, s_36, s_37, s_38, s_39, s_40l, s_40i, s_40r, s_41, s_43, t_44, t_45, t_46, t_47, s_48, s_49, s_50, s_51, s_52, s_53, s_54, s_55, s_56, s_57, s_58, s_59, s_60, s_61, s_62_0, s_62_1, s_62_2, s_66, s_67, s_68, s_69, s_70, s_71, s_72, s_73, sws_n, sws_c, lget, lset, fget, fset, nolg, nolong, avc, stw, cnd, isobj_eo, GCi, GCn, retk, List.length_cons, List.length_nil, ↓reduceIte, and_true, true_and, not_true_eq_false, not_false_eq_true, forall_const, Nat.reduceAdd, Nat.reduceLT, Nat.reduceLeDiff, Nat.lt_add_one, Nat.le_refl, Nat.zero_le, Nat.sub_zero, Int.reduceEq, Int.reduceNe, Int.reduceLT, Int.reduceLE, Int.reduceAdd, Int.reduceSub, Int.reduceMul, Int.reduceNeg, Int.reduceTDiv, Int.reduceTMod, ne_eq, reduceCtorEq, Nat.reduceEqDiff, Int.cast_ofNat_Int, true_or, or_true, false_or, or_false, lcq_0, lcq_2, lcq_3, lcq_4, lcq_5, wu_s, wu_1, wu_w, wu_lt, wu_ne, ar_s, ar_n, rr_s, rr_n, ob_n, nz_c, lt_T, lt_F, le_T, le_F, ie_T, ie_F, nt_T, nt_F, nl_T, nl_F, in_T, and_false, false_and, and_self, not_true_eq_false, Int.toNat_natCast, Int.reduceToNat, if_true, if_false, mi_196, i196_0, i196_1, i196_4, i196_6, i196_9, i196_10, i196_11, i196_12, i196_13, i196_16, i196_19, i196_20, i196_23, i196_24, i196_25, i196_26, i196_29, i196_30, i196_33, i196_34, i196_37, i196_38, i196_39, i196_42, i196_43, i196_46, i196_48, i196_49, i196_50, i196_53, i196_54, i196_57, i196_58, i196_59, k197, g12_24, p12_23, p12_24, c8]
  refine y_reads (x := ((fu x.1.1 23 (x.1.1 24), x.1.2), x.2)) hx e20 (by show 0 ≤ ((fu x.1.1 23 (x.1.1 24), x.1.2) : GS).1 23 ∧ ((fu x.1.1 23 (x.1.1 24), x.1.2) : GS).1 23 ≤ 15; rw [e23]; omega) ?_
  change GC 196 _ _ _ _ _ _ (some (vi ((lwY T n (W, x)).2.1.1 22))) (GX (lwY T n (W, x)).1 (lwY T n (W, x)).2)
  have hx2 : TX (lwY T n (W, x)).1 T n := rdF_x (y := (W, ((fu x.1.1 23 (x.1.1 24), x.1.2), x.2))) hx e20 (by show 0 ≤ ((fu x.1.1 23 (x.1.1 24), x.1.2) : GS).1 23 ∧ ((fu x.1.1 23 (x.1.1 24), x.1.2) : GS).1 23 ≤ 15; rw [e23]; omega)
  generalize lwY T n (W, x) = y at *
  have hw1 : 192 ≤ y.1.1 := hx2.1.1
  have hy : 148 < y.1.1 := by omega
  unfold upY at hQ
  dsimp only at hQ
  by_cases c : y.2.1.1 22 = 0
  · rw [if_pos c, if_pos c] at hQ
    have i1 : in32 (x.1.1 24 + 1) := by unfold in32; omega
    rw [e24] at hQ
    have g24 : fu y.2.1.1 24 (x.1.1 24 + 1) 24 - 1 = x.1.1 24 := by rw [fu_eq]; omega
    simp (disch := omega) only [s_1, s_2, s_3, s_4, s_76, s_5, s_6, s_7, s_8, s_9, s_10, s_11, s_12, s_13, s_14, s_15, s_16, s_17, s_18, s_19, s_20, s_21, s_22, s_23, s_24, s_25, s_26, s_27, s_28, s_29, s_30, s_31, s_32, s_33, s_34, s_35, s_36, s_37, s_38, s_39, s_40l, s_40i, s_40r, s_41, s_43, t_44, t_45, t_46, t_47, s_48, s_49, s_50, s_51, s_52, s_53, s_54, s_55, s_56, s_57, s_58, s_59, s_60, s_61, s_62_0, s_62_1, s_62_2, s_66, s_67, s_68, s_69, s_70, s_71, s_72, s_73, sws_n, sws_c, lget, lset, fget, fset, nolg, nolong, avc, stw, cnd, isobj_eo, GCi, GCn, retk, List.length_cons, List.length_nil, ↓reduceIte, and_true, true_and, not_true_eq_false, not_false_eq_true, forall_const, Nat.reduceAdd, Nat.reduceLT, Nat.reduceLeDiff, Nat.lt_add_one, Nat.le_refl, Nat.zero_le, Nat.sub_zero, Int.reduceEq, Int.reduceNe, Int.reduceLT, Int.reduceLE, Int.reduceAdd, Int.reduceSub, Int.reduceMul, Int.reduceNeg, Int.reduceTDiv, Int.reduceTMod, ne_eq, reduceCtorEq, Nat.reduceEqDiff, Int.cast_ofNat_Int, true_or, or_true, false_or, or_false, lcq_0, lcq_2, lcq_3, lcq_4, lcq_5, wu_s, wu_1, wu_w, wu_lt, wu_ne, ar_s, ar_n, rr_s, rr_n, ob_n, nz_c, lt_T, lt_F, le_T, le_F, ie_T, ie_F, nt_T, nt_F, nl_T, nl_F, in_T, and_false, false_and, and_self, not_true_eq_false, Int.toNat_natCast, Int.reduceToNat, if_true, if_false, mi_196, i196_0, i196_1, i196_4, i196_6, i196_9, i196_10, i196_11, i196_12, i196_13, i196_16, i196_19, i196_20, i196_23, i196_24, i196_25, i196_26, i196_29, i196_30, i196_33, i196_34, i196_37, i196_38, i196_39, i196_42, i196_43, i196_46, i196_48, i196_49, i196_50, i196_53, i196_54, i196_57, i196_58, i196_59, k197, g12_24, p12_23, p12_24, c, e24, hy, i1, g24, true_and]
    exact hQ
  · rw [if_neg c, if_neg c] at hQ
    have c2 : 0 < y.2.1.1 22 := by omega
    have i1 : in32 (x.1.1 24 + 0) := by unfold in32; omega
    have i2 : in32 (-2 - y.2.1.1 22) := by unfold in32; omega
    rw [e24] at hQ
    simp (disch := omega) only [s_1, s_2, s_3, s_4, s_76, s_5, s_6, s_7, s_8, s_9, s_10, s_11, s_12, s_13, s_14, s_15, s_16, s_17, s_18, s_19, s_20, s_21, s_22, s_23, s_24, s_25, s_26, s_27, s_28, s_29, s_30, s_31, s_32, s_33, s_34, s_35, s_36, s_37, s_38, s_39, s_40l, s_40i, s_40r, s_41, s_43, t_44, t_45, t_46, t_47, s_48, s_49, s_50, s_51, s_52, s_53, s_54, s_55, s_56, s_57, s_58, s_59, s_60, s_61, s_62_0, s_62_1, s_62_2, s_66, s_67, s_68, s_69, s_70, s_71, s_72, s_73, sws_n, sws_c, lget, lset, fget, fset, nolg, nolong, avc, stw, cnd, isobj_eo, GCi, GCn, retk, List.length_cons, List.length_nil, ↓reduceIte, and_true, true_and, not_true_eq_false, not_false_eq_true, forall_const, Nat.reduceAdd, Nat.reduceLT, Nat.reduceLeDiff, Nat.lt_add_one, Nat.le_refl, Nat.zero_le, Nat.sub_zero, Int.reduceEq, Int.reduceNe, Int.reduceLT, Int.reduceLE, Int.reduceAdd, Int.reduceSub, Int.reduceMul, Int.reduceNeg, Int.reduceTDiv, Int.reduceTMod, ne_eq, reduceCtorEq, Nat.reduceEqDiff, Int.cast_ofNat_Int, true_or, or_true, false_or, or_false, lcq_0, lcq_2, lcq_3, lcq_4, lcq_5, wu_s, wu_1, wu_w, wu_lt, wu_ne, ar_s, ar_n, rr_s, rr_n, ob_n, nz_c, lt_T, lt_F, le_T, le_F, ie_T, ie_F, nt_T, nt_F, nl_T, nl_F, in_T, and_false, false_and, and_self, not_true_eq_false, Int.toNat_natCast, Int.reduceToNat, if_true, if_false, mi_196, i196_0, i196_1, i196_4, i196_6, i196_9, i196_10, i196_11, i196_12, i196_13, i196_16, i196_19, i196_20, i196_23, i196_24, i196_25, i196_26, i196_29, i196_30, i196_33, i196_34, i196_37, i196_38, i196_39, i196_42, i196_43, i196_46, i196_48, i196_49, i196_50, i196_53, i196_54, i196_57, i196_58, i196_59, k197, g12_24, p12_23, p12_24, c, c2, e24, hy, i1, i2, true_and]
    exact hQ
theorem y_want (hx : TX W T n) (h20 : x.1.1 20 = (n : Int)) (h24 : 0 ≤ x.1.1 25 ∧ x.1.1 25 < 8) (h22 : 0 ≤ (wtY T n (W, x)).2.1.1 22 ∧ (wtY T n (W, x)).2.1.1 22 ≤ 100000) (hQ : Q (some (vi (if (wtY T n (W, x)).2.1.1 22 = 0 then x.1.1 25 else -2 - (wtY T n (W, x)).2.1.1 22))) (GX (upY 25 (wtY T n (W, x))).1 (upY 25 (wtY T n (W, x))).2)) : Gm 223 [vr 148] (GX W x) Q := by
  have hw : 192 ≤ W.1 := hx.1.1
  have c8 : ¬ x.1.1 25 = 8 := by omega
  have e23 : ((fu x.1.1 23 (8 + x.1.1 25), x.1.2) : GS).1 23 = 8 + x.1.1 25 := by
    dsimp only
    exact fu_eq _ _ _
  have e20 : ((fu x.1.1 23 (8 + x.1.1 25), x.1.2) : GS).1 20 = (n : Int) := by
    dsimp only
    rw [fu_ne _ _ (by decide)]
    exact h20
  have e24 : (wtY T n (W, x)).2.1.1 25 = x.1.1 25 := by
    unfold wtY
    rw [rdF_o (by decide)]
    show fu x.1.1 23 (8 + x.1.1 25) 25 = _
    exact fu_ne _ _ (by decide)
  rw [e223]
  have i8 : in32 (8 + x.1.1 25) := by unfold in32; omega
  simp (disch := omega) only [s_1, s_2, s_3, s_4, s_76, s_5, s_6, s_7, s_8, s_9, s_10, s_11, s_12, s_13, s_14, s_15, s_16, s_17, s_18, s_19, s_20, s_21, s_22, s_23, s_24, s_25, s_26, s_27, s_28, s_29, s_30, s_31, s_32, s_33, s_34, s_35, s_36, s_37, s_38, s_39, s_40l, s_40i, s_40r, s_41, s_43, t_44, t_45, t_46, t_47, s_48, s_49, s_50, s_51, s_52, s_53, s_54, s_55, s_56, s_57, s_58, s_59, s_60, s_61, s_62_0, s_62_1, s_62_2, s_66, s_67, s_68, s_69, s_70, s_71, s_72, s_73, sws_n, sws_c, lget, lset, fget, fset, nolg, nolong, avc, stw, cnd, isobj_eo, GCi, GCn, retk, List.length_cons, List.length_nil, ↓reduceIte, and_true, true_and, not_true_eq_false, not_false_eq_true, forall_const, Nat.reduceAdd, Nat.reduceLT, Nat.reduceLeDiff, Nat.lt_add_one, Nat.le_refl, Nat.zero_le, Nat.sub_zero, Int.reduceEq, Int.reduceNe, Int.reduceLT, Int.reduceLE, Int.reduceAdd, Int.reduceSub, Int.reduceMul, Int.reduceNeg, Int.reduceTDiv, Int.reduceTMod, ne_eq, reduceCtorEq, Nat.reduceEqDiff, Int.cast_ofNat_Int, true_or, or_true, false_or, or_false, lcq_0, lcq_2, lcq_3, lcq_4, lcq_5, wu_s, wu_1, wu_w, wu_lt, wu_ne, ar_s, ar_n, rr_s, rr_n, ob_n, nz_c, lt_T, lt_F, le_T, le_F, ie_T, ie_F, nt_T, nt_F, nl_T, nl_F, in_T, and_false, false_and, and_self, not_true_eq_false, Int.toNat_natCast, Int.reduceToNat, if_true, if_false, mi_223, i223_0, i223_1, i223_4, i223_6, i223_9, i223_10, i223_11, i223_12, i223_14, i223_15, i223_18, i223_19, i223_22, i223_23, i223_26, i223_27, i223_28, i223_29, i223_32, i223_33, i223_36, i223_37, i223_40, i223_41, i223_42, i223_45, i223_46, i223_49, i223_51, i223_52, i223_53, i223_56, i223_57, i223_60, i223_61, i223_62, k197, g12_25, p12_23, p12_25, c8, i8]
  refine y_reads (x := ((fu x.1.1 23 (8 + x.1.1 25), x.1.2), x.2)) hx e20 (by show 0 ≤ ((fu x.1.1 23 (8 + x.1.1 25), x.1.2) : GS).1 23 ∧ ((fu x.1.1 23 (8 + x.1.1 25), x.1.2) : GS).1 23 ≤ 15; rw [e23]; omega) ?_
  change GC 223 _ _ _ _ _ _ (some (vi ((wtY T n (W, x)).2.1.1 22))) (GX (wtY T n (W, x)).1 (wtY T n (W, x)).2)
  have hx2 : TX (wtY T n (W, x)).1 T n := rdF_x (y := (W, ((fu x.1.1 23 (8 + x.1.1 25), x.1.2), x.2))) hx e20 (by show 0 ≤ ((fu x.1.1 23 (8 + x.1.1 25), x.1.2) : GS).1 23 ∧ ((fu x.1.1 23 (8 + x.1.1 25), x.1.2) : GS).1 23 ≤ 15; rw [e23]; omega)
  generalize wtY T n (W, x) = y at *
  have hw1 : 192 ≤ y.1.1 := hx2.1.1
  have hy : 148 < y.1.1 := by omega
  unfold upY at hQ
  dsimp only at hQ
  by_cases c : y.2.1.1 22 = 0
  · rw [if_pos c, if_pos c] at hQ
    have i1 : in32 (x.1.1 25 + 1) := by unfold in32; omega
    rw [e24] at hQ
    have g24 : fu y.2.1.1 25 (x.1.1 25 + 1) 25 - 1 = x.1.1 25 := by rw [fu_eq]; omega
    simp (disch := omega) only [s_1, s_2, s_3, s_4, s_76, s_5, s_6, s_7, s_8, s_9, s_10, s_11, s_12, s_13, s_14, s_15, s_16, s_17, s_18, s_19, s_20, s_21, s_22, s_23, s_24, s_25, s_26, s_27, s_28, s_29, s_30, s_31, s_32, s_33, s_34, s_35, s_36, s_37, s_38, s_39, s_40l, s_40i, s_40r, s_41, s_43, t_44, t_45, t_46, t_47, s_48, s_49, s_50, s_51, s_52, s_53, s_54, s_55, s_56, s_57, s_58, s_59, s_60, s_61, s_62_0, s_62_1, s_62_2, s_66, s_67, s_68, s_69, s_70, s_71, s_72, s_73, sws_n, sws_c, lget, lset, fget, fset, nolg, nolong, avc, stw, cnd, isobj_eo, GCi, GCn, retk, List.length_cons, List.length_nil, ↓reduceIte, and_true, true_and, not_true_eq_false, not_false_eq_true, forall_const, Nat.reduceAdd, Nat.reduceLT, Nat.reduceLeDiff, Nat.lt_add_one, Nat.le_refl, Nat.zero_le, Nat.sub_zero, Int.reduceEq, Int.reduceNe, Int.reduceLT, Int.reduceLE, Int.reduceAdd, Int.reduceSub, Int.reduceMul, Int.reduceNeg, Int.reduceTDiv, Int.reduceTMod, ne_eq, reduceCtorEq, Nat.reduceEqDiff, Int.cast_ofNat_Int, true_or, or_true, false_or, or_false, lcq_0, lcq_2, lcq_3, lcq_4, lcq_5, wu_s, wu_1, wu_w, wu_lt, wu_ne, ar_s, ar_n, rr_s, rr_n, ob_n, nz_c, lt_T, lt_F, le_T, le_F, ie_T, ie_F, nt_T, nt_F, nl_T, nl_F, in_T, and_false, false_and, and_self, not_true_eq_false, Int.toNat_natCast, Int.reduceToNat, if_true, if_false, mi_223, i223_0, i223_1, i223_4, i223_6, i223_9, i223_10, i223_11, i223_12, i223_14, i223_15, i223_18, i223_19, i223_22, i223_23, i223_26, i223_27, i223_28, i223_29, i223_32, i223_33, i223_36, i223_37, i223_40, i223_41, i223_42, i223_45, i223_46, i223_49, i223_51, i223_52, i223_53, i223_56, i223_57, i223_60, i223_61, i223_62, k197, g12_25, p12_23, p12_25, c, e24, hy, i1, g24, true_and]
    exact hQ
  · rw [if_neg c, if_neg c] at hQ
    have c2 : 0 < y.2.1.1 22 := by omega
    have i1 : in32 (x.1.1 25 + 0) := by unfold in32; omega
    have i2 : in32 (-2 - y.2.1.1 22) := by unfold in32; omega
    rw [e24] at hQ
    simp (disch := omega) only [s_1, s_2, s_3, s_4, s_76, s_5, s_6, s_7, s_8, s_9, s_10, s_11, s_12, s_13, s_14, s_15, s_16, s_17, s_18, s_19, s_20, s_21, s_22, s_23, s_24, s_25, s_26, s_27, s_28, s_29, s_30, s_31, s_32, s_33, s_34, s_35, s_36, s_37, s_38, s_39, s_40l, s_40i, s_40r, s_41, s_43, t_44, t_45, t_46, t_47, s_48, s_49, s_50, s_51, s_52, s_53, s_54, s_55, s_56, s_57, s_58, s_59, s_60, s_61, s_62_0, s_62_1, s_62_2, s_66, s_67, s_68, s_69, s_70, s_71, s_72, s_73, sws_n, sws_c, lget, lset, fget, fset, nolg, nolong, avc, stw, cnd, isobj_eo, GCi, GCn, retk, List.length_cons, List.length_nil, ↓reduceIte, and_true, true_and, not_true_eq_false, not_false_eq_true, forall_const, Nat.reduceAdd, Nat.reduceLT, Nat.reduceLeDiff, Nat.lt_add_one, Nat.le_refl, Nat.zero_le, Nat.sub_zero, Int.reduceEq, Int.reduceNe, Int.reduceLT, Int.reduceLE, Int.reduceAdd, Int.reduceSub, Int.reduceMul, Int.reduceNeg, Int.reduceTDiv, Int.reduceTMod, ne_eq, reduceCtorEq, Nat.reduceEqDiff, Int.cast_ofNat_Int, true_or, or_true, false_or, or_false, lcq_0, lcq_2, lcq_3, lcq_4, lcq_5, wu_s, wu_1, wu_w, wu_lt, wu_ne, ar_s, ar_n, rr_s, rr_n, ob_n, nz_c, lt_T, lt_F, le_T, le_F, ie_T, ie_F, nt_T, nt_F, nl_T, nl_F, in_T, and_false, false_and, and_self, not_true_eq_false, Int.toNat_natCast, Int.reduceToNat, if_true, if_false, mi_223, i223_0, i223_1, i223_4, i223_6, i223_9, i223_10, i223_11, i223_12, i223_14, i223_15, i223_18, i223_19, i223_22, i223_23, i223_26, i223_27, i223_28, i223_29, i223_32, i223_33, i223_36, i223_37, i223_40, i223_41, i223_42, i223_45, i223_46, i223_49, i223_51, i223_52, i223_53, i223_56, i223_57, i223_60, i223_61, i223_62, k197, g12_25, p12_23, p12_25, c, c2, e24, hy, i1, i2, true_and]
    exact hQ
end LAW
