-- COMPARED, OPENS, TOP, ANSWERS of the reference
noncomputable def coK (s e : Int) : Int := if s = 61 then 6 else if s = 60 then (if e = 0 then 4 else 5) else if e = 0 then 8 else 7
noncomputable def coE (T : Nat → Int) (n : Nat) (s p : Int) : Int := if s ≠ 61 ∧ chr T n p.toNat = 61 then 1 else 0
noncomputable def coF (T : Nat → Int) (n : Nat) (σ : GS) : GS :=
  if chr T n ((suF T n σ).1 21).toNat = 60 ∨ chr T n ((suF T n σ).1 21).toNat = 61 ∨ chr T n ((suF T n σ).1 21).toNat = 62 then
    enF (coK (chr T n ((suF T n σ).1 21).toNat) (coE T n (chr T n ((suF T n σ).1 21).toNat) ((suF T n σ).1 21 + 1))) 0
      (suF T n (adF (coE T n (chr T n ((suF T n σ).1 21).toNat) ((suF T n σ).1 21 + 1)) (adF 1 (cnF ((suF T n σ).1 21) (suF T n σ)))))
  else flF 0 ((suF T n σ).1 21) (suF T n σ)
section RI3
variable {T : Nat → Int} {n : Nat} {K D c pl k v d : Int} {σ : GS}
theorem fl_z : (flF c pl σ).1 22 = 0 → 0 ≤ pl → 0 ≤ c → False := by
  intro h h1 h2
  rw [fl_e] at h
  split at h <;> omega
theorem coE_b {s p : Int} (hp : 0 ≤ p) (h : p ≤ (n : Int)) : 0 ≤ coE T n s p ∧ p + coE T n s p ≤ (n : Int) := by
  unfold coE
  split
  · next c =>
    have := chr_lt c.2 (by decide)
    omega
  · omega
theorem RI.co (h : RI n K D σ) (hD : 0 ≤ D) : RI n (K + 10) (D + 3) (coF T n σ) ∧ σ.1 21 ≤ (coF T n σ).1 21 ∧ ((coF T n σ).1 22 = 0 → σ.1 21 + 1 ≤ (coF T n σ).1 21) := by
  obtain ⟨s1, s2⟩ := h.su (T := T) hD
  unfold coF
  generalize suF T n σ = σ1 at *
  have hp := s1.2.1
  by_cases c : chr T n (σ1.1 21).toNat = 60 ∨ chr T n (σ1.1 21).toNat = 61 ∨ chr T n (σ1.1 21).toNat = 62
  · rw [if_pos c]
    have hl : (σ1.1 21).toNat < n := by
      rcases c with q | q | q <;> exact chr_lt q (by decide)
    have e21 : (cnF (σ1.1 21) σ1).1 21 = σ1.1 21 := cn_o (by decide) (by decide)
    have c1 := (s1.cnt (pl := σ1.1 21) (by omega)).ad (d := 1) (by decide) (by omega)
    have f21 : (adF 1 (cnF (σ1.1 21) σ1)).1 21 = σ1.1 21 + 1 := by rw [ad_e, e21]
    have eb := coE_b (T := T) (n := n) (s := chr T n (σ1.1 21).toNat) (p := σ1.1 21 + 1) (by omega) (by omega)
    generalize coE T n (chr T n (σ1.1 21).toNat) (σ1.1 21 + 1) = e at *
    generalize adF 1 (cnF (σ1.1 21) σ1) = σ2 at *
    have c2 := c1.ad (d := e) (by omega) (by omega)
    have g21 : (adF e σ2).1 21 = σ1.1 21 + 1 + e := by rw [ad_e, f21]
    obtain ⟨c3, c4⟩ := c2.su (T := T) (by omega)
    have c5 := c3.ent (k := coK (chr T n (σ1.1 21).toNat) e) (v := 0)
    rw [en_o (by decide)]
    exact ⟨c5.wk (by omega) (by omega), by omega, fun _ => by omega⟩
  · rw [if_neg c]
    have d3 := s1.fl (K' := K + 10) (c := 0) (pl := σ1.1 21) (by omega) (by decide)
    refine ⟨d3.wk (Int.le_refl _) (by omega), ?_, fun z => (fl_z z (by omega) (by decide)).elim⟩
    rw [fl_o (by decide)]
    omega
end RI3
section WLT
variable {W : AW} {Q : AQ} {o T : Nat → Int} {σ : GS} {n : Nat} {K D c pl k v most : Int}
theorem y_compared (hx : TX W T n) (h : RI n K D σ) (hK : 0 ≤ K) (hD : 0 ≤ D ∧ D ≤ 600) (hQ : Q none (GW W (coF T n σ) o)) : Gm 208 [vr 148] (GW W σ o) Q := by
  have hw : 192 ≤ W.1 := hx.1.1
  have hn := hx.2.2.2.2
  obtain ⟨s1, s2⟩ := h.su (T := T) hD.1
  unfold coF at hQ
  rw [e208]
  simp (disch := omega) only [s_1, s_2, s_3, s_4, s_76, s_5, s_6, s_7, s_8, s_9, s_10, s_11, s_12, s_13, s_14, s_15, s_16, s_17, s_18, s_19, s_20, s_21, s_22, s_23, s_24, s_25, s_26, s_27, s_28, s_29, s_30, s_31, s_32, s_33, s_34, s_35, s_36, s_37, s_38, s_39, s_40l, s_40i, s_40r, s_41, s_43, t_44, t_45, t_46, t_47, s_48, s_49, s_50, s_51, s_52, s_53, s_54, s_55, s_56, s_57, s_58, s_59, s_60, s_61, s_62_0, s_62_1, s_62_2, s_66, s_67, s_68, s_69, s_70, s_71, s_72, s_73, sws_n, sws_c, lget, lset, fget, fset, nolg, nolong, avc, stw, cnd, isobj_eo, GCi, GCn, retk, List.length_cons, List.length_nil, ↓reduceIte, and_true, true_and, not_true_eq_false, not_false_eq_true, forall_const, Nat.reduceAdd, Nat.reduceLT, Nat.reduceLeDiff, Nat.lt_add_one, Nat.le_refl, Nat.zero_le, Nat.sub_zero, Int.reduceEq, Int.reduceNe, Int.reduceLT, Int.reduceLE, Int.reduceAdd, Int.reduceSub, Int.reduceMul, Int.reduceNeg, Int.reduceTDiv, Int.reduceTMod, ne_eq, reduceCtorEq, Nat.reduceEqDiff, Int.cast_ofNat_Int, true_or, or_true, false_or, or_false, lcq_0, lcq_2, lcq_3, lcq_4, lcq_5, wu_s, wu_1, wu_w, wu_lt, wu_ne, ar_s, ar_n, rr_s, rr_n, ob_n, nz_c, lt_T, lt_F, le_T, le_F, ie_T, ie_F, nt_T, nt_F, nl_T, nl_F, in_T, and_false, false_and, and_self, not_true_eq_false, Int.toNat_natCast, Int.reduceToNat, if_true, if_false, mi_208, i208_0, i208_1, i208_4, i208_5, i208_8, i208_9, i208_10, i208_12, i208_15, i208_16, i208_18, i208_21, i208_22, i208_24, i208_27, i208_28, i208_29, i208_30, i208_33, i208_36, i208_37, i208_38, i208_39, i208_42, i208_45, i208_46, i208_47, i208_50, i208_51, i208_52, i208_55, i208_56, i208_58, i208_61, i208_62, i208_65, i208_67, i208_70, i208_71, i208_74, i208_75, i208_76, i208_77, i208_78, i208_81, i208_82, i208_85, i208_86, i208_89, i208_90, i208_91, i208_94, i208_95, i208_98, i208_99, i208_100, i208_102, i208_105, i208_107, i208_110, i208_111, i208_113, i208_116, i208_117, i208_120, i208_121, i208_124, i208_125, i208_128, i208_129, i208_132, i208_134, i208_137, i208_139, i208_140, i208_143, k200, k203, k209, k214, k215, g12_21, p12_21]
  refine y_sum hx h hK (by omega) ?_
  generalize suF T n σ = σ1 at *
  have hp := s1.2.1
  have ysg := fun {Q : AQ} => yv_sign (Q := Q) (o := o) hx s1
  by_cases c : chr T n (σ1.1 21).toNat = 60 ∨ chr T n (σ1.1 21).toNat = 61 ∨ chr T n (σ1.1 21).toNat = 62
  · rw [if_pos c] at hQ
    have hl : (σ1.1 21).toNat < n := by
      rcases c with q | q | q <;> exact chr_lt q (by decide)
    have e21 : (cnF (σ1.1 21) σ1).1 21 = σ1.1 21 := cn_o (by decide) (by decide)
    have c1 := (s1.cnt (pl := σ1.1 21) (by omega)).ad (d := 1) (by decide) (by omega)
    have f21 : (adF 1 (cnF (σ1.1 21) σ1)).1 21 = σ1.1 21 + 1 := by rw [ad_e, e21]
    have eb := coE_b (T := T) (n := n) (s := chr T n (σ1.1 21).toNat) (p := σ1.1 21 + 1) (by omega) (by omega)
    have yc := fun {Q : AQ} => yv_counted (Q := Q) (o := o) hx s1 (by omega) (pl := σ1.1 21) (by omega)
    have ysg2 := fun {Q : AQ} => yv_sign (Q := Q) (o := o) hx c1
    rw [f21] at ysg2
    generalize hs2 : adF 1 (cnF (σ1.1 21) σ1) = σ2 at *
    have fin : ∀ s e : Int, (s = 60 ∨ s = 61 ∨ s = 62) → (e = 0 ∨ e = 1) → σ1.1 21 + 1 + e ≤ (n : Int) → Q none (GW W (enF (coK s e) 0 (suF T n (adF e σ2))) o) → Gm 209 [vr 148] (GW W (adF e σ2) o) (GC 208 98 [some (vr 148), some (vi s), some (vi e)] [] 0 0 Q) := by
      intro s e hs he hb hQ
      have c2 := c1.ad (d := e) (by omega) (by omega)
      obtain ⟨c3, c4⟩ := c2.su (T := T) (by omega)
      have ye := fun {Q : AQ} => yv_entry (Q := Q) (o := o) (k := coK s e) (v := 0) hx c3 (by omega)
      refine y_sum hx c2 (by omega) (by omega) ?_
      generalize suF T n (adF e σ2) = σ3 at *
      show G 208 98 [some (vr 148), some (vi s), some (vi e)] [] (GW W σ3 o) 0 0 Q
      rw [i208_98]
      rcases hs with rfl | rfl | rfl <;> rcases he with rfl | rfl
      all_goals
        simp (disch := omega) only [s_1, s_2, s_3, s_4, s_76, s_5, s_6, s_7, s_8, s_9, s_10, s_11, s_12, s_13, s_14, s_15, s_16, s_17, s_18, s_19, s_20, s_21, s_22, s_23, s_24, s_25, s_26, s_27, s_28, s_29, s_30, s_31, s_32, s_33, s_34, s_35, s_36, s_37, s_38, s_39, s_40l, s_40i, s_40r, s_41, s_43, t_44, t_45, t_46, t_47, s_48, s_49, s_50, s_51, s_52, s_53, s_54, s_55, s_56, s_57, s_58, s_59, s_60, s_61, s_62_0, s_62_1, s_62_2, s_66, s_67, s_68, s_69, s_70, s_71, s_72, s_73, sws_n, sws_c, lget, lset, fget, fset, nolg, nolong, avc, stw, cnd, isobj_eo, GCi, GCn, retk, List.length_cons, List.length_nil, ↓reduceIte, and_true, true_and, not_true_eq_false, not_false_eq_true, forall_const, Nat.reduceAdd, Nat.reduceLT, Nat.reduceLeDiff, Nat.lt_add_one, Nat.le_refl, Nat.zero_le, Nat.sub_zero, Int.reduceEq, Int.reduceNe, Int.reduceLT, Int.reduceLE, Int.reduceAdd, Int.reduceSub, Int.reduceMul, Int.reduceNeg, Int.reduceTDiv, Int.reduceTMod, ne_eq, reduceCtorEq, Nat.reduceEqDiff, Int.cast_ofNat_Int, true_or, or_true, false_or, or_false, lcq_0, lcq_2, lcq_3, lcq_4, lcq_5, wu_s, wu_1, wu_w, wu_lt, wu_ne, ar_s, ar_n, rr_s, rr_n, ob_n, nz_c, lt_T, lt_F, le_T, le_F, ie_T, ie_F, nt_T, nt_F, nl_T, nl_F, in_T, and_false, false_and, and_self, not_true_eq_false, Int.toNat_natCast, Int.reduceToNat, if_true, if_false, mi_208, i208_0, i208_1, i208_4, i208_5, i208_8, i208_9, i208_10, i208_12, i208_15, i208_16, i208_18, i208_21, i208_22, i208_24, i208_27, i208_28, i208_29, i208_30, i208_33, i208_36, i208_37, i208_38, i208_39, i208_42, i208_45, i208_46, i208_47, i208_50, i208_51, i208_52, i208_55, i208_56, i208_58, i208_61, i208_62, i208_65, i208_67, i208_70, i208_71, i208_74, i208_75, i208_76, i208_77, i208_78, i208_81, i208_82, i208_85, i208_86, i208_89, i208_90, i208_91, i208_94, i208_95, i208_98, i208_99, i208_100, i208_102, i208_105, i208_107, i208_110, i208_111, i208_113, i208_116, i208_117, i208_120, i208_121, i208_124, i208_125, i208_128, i208_129, i208_132, i208_134, i208_137, i208_139, i208_140, i208_143, k200, k203, k209, k214, k215, g12_21, p12_21]
        refine ye.mpr ?_
        simp (disch := omega) only [s_1, s_2, s_3, s_4, s_76, s_5, s_6, s_7, s_8, s_9, s_10, s_11, s_12, s_13, s_14, s_15, s_16, s_17, s_18, s_19, s_20, s_21, s_22, s_23, s_24, s_25, s_26, s_27, s_28, s_29, s_30, s_31, s_32, s_33, s_34, s_35, s_36, s_37, s_38, s_39, s_40l, s_40i, s_40r, s_41, s_43, t_44, t_45, t_46, t_47, s_48, s_49, s_50, s_51, s_52, s_53, s_54, s_55, s_56, s_57, s_58, s_59, s_60, s_61, s_62_0, s_62_1, s_62_2, s_66, s_67, s_68, s_69, s_70, s_71, s_72, s_73, sws_n, sws_c, lget, lset, fget, fset, nolg, nolong, avc, stw, cnd, isobj_eo, GCi, GCn, retk, List.length_cons, List.length_nil, ↓reduceIte, and_true, true_and, not_true_eq_false, not_false_eq_true, forall_const, Nat.reduceAdd, Nat.reduceLT, Nat.reduceLeDiff, Nat.lt_add_one, Nat.le_refl, Nat.zero_le, Nat.sub_zero, Int.reduceEq, Int.reduceNe, Int.reduceLT, Int.reduceLE, Int.reduceAdd, Int.reduceSub, Int.reduceMul, Int.reduceNeg, Int.reduceTDiv, Int.reduceTMod, ne_eq, reduceCtorEq, Nat.reduceEqDiff, Int.cast_ofNat_Int, true_or, or_true, false_or, or_false, lcq_0, lcq_2, lcq_3, lcq_4, lcq_5, wu_s, wu_1, wu_w, wu_lt, wu_ne, ar_s, ar_n, rr_s, rr_n, ob_n, nz_c, lt_T, lt_F, le_T, le_F, ie_T, ie_F, nt_T, nt_F, nl_T, nl_F, in_T, and_false, false_and, and_self, not_true_eq_false, Int.toNat_natCast, Int.reduceToNat, if_true, if_false, mi_208, i208_0, i208_1, i208_4, i208_5, i208_8, i208_9, i208_10, i208_12, i208_15, i208_16, i208_18, i208_21, i208_22, i208_24, i208_27, i208_28, i208_29, i208_30, i208_33, i208_36, i208_37, i208_38, i208_39, i208_42, i208_45, i208_46, i208_47, i208_50, i208_51, i208_52, i208_55, i208_56, i208_58, i208_61, i208_62, i208_65, i208_67, i208_70, i208_71, i208_74, i208_75, i208_76, i208_77, i208_78, i208_81, i208_82, i208_85, i208_86, i208_89, i208_90, i208_91, i208_94, i208_95, i208_98, i208_99, i208_100, i208_102, i208_105, i208_107, i208_110, i208_111, i208_113, i208_116, i208_117, i208_120, i208_121, i208_124, i208_125, i208_128, i208_129, i208_132, i208_134, i208_137, i208_139, i208_140, i208_143, k200, k203, k209, k214, k215, g12_21, p12_21]
        exact hQ
    rcases c with q | q | q
    · by_cases q2 : chr T n (σ1.1 21 + 1).toNat = 61
      · have ec : coE T n (chr T n (σ1.1 21).toNat) (σ1.1 21 + 1) = 1 := if_pos ⟨by omega, q2⟩
        rw [ec, q] at hQ
        rw [ec] at eb
        simp (disch := omega) only [s_1, s_2, s_3, s_4, s_76, s_5, s_6, s_7, s_8, s_9, s_10, s_11, s_12, s_13, s_14, s_15, s_16, s_17, s_18, s_19, s_20, s_21, s_22, s_23, s_24, s_25, s_26, s_27, s_28, s_29, s_30, s_31, s_32, s_33, s_34, s_35, s_36, s_37, s_38, s_39, s_40l, s_40i, s_40r, s_41, s_43, t_44, t_45, t_46, t_47, s_48, s_49, s_50, s_51, s_52, s_53, s_54, s_55, s_56, s_57, s_58, s_59, s_60, s_61, s_62_0, s_62_1, s_62_2, s_66, s_67, s_68, s_69, s_70, s_71, s_72, s_73, sws_n, sws_c, lget, lset, fget, fset, nolg, nolong, avc, stw, cnd, isobj_eo, GCi, GCn, retk, List.length_cons, List.length_nil, ↓reduceIte, and_true, true_and, not_true_eq_false, not_false_eq_true, forall_const, Nat.reduceAdd, Nat.reduceLT, Nat.reduceLeDiff, Nat.lt_add_one, Nat.le_refl, Nat.zero_le, Nat.sub_zero, Int.reduceEq, Int.reduceNe, Int.reduceLT, Int.reduceLE, Int.reduceAdd, Int.reduceSub, Int.reduceMul, Int.reduceNeg, Int.reduceTDiv, Int.reduceTMod, ne_eq, reduceCtorEq, Nat.reduceEqDiff, Int.cast_ofNat_Int, true_or, or_true, false_or, or_false, lcq_0, lcq_2, lcq_3, lcq_4, lcq_5, wu_s, wu_1, wu_w, wu_lt, wu_ne, ar_s, ar_n, rr_s, rr_n, ob_n, nz_c, lt_T, lt_F, le_T, le_F, ie_T, ie_F, nt_T, nt_F, nl_T, nl_F, in_T, and_false, false_and, and_self, not_true_eq_false, Int.toNat_natCast, Int.reduceToNat, if_true, if_false, mi_208, i208_0, i208_1, i208_4, i208_5, i208_8, i208_9, i208_10, i208_12, i208_15, i208_16, i208_18, i208_21, i208_22, i208_24, i208_27, i208_28, i208_29, i208_30, i208_33, i208_36, i208_37, i208_38, i208_39, i208_42, i208_45, i208_46, i208_47, i208_50, i208_51, i208_52, i208_55, i208_56, i208_58, i208_61, i208_62, i208_65, i208_67, i208_70, i208_71, i208_74, i208_75, i208_76, i208_77, i208_78, i208_81, i208_82, i208_85, i208_86, i208_89, i208_90, i208_91, i208_94, i208_95, i208_98, i208_99, i208_100, i208_102, i208_105, i208_107, i208_110, i208_111, i208_113, i208_116, i208_117, i208_120, i208_121, i208_124, i208_125, i208_128, i208_129, i208_132, i208_134, i208_137, i208_139, i208_140, i208_143, k200, k203, k209, k214, k215, g12_21, p12_21, ysg, q, yc]
        change Gm 200 _ (GW W (adF 1 (cnF (σ1.1 21) σ1)) o) _
        rw [hs2]
        refine ysg2.mpr ?_
        simp (disch := omega) only [s_1, s_2, s_3, s_4, s_76, s_5, s_6, s_7, s_8, s_9, s_10, s_11, s_12, s_13, s_14, s_15, s_16, s_17, s_18, s_19, s_20, s_21, s_22, s_23, s_24, s_25, s_26, s_27, s_28, s_29, s_30, s_31, s_32, s_33, s_34, s_35, s_36, s_37, s_38, s_39, s_40l, s_40i, s_40r, s_41, s_43, t_44, t_45, t_46, t_47, s_48, s_49, s_50, s_51, s_52, s_53, s_54, s_55, s_56, s_57, s_58, s_59, s_60, s_61, s_62_0, s_62_1, s_62_2, s_66, s_67, s_68, s_69, s_70, s_71, s_72, s_73, sws_n, sws_c, lget, lset, fget, fset, nolg, nolong, avc, stw, cnd, isobj_eo, GCi, GCn, retk, List.length_cons, List.length_nil, ↓reduceIte, and_true, true_and, not_true_eq_false, not_false_eq_true, forall_const, Nat.reduceAdd, Nat.reduceLT, Nat.reduceLeDiff, Nat.lt_add_one, Nat.le_refl, Nat.zero_le, Nat.sub_zero, Int.reduceEq, Int.reduceNe, Int.reduceLT, Int.reduceLE, Int.reduceAdd, Int.reduceSub, Int.reduceMul, Int.reduceNeg, Int.reduceTDiv, Int.reduceTMod, ne_eq, reduceCtorEq, Nat.reduceEqDiff, Int.cast_ofNat_Int, true_or, or_true, false_or, or_false, lcq_0, lcq_2, lcq_3, lcq_4, lcq_5, wu_s, wu_1, wu_w, wu_lt, wu_ne, ar_s, ar_n, rr_s, rr_n, ob_n, nz_c, lt_T, lt_F, le_T, le_F, ie_T, ie_F, nt_T, nt_F, nl_T, nl_F, in_T, and_false, false_and, and_self, not_true_eq_false, Int.toNat_natCast, Int.reduceToNat, if_true, if_false, mi_208, i208_0, i208_1, i208_4, i208_5, i208_8, i208_9, i208_10, i208_12, i208_15, i208_16, i208_18, i208_21, i208_22, i208_24, i208_27, i208_28, i208_29, i208_30, i208_33, i208_36, i208_37, i208_38, i208_39, i208_42, i208_45, i208_46, i208_47, i208_50, i208_51, i208_52, i208_55, i208_56, i208_58, i208_61, i208_62, i208_65, i208_67, i208_70, i208_71, i208_74, i208_75, i208_76, i208_77, i208_78, i208_81, i208_82, i208_85, i208_86, i208_89, i208_90, i208_91, i208_94, i208_95, i208_98, i208_99, i208_100, i208_102, i208_105, i208_107, i208_110, i208_111, i208_113, i208_116, i208_117, i208_120, i208_121, i208_124, i208_125, i208_128, i208_129, i208_132, i208_134, i208_137, i208_139, i208_140, i208_143, k200, k203, k209, k214, k215, g12_21, p12_21, q2]
        exact fin 60 1 (by decide) (by decide) (by omega) hQ
      · have ec : coE T n (chr T n (σ1.1 21).toNat) (σ1.1 21 + 1) = 0 := if_neg (fun z => q2 z.2)
        rw [ec, q] at hQ
        rw [ec] at eb
        simp (disch := omega) only [s_1, s_2, s_3, s_4, s_76, s_5, s_6, s_7, s_8, s_9, s_10, s_11, s_12, s_13, s_14, s_15, s_16, s_17, s_18, s_19, s_20, s_21, s_22, s_23, s_24, s_25, s_26, s_27, s_28, s_29, s_30, s_31, s_32, s_33, s_34, s_35, s_36, s_37, s_38, s_39, s_40l, s_40i, s_40r, s_41, s_43, t_44, t_45, t_46, t_47, s_48, s_49, s_50, s_51, s_52, s_53, s_54, s_55, s_56, s_57, s_58, s_59, s_60, s_61, s_62_0, s_62_1, s_62_2, s_66, s_67, s_68, s_69, s_70, s_71, s_72, s_73, sws_n, sws_c, lget, lset, fget, fset, nolg, nolong, avc, stw, cnd, isobj_eo, GCi, GCn, retk, List.length_cons, List.length_nil, ↓reduceIte, and_true, true_and, not_true_eq_false, not_false_eq_true, forall_const, Nat.reduceAdd, Nat.reduceLT, Nat.reduceLeDiff, Nat.lt_add_one, Nat.le_refl, Nat.zero_le, Nat.sub_zero, Int.reduceEq, Int.reduceNe, Int.reduceLT, Int.reduceLE, Int.reduceAdd, Int.reduceSub, Int.reduceMul, Int.reduceNeg, Int.reduceTDiv, Int.reduceTMod, ne_eq, reduceCtorEq, Nat.reduceEqDiff, Int.cast_ofNat_Int, true_or, or_true, false_or, or_false, lcq_0, lcq_2, lcq_3, lcq_4, lcq_5, wu_s, wu_1, wu_w, wu_lt, wu_ne, ar_s, ar_n, rr_s, rr_n, ob_n, nz_c, lt_T, lt_F, le_T, le_F, ie_T, ie_F, nt_T, nt_F, nl_T, nl_F, in_T, and_false, false_and, and_self, not_true_eq_false, Int.toNat_natCast, Int.reduceToNat, if_true, if_false, mi_208, i208_0, i208_1, i208_4, i208_5, i208_8, i208_9, i208_10, i208_12, i208_15, i208_16, i208_18, i208_21, i208_22, i208_24, i208_27, i208_28, i208_29, i208_30, i208_33, i208_36, i208_37, i208_38, i208_39, i208_42, i208_45, i208_46, i208_47, i208_50, i208_51, i208_52, i208_55, i208_56, i208_58, i208_61, i208_62, i208_65, i208_67, i208_70, i208_71, i208_74, i208_75, i208_76, i208_77, i208_78, i208_81, i208_82, i208_85, i208_86, i208_89, i208_90, i208_91, i208_94, i208_95, i208_98, i208_99, i208_100, i208_102, i208_105, i208_107, i208_110, i208_111, i208_113, i208_116, i208_117, i208_120, i208_121, i208_124, i208_125, i208_128, i208_129, i208_132, i208_134, i208_137, i208_139, i208_140, i208_143, k200, k203, k209, k214, k215, g12_21, p12_21, ysg, q, yc]
        change Gm 200 _ (GW W (adF 1 (cnF (σ1.1 21) σ1)) o) _
        rw [hs2]
        refine ysg2.mpr ?_
        simp (disch := omega) only [s_1, s_2, s_3, s_4, s_76, s_5, s_6, s_7, s_8, s_9, s_10, s_11, s_12, s_13, s_14, s_15, s_16, s_17, s_18, s_19, s_20, s_21, s_22, s_23, s_24, s_25, s_26, s_27, s_28, s_29, s_30, s_31, s_32, s_33, s_34, s_35, s_36, s_37, s_38, s_39, s_40l, s_40i, s_40r, s_41, s_43, t_44, t_45, t_46, t_47, s_48, s_49, s_50, s_51, s_52, s_53, s_54, s_55, s_56, s_57, s_58, s_59, s_60, s_61, s_62_0, s_62_1, s_62_2, s_66, s_67, s_68, s_69, s_70, s_71, s_72, s_73, sws_n, sws_c, lget, lset, fget, fset, nolg, nolong, avc, stw, cnd, isobj_eo, GCi, GCn, retk, List.length_cons, List.length_nil, ↓reduceIte, and_true, true_and, not_true_eq_false, not_false_eq_true, forall_const, Nat.reduceAdd, Nat.reduceLT, Nat.reduceLeDiff, Nat.lt_add_one, Nat.le_refl, Nat.zero_le, Nat.sub_zero, Int.reduceEq, Int.reduceNe, Int.reduceLT, Int.reduceLE, Int.reduceAdd, Int.reduceSub, Int.reduceMul, Int.reduceNeg, Int.reduceTDiv, Int.reduceTMod, ne_eq, reduceCtorEq, Nat.reduceEqDiff, Int.cast_ofNat_Int, true_or, or_true, false_or, or_false, lcq_0, lcq_2, lcq_3, lcq_4, lcq_5, wu_s, wu_1, wu_w, wu_lt, wu_ne, ar_s, ar_n, rr_s, rr_n, ob_n, nz_c, lt_T, lt_F, le_T, le_F, ie_T, ie_F, nt_T, nt_F, nl_T, nl_F, in_T, and_false, false_and, and_self, not_true_eq_false, Int.toNat_natCast, Int.reduceToNat, if_true, if_false, mi_208, i208_0, i208_1, i208_4, i208_5, i208_8, i208_9, i208_10, i208_12, i208_15, i208_16, i208_18, i208_21, i208_22, i208_24, i208_27, i208_28, i208_29, i208_30, i208_33, i208_36, i208_37, i208_38, i208_39, i208_42, i208_45, i208_46, i208_47, i208_50, i208_51, i208_52, i208_55, i208_56, i208_58, i208_61, i208_62, i208_65, i208_67, i208_70, i208_71, i208_74, i208_75, i208_76, i208_77, i208_78, i208_81, i208_82, i208_85, i208_86, i208_89, i208_90, i208_91, i208_94, i208_95, i208_98, i208_99, i208_100, i208_102, i208_105, i208_107, i208_110, i208_111, i208_113, i208_116, i208_117, i208_120, i208_121, i208_124, i208_125, i208_128, i208_129, i208_132, i208_134, i208_137, i208_139, i208_140, i208_143, k200, k203, k209, k214, k215, g12_21, p12_21, q2]
        exact fin 60 0 (by decide) (by decide) (by omega) hQ
    · have ec : coE T n (chr T n (σ1.1 21).toNat) (σ1.1 21 + 1) = 0 := if_neg (fun z => z.1 q)
      rw [ec, q] at hQ
      rw [ec] at eb
      simp (disch := omega) only [s_1, s_2, s_3, s_4, s_76, s_5, s_6, s_7, s_8, s_9, s_10, s_11, s_12, s_13, s_14, s_15, s_16, s_17, s_18, s_19, s_20, s_21, s_22, s_23, s_24, s_25, s_26, s_27, s_28, s_29, s_30, s_31, s_32, s_33, s_34, s_35, s_36, s_37, s_38, s_39, s_40l, s_40i, s_40r, s_41, s_43, t_44, t_45, t_46, t_47, s_48, s_49, s_50, s_51, s_52, s_53, s_54, s_55, s_56, s_57, s_58, s_59, s_60, s_61, s_62_0, s_62_1, s_62_2, s_66, s_67, s_68, s_69, s_70, s_71, s_72, s_73, sws_n, sws_c, lget, lset, fget, fset, nolg, nolong, avc, stw, cnd, isobj_eo, GCi, GCn, retk, List.length_cons, List.length_nil, ↓reduceIte, and_true, true_and, not_true_eq_false, not_false_eq_true, forall_const, Nat.reduceAdd, Nat.reduceLT, Nat.reduceLeDiff, Nat.lt_add_one, Nat.le_refl, Nat.zero_le, Nat.sub_zero, Int.reduceEq, Int.reduceNe, Int.reduceLT, Int.reduceLE, Int.reduceAdd, Int.reduceSub, Int.reduceMul, Int.reduceNeg, Int.reduceTDiv, Int.reduceTMod, ne_eq, reduceCtorEq, Nat.reduceEqDiff, Int.cast_ofNat_Int, true_or, or_true, false_or, or_false, lcq_0, lcq_2, lcq_3, lcq_4, lcq_5, wu_s, wu_1, wu_w, wu_lt, wu_ne, ar_s, ar_n, rr_s, rr_n, ob_n, nz_c, lt_T, lt_F, le_T, le_F, ie_T, ie_F, nt_T, nt_F, nl_T, nl_F, in_T, and_false, false_and, and_self, not_true_eq_false, Int.toNat_natCast, Int.reduceToNat, if_true, if_false, mi_208, i208_0, i208_1, i208_4, i208_5, i208_8, i208_9, i208_10, i208_12, i208_15, i208_16, i208_18, i208_21, i208_22, i208_24, i208_27, i208_28, i208_29, i208_30, i208_33, i208_36, i208_37, i208_38, i208_39, i208_42, i208_45, i208_46, i208_47, i208_50, i208_51, i208_52, i208_55, i208_56, i208_58, i208_61, i208_62, i208_65, i208_67, i208_70, i208_71, i208_74, i208_75, i208_76, i208_77, i208_78, i208_81, i208_82, i208_85, i208_86, i208_89, i208_90, i208_91, i208_94, i208_95, i208_98, i208_99, i208_100, i208_102, i208_105, i208_107, i208_110, i208_111, i208_113, i208_116, i208_117, i208_120, i208_121, i208_124, i208_125, i208_128, i208_129, i208_132, i208_134, i208_137, i208_139, i208_140, i208_143, k200, k203, k209, k214, k215, g12_21, p12_21, ysg, q, yc]
      refine ⟨by rw [fu_eq, e21]; unfold in32; omega, ?_⟩
      change Gm 209 _ (GW W (adF 0 (adF 1 (cnF (σ1.1 21) σ1))) o) _
      rw [hs2]
      exact fin 61 0 (by decide) (by decide) (by omega) hQ
    · by_cases q2 : chr T n (σ1.1 21 + 1).toNat = 61
      · have ec : coE T n (chr T n (σ1.1 21).toNat) (σ1.1 21 + 1) = 1 := if_pos ⟨by omega, q2⟩
        rw [ec, q] at hQ
        rw [ec] at eb
        simp (disch := omega) only [s_1, s_2, s_3, s_4, s_76, s_5, s_6, s_7, s_8, s_9, s_10, s_11, s_12, s_13, s_14, s_15, s_16, s_17, s_18, s_19, s_20, s_21, s_22, s_23, s_24, s_25, s_26, s_27, s_28, s_29, s_30, s_31, s_32, s_33, s_34, s_35, s_36, s_37, s_38, s_39, s_40l, s_40i, s_40r, s_41, s_43, t_44, t_45, t_46, t_47, s_48, s_49, s_50, s_51, s_52, s_53, s_54, s_55, s_56, s_57, s_58, s_59, s_60, s_61, s_62_0, s_62_1, s_62_2, s_66, s_67, s_68, s_69, s_70, s_71, s_72, s_73, sws_n, sws_c, lget, lset, fget, fset, nolg, nolong, avc, stw, cnd, isobj_eo, GCi, GCn, retk, List.length_cons, List.length_nil, ↓reduceIte, and_true, true_and, not_true_eq_false, not_false_eq_true, forall_const, Nat.reduceAdd, Nat.reduceLT, Nat.reduceLeDiff, Nat.lt_add_one, Nat.le_refl, Nat.zero_le, Nat.sub_zero, Int.reduceEq, Int.reduceNe, Int.reduceLT, Int.reduceLE, Int.reduceAdd, Int.reduceSub, Int.reduceMul, Int.reduceNeg, Int.reduceTDiv, Int.reduceTMod, ne_eq, reduceCtorEq, Nat.reduceEqDiff, Int.cast_ofNat_Int, true_or, or_true, false_or, or_false, lcq_0, lcq_2, lcq_3, lcq_4, lcq_5, wu_s, wu_1, wu_w, wu_lt, wu_ne, ar_s, ar_n, rr_s, rr_n, ob_n, nz_c, lt_T, lt_F, le_T, le_F, ie_T, ie_F, nt_T, nt_F, nl_T, nl_F, in_T, and_false, false_and, and_self, not_true_eq_false, Int.toNat_natCast, Int.reduceToNat, if_true, if_false, mi_208, i208_0, i208_1, i208_4, i208_5, i208_8, i208_9, i208_10, i208_12, i208_15, i208_16, i208_18, i208_21, i208_22, i208_24, i208_27, i208_28, i208_29, i208_30, i208_33, i208_36, i208_37, i208_38, i208_39, i208_42, i208_45, i208_46, i208_47, i208_50, i208_51, i208_52, i208_55, i208_56, i208_58, i208_61, i208_62, i208_65, i208_67, i208_70, i208_71, i208_74, i208_75, i208_76, i208_77, i208_78, i208_81, i208_82, i208_85, i208_86, i208_89, i208_90, i208_91, i208_94, i208_95, i208_98, i208_99, i208_100, i208_102, i208_105, i208_107, i208_110, i208_111, i208_113, i208_116, i208_117, i208_120, i208_121, i208_124, i208_125, i208_128, i208_129, i208_132, i208_134, i208_137, i208_139, i208_140, i208_143, k200, k203, k209, k214, k215, g12_21, p12_21, ysg, q, yc]
        change Gm 200 _ (GW W (adF 1 (cnF (σ1.1 21) σ1)) o) _
        rw [hs2]
        refine ysg2.mpr ?_
        simp (disch := omega) only [s_1, s_2, s_3, s_4, s_76, s_5, s_6, s_7, s_8, s_9, s_10, s_11, s_12, s_13, s_14, s_15, s_16, s_17, s_18, s_19, s_20, s_21, s_22, s_23, s_24, s_25, s_26, s_27, s_28, s_29, s_30, s_31, s_32, s_33, s_34, s_35, s_36, s_37, s_38, s_39, s_40l, s_40i, s_40r, s_41, s_43, t_44, t_45, t_46, t_47, s_48, s_49, s_50, s_51, s_52, s_53, s_54, s_55, s_56, s_57, s_58, s_59, s_60, s_61, s_62_0, s_62_1, s_62_2, s_66, s_67, s_68, s_69, s_70, s_71, s_72, s_73, sws_n, sws_c, lget, lset, fget, fset, nolg, nolong, avc, stw, cnd, isobj_eo, GCi, GCn, retk, List.length_cons, List.length_nil, ↓reduceIte, and_true, true_and, not_true_eq_false, not_false_eq_true, forall_const, Nat.reduceAdd, Nat.reduceLT, Nat.reduceLeDiff, Nat.lt_add_one, Nat.le_refl, Nat.zero_le, Nat.sub_zero, Int.reduceEq, Int.reduceNe, Int.reduceLT, Int.reduceLE, Int.reduceAdd, Int.reduceSub, Int.reduceMul, Int.reduceNeg, Int.reduceTDiv, Int.reduceTMod, ne_eq, reduceCtorEq, Nat.reduceEqDiff, Int.cast_ofNat_Int, true_or, or_true, false_or, or_false, lcq_0, lcq_2, lcq_3, lcq_4, lcq_5, wu_s, wu_1, wu_w, wu_lt, wu_ne, ar_s, ar_n, rr_s, rr_n, ob_n, nz_c, lt_T, lt_F, le_T, le_F, ie_T, ie_F, nt_T, nt_F, nl_T, nl_F, in_T, and_false, false_and, and_self, not_true_eq_false, Int.toNat_natCast, Int.reduceToNat, if_true, if_false, mi_208, i208_0, i208_1, i208_4, i208_5, i208_8, i208_9, i208_10, i208_12, i208_15, i208_16, i208_18, i208_21, i208_22, i208_24, i208_27, i208_28, i208_29, i208_30, i208_33, i208_36, i208_37, i208_38, i208_39, i208_42, i208_45, i208_46, i208_47, i208_50, i208_51, i208_52, i208_55, i208_56, i208_58, i208_61, i208_62, i208_65, i208_67, i208_70, i208_71, i208_74, i208_75, i208_76, i208_77, i208_78, i208_81, i208_82, i208_85, i208_86, i208_89, i208_90, i208_91, i208_94, i208_95, i208_98, i208_99, i208_100, i208_102, i208_105, i208_107, i208_110, i208_111, i208_113, i208_116, i208_117, i208_120, i208_121, i208_124, i208_125, i208_128, i208_129, i208_132, i208_134, i208_137, i208_139, i208_140, i208_143, k200, k203, k209, k214, k215, g12_21, p12_21, q2]
        exact fin 62 1 (by decide) (by decide) (by omega) hQ
      · have ec : coE T n (chr T n (σ1.1 21).toNat) (σ1.1 21 + 1) = 0 := if_neg (fun z => q2 z.2)
        rw [ec, q] at hQ
        rw [ec] at eb
        simp (disch := omega) only [s_1, s_2, s_3, s_4, s_76, s_5, s_6, s_7, s_8, s_9, s_10, s_11, s_12, s_13, s_14, s_15, s_16, s_17, s_18, s_19, s_20, s_21, s_22, s_23, s_24, s_25, s_26, s_27, s_28, s_29, s_30, s_31, s_32, s_33, s_34, s_35, s_36, s_37, s_38, s_39, s_40l, s_40i, s_40r, s_41, s_43, t_44, t_45, t_46, t_47, s_48, s_49, s_50, s_51, s_52, s_53, s_54, s_55, s_56, s_57, s_58, s_59, s_60, s_61, s_62_0, s_62_1, s_62_2, s_66, s_67, s_68, s_69, s_70, s_71, s_72, s_73, sws_n, sws_c, lget, lset, fget, fset, nolg, nolong, avc, stw, cnd, isobj_eo, GCi, GCn, retk, List.length_cons, List.length_nil, ↓reduceIte, and_true, true_and, not_true_eq_false, not_false_eq_true, forall_const, Nat.reduceAdd, Nat.reduceLT, Nat.reduceLeDiff, Nat.lt_add_one, Nat.le_refl, Nat.zero_le, Nat.sub_zero, Int.reduceEq, Int.reduceNe, Int.reduceLT, Int.reduceLE, Int.reduceAdd, Int.reduceSub, Int.reduceMul, Int.reduceNeg, Int.reduceTDiv, Int.reduceTMod, ne_eq, reduceCtorEq, Nat.reduceEqDiff, Int.cast_ofNat_Int, true_or, or_true, false_or, or_false, lcq_0, lcq_2, lcq_3, lcq_4, lcq_5, wu_s, wu_1, wu_w, wu_lt, wu_ne, ar_s, ar_n, rr_s, rr_n, ob_n, nz_c, lt_T, lt_F, le_T, le_F, ie_T, ie_F, nt_T, nt_F, nl_T, nl_F, in_T, and_false, false_and, and_self, not_true_eq_false, Int.toNat_natCast, Int.reduceToNat, if_true, if_false, mi_208, i208_0, i208_1, i208_4, i208_5, i208_8, i208_9, i208_10, i208_12, i208_15, i208_16, i208_18, i208_21, i208_22, i208_24, i208_27, i208_28, i208_29, i208_30, i208_33, i208_36, i208_37, i208_38, i208_39, i208_42, i208_45, i208_46, i208_47, i208_50, i208_51, i208_52, i208_55, i208_56, i208_58, i208_61, i208_62, i208_65, i208_67, i208_70, i208_71, i208_74, i208_75, i208_76, i208_77, i208_78, i208_81, i208_82, i208_85, i208_86, i208_89, i208_90, i208_91, i208_94, i208_95, i208_98, i208_99, i208_100, i208_102, i208_105, i208_107, i208_110, i208_111, i208_113, i208_116, i208_117, i208_120, i208_121, i208_124, i208_125, i208_128, i208_129, i208_132, i208_134, i208_137, i208_139, i208_140, i208_143, k200, k203, k209, k214, k215, g12_21, p12_21, ysg, q, yc]
        change Gm 200 _ (GW W (adF 1 (cnF (σ1.1 21) σ1)) o) _
        rw [hs2]
        refine ysg2.mpr ?_
        simp (disch := omega) only [s_1, s_2, s_3, s_4, s_76, s_5, s_6, s_7, s_8, s_9, s_10, s_11, s_12, s_13, s_14, s_15, s_16, s_17, s_18, s_19, s_20, s_21, s_22, s_23, s_24, s_25, s_26, s_27, s_28, s_29, s_30, s_31, s_32, s_33, s_34, s_35, s_36, s_37, s_38, s_39, s_40l, s_40i, s_40r, s_41, s_43, t_44, t_45, t_46, t_47, s_48, s_49, s_50, s_51, s_52, s_53, s_54, s_55, s_56, s_57, s_58, s_59, s_60, s_61, s_62_0, s_62_1, s_62_2, s_66, s_67, s_68, s_69, s_70, s_71, s_72, s_73, sws_n, sws_c, lget, lset, fget, fset, nolg, nolong, avc, stw, cnd, isobj_eo, GCi, GCn, retk, List.length_cons, List.length_nil, ↓reduceIte, and_true, true_and, not_true_eq_false, not_false_eq_true, forall_const, Nat.reduceAdd, Nat.reduceLT, Nat.reduceLeDiff, Nat.lt_add_one, Nat.le_refl, Nat.zero_le, Nat.sub_zero, Int.reduceEq, Int.reduceNe, Int.reduceLT, Int.reduceLE, Int.reduceAdd, Int.reduceSub, Int.reduceMul, Int.reduceNeg, Int.reduceTDiv, Int.reduceTMod, ne_eq, reduceCtorEq, Nat.reduceEqDiff, Int.cast_ofNat_Int, true_or, or_true, false_or, or_false, lcq_0, lcq_2, lcq_3, lcq_4, lcq_5, wu_s, wu_1, wu_w, wu_lt, wu_ne, ar_s, ar_n, rr_s, rr_n, ob_n, nz_c, lt_T, lt_F, le_T, le_F, ie_T, ie_F, nt_T, nt_F, nl_T, nl_F, in_T, and_false, false_and, and_self, not_true_eq_false, Int.toNat_natCast, Int.reduceToNat, if_true, if_false, mi_208, i208_0, i208_1, i208_4, i208_5, i208_8, i208_9, i208_10, i208_12, i208_15, i208_16, i208_18, i208_21, i208_22, i208_24, i208_27, i208_28, i208_29, i208_30, i208_33, i208_36, i208_37, i208_38, i208_39, i208_42, i208_45, i208_46, i208_47, i208_50, i208_51, i208_52, i208_55, i208_56, i208_58, i208_61, i208_62, i208_65, i208_67, i208_70, i208_71, i208_74, i208_75, i208_76, i208_77, i208_78, i208_81, i208_82, i208_85, i208_86, i208_89, i208_90, i208_91, i208_94, i208_95, i208_98, i208_99, i208_100, i208_102, i208_105, i208_107, i208_110, i208_111, i208_113, i208_116, i208_117, i208_120, i208_121, i208_124, i208_125, i208_128, i208_129, i208_132, i208_134, i208_137, i208_139, i208_140, i208_143, k200, k203, k209, k214, k215, g12_21, p12_21, q2]
        exact fin 62 0 (by decide) (by decide) (by omega) hQ
  · rw [if_neg c] at hQ
    have c1 : ¬ chr T n (σ1.1 21).toNat = 60 := fun z => c (Or.inl z)
    have c2 : ¬ chr T n (σ1.1 21).toNat = 61 := fun z => c (Or.inr (Or.inl z))
    have c3 : ¬ chr T n (σ1.1 21).toNat = 62 := fun z => c (Or.inr (Or.inr z))
    have yf := fun {Q : AQ} => yv_fails (W := W) (Q := Q) (σ := σ1) (o := o) (c := 0) (pl := σ1.1 21) hx (by omega) (by decide)
    simp (disch := omega) only [s_1, s_2, s_3, s_4, s_76, s_5, s_6, s_7, s_8, s_9, s_10, s_11, s_12, s_13, s_14, s_15, s_16, s_17, s_18, s_19, s_20, s_21, s_22, s_23, s_24, s_25, s_26, s_27, s_28, s_29, s_30, s_31, s_32, s_33, s_34, s_35, s_36, s_37, s_38, s_39, s_40l, s_40i, s_40r, s_41, s_43, t_44, t_45, t_46, t_47, s_48, s_49, s_50, s_51, s_52, s_53, s_54, s_55, s_56, s_57, s_58, s_59, s_60, s_61, s_62_0, s_62_1, s_62_2, s_66, s_67, s_68, s_69, s_70, s_71, s_72, s_73, sws_n, sws_c, lget, lset, fget, fset, nolg, nolong, avc, stw, cnd, isobj_eo, GCi, GCn, retk, List.length_cons, List.length_nil, ↓reduceIte, and_true, true_and, not_true_eq_false, not_false_eq_true, forall_const, Nat.reduceAdd, Nat.reduceLT, Nat.reduceLeDiff, Nat.lt_add_one, Nat.le_refl, Nat.zero_le, Nat.sub_zero, Int.reduceEq, Int.reduceNe, Int.reduceLT, Int.reduceLE, Int.reduceAdd, Int.reduceSub, Int.reduceMul, Int.reduceNeg, Int.reduceTDiv, Int.reduceTMod, ne_eq, reduceCtorEq, Nat.reduceEqDiff, Int.cast_ofNat_Int, true_or, or_true, false_or, or_false, lcq_0, lcq_2, lcq_3, lcq_4, lcq_5, wu_s, wu_1, wu_w, wu_lt, wu_ne, ar_s, ar_n, rr_s, rr_n, ob_n, nz_c, lt_T, lt_F, le_T, le_F, ie_T, ie_F, nt_T, nt_F, nl_T, nl_F, in_T, and_false, false_and, and_self, not_true_eq_false, Int.toNat_natCast, Int.reduceToNat, if_true, if_false, mi_208, i208_0, i208_1, i208_4, i208_5, i208_8, i208_9, i208_10, i208_12, i208_15, i208_16, i208_18, i208_21, i208_22, i208_24, i208_27, i208_28, i208_29, i208_30, i208_33, i208_36, i208_37, i208_38, i208_39, i208_42, i208_45, i208_46, i208_47, i208_50, i208_51, i208_52, i208_55, i208_56, i208_58, i208_61, i208_62, i208_65, i208_67, i208_70, i208_71, i208_74, i208_75, i208_76, i208_77, i208_78, i208_81, i208_82, i208_85, i208_86, i208_89, i208_90, i208_91, i208_94, i208_95, i208_98, i208_99, i208_100, i208_102, i208_105, i208_107, i208_110, i208_111, i208_113, i208_116, i208_117, i208_120, i208_121, i208_124, i208_125, i208_128, i208_129, i208_132, i208_134, i208_137, i208_139, i208_140, i208_143, k200, k203, k209, k214, k215, g12_21, p12_21, ysg, c1, c2, c3, yf]
    exact hQ
end WLT
/-- what is open: the ops on the pile -/
abbrev GT := GS × (Nat → Int)
abbrev GX (W : AW) (x : GT) : AW := GW W x.1 x.2
def topF (x : GT) : Int := if x.1.1 29 = 0 then -1 else x.2 (x.1.1 29 - 1).toNat
def opD (k pl : Int) (σ : GS) : GS := if k = 9 ∨ k = 12 then (fu (if σ.1 27 = 10 then flF 2 pl σ else σ).1 27 (σ.1 27 + 1), σ.2) else σ
def opF (k : Int) (x : GT) : GT := ((fu (opD k (x.1.1 21) x.1).1 29 (x.1.1 29 + 1), x.1.2), fu x.2 (x.1.1 29).toNat k)
def anS (k : Int) (x : GT) : GT := ((fu (fu (enF k 0 x.1).1 29 (x.1.1 29 - 1)) 27 (x.1.1 27 - (if k = 9 then 1 else 0)), (enF k 0 x.1).2), x.2)
def anF (k : Int) : Nat → GT → GT
  | 0, x => x
  | f + 1, x => if topF x = k ∧ x.1.1 22 = 0 then anF k f (anS k x) else x
/-- what the pile owes in entries; how much of it is deep -/
def stN (o : Nat → Int) : Nat → Int
  | 0 => 0
  | h + 1 => stN o h + (if o h = 12 then 0 else 3)
def dpN (o : Nat → Int) : Nat → Int
  | 0 => 0
  | h + 1 => dpN o h + (if o h = 9 ∨ o h = 12 then 1 else 0)
theorem stN_p (o : Nat → Int) : ∀ h, 0 ≤ stN o h
  | 0 => Int.le_refl _
  | h + 1 => by
    have := stN_p o h
    show 0 ≤ stN o h + (if o h = 12 then 0 else 3)
    split <;> omega
theorem dpN_p (o : Nat → Int) : ∀ h, 0 ≤ dpN o h
  | 0 => Int.le_refl _
  | h + 1 => by
    have := dpN_p o h
    show 0 ≤ dpN o h + (if o h = 9 ∨ o h = 12 then 1 else 0)
    split <;> omega
theorem stN_u {o : Nat → Int} {i : Nat} {v : Int} : ∀ h, h ≤ i → stN (fu o i v) h = stN o h
  | 0, _ => rfl
  | h + 1, b => by
    have := stN_u (o := o) (i := i) (v := v) h (by omega)
    show stN (fu o i v) h + (if fu o i v h = 12 then 0 else 3) = stN o h + (if o h = 12 then 0 else 3)
    have e : fu o i v h = o h := fu_ne _ _ (by omega)
    rw [this, e]
theorem dpN_u {o : Nat → Int} {i : Nat} {v : Int} : ∀ h, h ≤ i → dpN (fu o i v) h = dpN o h
  | 0, _ => rfl
  | h + 1, b => by
    have := dpN_u (o := o) (i := i) (v := v) h (by omega)
    show dpN (fu o i v) h + (if fu o i v h = 9 ∨ fu o i v h = 12 then 1 else 0) = dpN o h + (if o h = 9 ∨ o h = 12 then 1 else 0)
    have e : fu o i v h = o h := fu_ne _ _ (by omega)
    rw [this, e]
/-- bounds with a pile -/
def RA (n : Nat) (K D : Int) (x : GT) : Prop := RI n (stN x.2 (x.1.1 29).toNat + K) D x.1 ∧ (0 ≤ x.1.1 29 ∧ x.1.1 29 ≤ x.1.1 21) ∧ (dpN x.2 (x.1.1 29).toNat ≤ x.1.1 27 ∧ x.1.1 27 ≤ x.1.1 21)
theorem RA.an {n : Nat} {K D k : Int} {x : GT} (h : RA n K D x) (hk : 0 ≤ k ∧ k ≠ 12) (ht : topF x = k) : RA n K D (anS k x) ∧ 1 ≤ x.1.1 29 ∧ (anS k x).1.1 29 = x.1.1 29 - 1 ∧ (anS k x).1.1 21 = x.1.1 21 ∧ (anS k x).1.1 22 = x.1.1 22 := by
  obtain ⟨h1, h2, h3⟩ := h
  have h0 : ¬ x.1.1 29 = 0 := fun z => by
    unfold topF at ht
    rw [if_pos z] at ht
    omega
  unfold topF at ht
  rw [if_neg h0] at ht
  obtain ⟨m, hm⟩ : ∃ m : Nat, x.1.1 29 = ((m + 1 : Nat) : Int) := ⟨(x.1.1 29 - 1).toNat, by omega⟩
  rw [show (x.1.1 29 - 1).toNat = m by omega] at ht
  rw [show (x.1.1 29).toNat = m + 1 by omega] at h1 h3
  have es : stN x.2 (m + 1) = stN x.2 m + 3 := by
    show stN x.2 m + (if x.2 m = 12 then 0 else 3) = _
    rw [if_neg (by omega)]
  have ed : dpN x.2 (m + 1) = dpN x.2 m + (if k = 9 then 1 else 0) := by
    show dpN x.2 m + (if x.2 m = 9 ∨ x.2 m = 12 then 1 else 0) = _
    rw [ht]
    by_cases c : k = 9
    · rw [if_pos (Or.inl c), if_pos c]
    · rw [if_neg (fun z => z.elim c hk.2), if_neg c]
  have e29 : (anS k x).1.1 29 = x.1.1 29 - 1 := by
    show fu (fu (enF k 0 x.1).1 29 (x.1.1 29 - 1)) 27 (x.1.1 27 - (if k = 9 then 1 else 0)) 29 = _
    rw [fu_ne _ _ (by decide), fu_eq]
  have e27 : (anS k x).1.1 27 = x.1.1 27 - (if k = 9 then 1 else 0) := by
    unfold anS
    dsimp only
    exact fu_eq _ _ _
  have eo : ∀ j, j ≠ 26 → j ≠ 27 → j ≠ 29 → (anS k x).1.1 j = x.1.1 j := fun j a b c => by
    show fu (fu (enF k 0 x.1).1 29 (x.1.1 29 - 1)) 27 (x.1.1 27 - (if k = 9 then 1 else 0)) j = _
    rw [fu_ne _ _ b, fu_ne _ _ c]
    exact en_o a
  have e26 : (anS k x).1.1 26 = (enF k 0 x.1).1 26 := by
    show fu (fu (enF k 0 x.1).1 29 (x.1.1 29 - 1)) 27 (x.1.1 27 - (if k = 9 then 1 else 0)) 26 = _
    rw [fu_ne _ _ (by decide), fu_ne _ _ (by decide)]
  have r := h1.ent (k := k) (v := 0)
  rw [es] at r
  refine ⟨⟨?_, ?_, ?_⟩, by omega, e29, eo 21 (by decide) (by decide) (by decide), eo 22 (by decide) (by decide) (by decide)⟩
  · have eq : ∀ j, j ≠ 27 → j ≠ 29 → (anS k x).1.1 j = (enF k 0 x.1).1 j := fun j b c => by
      show fu (fu (enF k 0 x.1).1 29 (x.1.1 29 - 1)) 27 (x.1.1 27 - (if k = 9 then 1 else 0)) j = _
      rw [fu_ne _ _ b, fu_ne _ _ c]
    have r2 := r.wk (K' := stN x.2 m + K) (D' := D) (by omega) (Int.le_refl _)
    rw [e29, show (x.1.1 29 - 1).toNat = m by omega]
    show RI n (stN x.2 m + K) D (anS k x).1
    unfold RI at r2 ⊢
    rw [eq 20 (by decide) (by decide), eq 21 (by decide) (by decide), eq 22 (by decide) (by decide), eq 23 (by decide) (by decide), eq 26 (by decide) (by decide), eq 28 (by decide) (by decide), eq 30 (by decide) (by decide)]
    exact r2
  · rw [e29, eo 21 (by decide) (by decide) (by decide)]
    omega
  · rw [e29, eo 21 (by decide) (by decide) (by decide), e27, show (x.1.1 29 - 1).toNat = m by omega]
    show dpN x.2 m ≤ _ ∧ _
    have := dpN_p x.2 m
    rw [ed] at h3
    split at h3 <;> split <;> omega
section WLU
variable {W : AW} {Q : AQ} {T : Nat → Int} {x : GT} {n : Nat} {K D k : Int}
theorem y_top (hR : RS W) (h : 0 ≤ x.1.1 29 ∧ x.1.1 29 ≤ 401) : Gm 220 [vr 148] (GX W x) Q ↔ Q (some (vi (topF x))) (GX W x) := by
  have hw : 192 ≤ W.1 := hR.1
  unfold topF
  rw [e220]
  by_cases c : x.1.1 29 = 0
  · rw [if_pos c]
    simp (disch := omega) only [s_1, s_2, s_3, s_4, s_76, s_5, s_6, s_7, s_8, s_9, s_10, s_11, s_12, s_13, s_14, s_15, s_16, s_17, s_18, s_19, s_20, s_21, s_22, s_23, s_24, s_25, s_26, s_27, s_28, s_29, s_30, s_31, s_32, s_33, s_34, s_35, s_36, s_37, s_38, s_39, s_40l, s_40i, s_40r, s_41, s_43, t_44, t_45, t_46, t_47, s_48, s_49, s_50, s_51, s_52, s_53, s_54, s_55, s_56, s_57, s_58, s_59, s_60, s_61, s_62_0, s_62_1, s_62_2, s_66, s_67, s_68, s_69, s_70, s_71, s_72, s_73, sws_n, sws_c, lget, lset, fget, fset, nolg, nolong, avc, stw, cnd, isobj_eo, GCi, GCn, retk, List.length_cons, List.length_nil, ↓reduceIte, and_true, true_and, not_true_eq_false, not_false_eq_true, forall_const, Nat.reduceAdd, Nat.reduceLT, Nat.reduceLeDiff, Nat.lt_add_one, Nat.le_refl, Nat.zero_le, Nat.sub_zero, Int.reduceEq, Int.reduceNe, Int.reduceLT, Int.reduceLE, Int.reduceAdd, Int.reduceSub, Int.reduceMul, Int.reduceNeg, Int.reduceTDiv, Int.reduceTMod, ne_eq, reduceCtorEq, Nat.reduceEqDiff, Int.cast_ofNat_Int, true_or, or_true, false_or, or_false, lcq_0, lcq_2, lcq_3, lcq_4, lcq_5, wu_s, wu_1, wu_w, wu_lt, wu_ne, ar_s, ar_n, rr_s, rr_n, ob_n, nz_c, lt_T, lt_F, le_T, le_F, ie_T, ie_F, nt_T, nt_F, nl_T, nl_F, in_T, and_false, false_and, and_self, not_true_eq_false, Int.toNat_natCast, Int.reduceToNat, if_true, if_false, mi_220, i220_0, i220_1, i220_4, i220_7, i220_8, i220_11, i220_12, i220_15, i220_16, i220_19, i220_20, i220_21, i220_22, g12_29, g12_40, c]
  · rw [if_neg c]
    simp (disch := omega) only [s_1, s_2, s_3, s_4, s_76, s_5, s_6, s_7, s_8, s_9, s_10, s_11, s_12, s_13, s_14, s_15, s_16, s_17, s_18, s_19, s_20, s_21, s_22, s_23, s_24, s_25, s_26, s_27, s_28, s_29, s_30, s_31, s_32, s_33, s_34, s_35, s_36, s_37, s_38, s_39, s_40l, s_40i, s_40r, s_41, s_43, t_44, t_45, t_46, t_47, s_48, s_49, s_50, s_51, s_52, s_53, s_54, s_55, s_56, s_57, s_58, s_59, s_60, s_61, s_62_0, s_62_1, s_62_2, s_66, s_67, s_68, s_69, s_70, s_71, s_72, s_73, sws_n, sws_c, lget, lset, fget, fset, nolg, nolong, avc, stw, cnd, isobj_eo, GCi, GCn, retk, List.length_cons, List.length_nil, ↓reduceIte, and_true, true_and, not_true_eq_false, not_false_eq_true, forall_const, Nat.reduceAdd, Nat.reduceLT, Nat.reduceLeDiff, Nat.lt_add_one, Nat.le_refl, Nat.zero_le, Nat.sub_zero, Int.reduceEq, Int.reduceNe, Int.reduceLT, Int.reduceLE, Int.reduceAdd, Int.reduceSub, Int.reduceMul, Int.reduceNeg, Int.reduceTDiv, Int.reduceTMod, ne_eq, reduceCtorEq, Nat.reduceEqDiff, Int.cast_ofNat_Int, true_or, or_true, false_or, or_false, lcq_0, lcq_2, lcq_3, lcq_4, lcq_5, wu_s, wu_1, wu_w, wu_lt, wu_ne, ar_s, ar_n, rr_s, rr_n, ob_n, nz_c, lt_T, lt_F, le_T, le_F, ie_T, ie_F, nt_T, nt_F, nl_T, nl_F, in_T, and_false, false_and, and_self, not_true_eq_false, Int.toNat_natCast, Int.reduceToNat, if_true, if_false, mi_220, i220_0, i220_1, i220_4, i220_7, i220_8, i220_11, i220_12, i220_15, i220_16, i220_19, i220_20, i220_21, i220_22, g12_29, g12_40, eq_false c]
theorem y_opens (hx : TX W T n) (h : RI n K D x.1) (h29 : 0 ≤ x.1.1 29 ∧ x.1.1 29 ≤ 401) (h27 : -1000 ≤ x.1.1 27 ∧ x.1.1 27 ≤ 1000) : Gm 207 [vr 148, vi k] (GX W x) Q ↔ Q none (GX W (opF k x)) := by
  have hR := hx.1
  have hw : 192 ≤ W.1 := hR.1
  have hn := hx.2.2.2.2
  have hp := h.2.1
  have yf := fun {Q : AQ} => yv_fails (W := W) (Q := Q) (σ := x.1) (o := x.2) (c := 2) (pl := x.1.1 21) hx (by omega) (by decide)
  have q27 : (flF 2 (x.1.1 21) x.1).1 27 = x.1.1 27 := fl_o (by decide)
  have q29 : ∀ v, fu (flF 2 (x.1.1 21) x.1).1 27 v 29 = x.1.1 29 := fun v => by rw [fu_ne _ _ (by decide)]; exact fl_o (by decide)
  have r29 : ∀ v, fu x.1.1 27 v 29 = x.1.1 29 := fun v => fu_ne _ _ (by decide)
  have i27 : in32 (x.1.1 27 + 1) := by unfold in32; omega
  have i29 : in32 (x.1.1 29 + 1) := by unfold in32; omega
  have b29 : x.1.1 29 < 402 := by omega
  unfold opF opD
  rw [e207]
  by_cases c : k = 9
  · by_cases d : x.1.1 27 = 10
    · rw [if_pos (Or.inl c), if_pos d]
      simp (disch := omega) only [s_1, s_2, s_3, s_4, s_76, s_5, s_6, s_7, s_8, s_9, s_10, s_11, s_12, s_13, s_14, s_15, s_16, s_17, s_18, s_19, s_20, s_21, s_22, s_23, s_24, s_25, s_26, s_27, s_28, s_29, s_30, s_31, s_32, s_33, s_34, s_35, s_36, s_37, s_38, s_39, s_40l, s_40i, s_40r, s_41, s_43, t_44, t_45, t_46, t_47, s_48, s_49, s_50, s_51, s_52, s_53, s_54, s_55, s_56, s_57, s_58, s_59, s_60, s_61, s_62_0, s_62_1, s_62_2, s_66, s_67, s_68, s_69, s_70, s_71, s_72, s_73, sws_n, sws_c, lget, lset, fget, fset, nolg, nolong, avc, stw, cnd, isobj_eo, GCi, GCn, retk, List.length_cons, List.length_nil, ↓reduceIte, and_true, true_and, not_true_eq_false, not_false_eq_true, forall_const, Nat.reduceAdd, Nat.reduceLT, Nat.reduceLeDiff, Nat.lt_add_one, Nat.le_refl, Nat.zero_le, Nat.sub_zero, Int.reduceEq, Int.reduceNe, Int.reduceLT, Int.reduceLE, Int.reduceAdd, Int.reduceSub, Int.reduceMul, Int.reduceNeg, Int.reduceTDiv, Int.reduceTMod, ne_eq, reduceCtorEq, Nat.reduceEqDiff, Int.cast_ofNat_Int, true_or, or_true, false_or, or_false, lcq_0, lcq_2, lcq_3, lcq_4, lcq_5, wu_s, wu_1, wu_w, wu_lt, wu_ne, ar_s, ar_n, rr_s, rr_n, ob_n, nz_c, lt_T, lt_F, le_T, le_F, ie_T, ie_F, nt_T, nt_F, nl_T, nl_F, in_T, and_false, false_and, and_self, not_true_eq_false, Int.toNat_natCast, Int.reduceToNat, if_true, if_false, mi_207, i207_0, i207_1, i207_3, i207_6, i207_7, i207_9, i207_12, i207_13, i207_16, i207_18, i207_21, i207_22, i207_23, i207_24, i207_27, i207_30, i207_31, i207_32, i207_35, i207_36, i207_37, i207_40, i207_41, i207_44, i207_45, i207_48, i207_49, i207_50, i207_51, i207_52, i207_55, i207_56, i207_57, i207_60, k203, g12_21, g12_27, g12_29, g12_40, p12_27, p12_29, c, d, yf, q27, q29, i29, b29, h29.1]
      exact Iff.rfl
    · rw [if_pos (Or.inl c), if_neg d]
      simp (disch := omega) only [s_1, s_2, s_3, s_4, s_76, s_5, s_6, s_7, s_8, s_9, s_10, s_11, s_12, s_13, s_14, s_15, s_16, s_17, s_18, s_19, s_20, s_21, s_22, s_23, s_24, s_25, s_26, s_27, s_28, s_29, s_30, s_31, s_32, s_33, s_34, s_35, s_36, s_37, s_38, s_39, s_40l, s_40i, s_40r, s_41, s_43, t_44, t_45, t_46, t_47, s_48, s_49, s_50, s_51, s_52, s_53, s_54, s_55, s_56, s_57, s_58, s_59, s_60, s_61, s_62_0, s_62_1, s_62_2, s_66, s_67, s_68, s_69, s_70, s_71, s_72, s_73, sws_n, sws_c, lget, lset, fget, fset, nolg, nolong, avc, stw, cnd, isobj_eo, GCi, GCn, retk, List.length_cons, List.length_nil, ↓reduceIte, and_true, true_and, not_true_eq_false, not_false_eq_true, forall_const, Nat.reduceAdd, Nat.reduceLT, Nat.reduceLeDiff, Nat.lt_add_one, Nat.le_refl, Nat.zero_le, Nat.sub_zero, Int.reduceEq, Int.reduceNe, Int.reduceLT, Int.reduceLE, Int.reduceAdd, Int.reduceSub, Int.reduceMul, Int.reduceNeg, Int.reduceTDiv, Int.reduceTMod, ne_eq, reduceCtorEq, Nat.reduceEqDiff, Int.cast_ofNat_Int, true_or, or_true, false_or, or_false, lcq_0, lcq_2, lcq_3, lcq_4, lcq_5, wu_s, wu_1, wu_w, wu_lt, wu_ne, ar_s, ar_n, rr_s, rr_n, ob_n, nz_c, lt_T, lt_F, le_T, le_F, ie_T, ie_F, nt_T, nt_F, nl_T, nl_F, in_T, and_false, false_and, and_self, not_true_eq_false, Int.toNat_natCast, Int.reduceToNat, if_true, if_false, mi_207, i207_0, i207_1, i207_3, i207_6, i207_7, i207_9, i207_12, i207_13, i207_16, i207_18, i207_21, i207_22, i207_23, i207_24, i207_27, i207_30, i207_31, i207_32, i207_35, i207_36, i207_37, i207_40, i207_41, i207_44, i207_45, i207_48, i207_49, i207_50, i207_51, i207_52, i207_55, i207_56, i207_57, i207_60, k203, g12_21, g12_27, g12_29, g12_40, p12_27, p12_29, c, d, r29, i27, i29, b29, h29.1]
  · by_cases c2 : k = 12
    · by_cases d : x.1.1 27 = 10
      · rw [if_pos (Or.inr c2), if_pos d]
        simp (disch := omega) only [s_1, s_2, s_3, s_4, s_76, s_5, s_6, s_7, s_8, s_9, s_10, s_11, s_12, s_13, s_14, s_15, s_16, s_17, s_18, s_19, s_20, s_21, s_22, s_23, s_24, s_25, s_26, s_27, s_28, s_29, s_30, s_31, s_32, s_33, s_34, s_35, s_36, s_37, s_38, s_39, s_40l, s_40i, s_40r, s_41, s_43, t_44, t_45, t_46, t_47, s_48, s_49, s_50, s_51, s_52, s_53, s_54, s_55, s_56, s_57, s_58, s_59, s_60, s_61, s_62_0, s_62_1, s_62_2, s_66, s_67, s_68, s_69, s_70, s_71, s_72, s_73, sws_n, sws_c, lget, lset, fget, fset, nolg, nolong, avc, stw, cnd, isobj_eo, GCi, GCn, retk, List.length_cons, List.length_nil, ↓reduceIte, and_true, true_and, not_true_eq_false, not_false_eq_true, forall_const, Nat.reduceAdd, Nat.reduceLT, Nat.reduceLeDiff, Nat.lt_add_one, Nat.le_refl, Nat.zero_le, Nat.sub_zero, Int.reduceEq, Int.reduceNe, Int.reduceLT, Int.reduceLE, Int.reduceAdd, Int.reduceSub, Int.reduceMul, Int.reduceNeg, Int.reduceTDiv, Int.reduceTMod, ne_eq, reduceCtorEq, Nat.reduceEqDiff, Int.cast_ofNat_Int, true_or, or_true, false_or, or_false, lcq_0, lcq_2, lcq_3, lcq_4, lcq_5, wu_s, wu_1, wu_w, wu_lt, wu_ne, ar_s, ar_n, rr_s, rr_n, ob_n, nz_c, lt_T, lt_F, le_T, le_F, ie_T, ie_F, nt_T, nt_F, nl_T, nl_F, in_T, and_false, false_and, and_self, not_true_eq_false, Int.toNat_natCast, Int.reduceToNat, if_true, if_false, mi_207, i207_0, i207_1, i207_3, i207_6, i207_7, i207_9, i207_12, i207_13, i207_16, i207_18, i207_21, i207_22, i207_23, i207_24, i207_27, i207_30, i207_31, i207_32, i207_35, i207_36, i207_37, i207_40, i207_41, i207_44, i207_45, i207_48, i207_49, i207_50, i207_51, i207_52, i207_55, i207_56, i207_57, i207_60, k203, g12_21, g12_27, g12_29, g12_40, p12_27, p12_29, c2, d, yf, q27, q29, i29, b29, h29.1]
        exact Iff.rfl
      · rw [if_pos (Or.inr c2), if_neg d]
        simp (disch := omega) only [s_1, s_2, s_3, s_4, s_76, s_5, s_6, s_7, s_8, s_9, s_10, s_11, s_12, s_13, s_14, s_15, s_16, s_17, s_18, s_19, s_20, s_21, s_22, s_23, s_24, s_25, s_26, s_27, s_28, s_29, s_30, s_31, s_32, s_33, s_34, s_35, s_36, s_37, s_38, s_39, s_40l, s_40i, s_40r, s_41, s_43, t_44, t_45, t_46, t_47, s_48, s_49, s_50, s_51, s_52, s_53, s_54, s_55, s_56, s_57, s_58, s_59, s_60, s_61, s_62_0, s_62_1, s_62_2, s_66, s_67, s_68, s_69, s_70, s_71, s_72, s_73, sws_n, sws_c, lget, lset, fget, fset, nolg, nolong, avc, stw, cnd, isobj_eo, GCi, GCn, retk, List.length_cons, List.length_nil, ↓reduceIte, and_true, true_and, not_true_eq_false, not_false_eq_true, forall_const, Nat.reduceAdd, Nat.reduceLT, Nat.reduceLeDiff, Nat.lt_add_one, Nat.le_refl, Nat.zero_le, Nat.sub_zero, Int.reduceEq, Int.reduceNe, Int.reduceLT, Int.reduceLE, Int.reduceAdd, Int.reduceSub, Int.reduceMul, Int.reduceNeg, Int.reduceTDiv, Int.reduceTMod, ne_eq, reduceCtorEq, Nat.reduceEqDiff, Int.cast_ofNat_Int, true_or, or_true, false_or, or_false, lcq_0, lcq_2, lcq_3, lcq_4, lcq_5, wu_s, wu_1, wu_w, wu_lt, wu_ne, ar_s, ar_n, rr_s, rr_n, ob_n, nz_c, lt_T, lt_F, le_T, le_F, ie_T, ie_F, nt_T, nt_F, nl_T, nl_F, in_T, and_false, false_and, and_self, not_true_eq_false, Int.toNat_natCast, Int.reduceToNat, if_true, if_false, mi_207, i207_0, i207_1, i207_3, i207_6, i207_7, i207_9, i207_12, i207_13, i207_16, i207_18, i207_21, i207_22, i207_23, i207_24, i207_27, i207_30, i207_31, i207_32, i207_35, i207_36, i207_37, i207_40, i207_41, i207_44, i207_45, i207_48, i207_49, i207_50, i207_51, i207_52, i207_55, i207_56, i207_57, i207_60, k203, g12_21, g12_27, g12_29, g12_40, p12_27, p12_29, c2, d, r29, i27, i29, b29, h29.1]
    · rw [if_neg (fun z => z.elim c c2)]
      simp (disch := omega) only [s_1, s_2, s_3, s_4, s_76, s_5, s_6, s_7, s_8, s_9, s_10, s_11, s_12, s_13, s_14, s_15, s_16, s_17, s_18, s_19, s_20, s_21, s_22, s_23, s_24, s_25, s_26, s_27, s_28, s_29, s_30, s_31, s_32, s_33, s_34, s_35, s_36, s_37, s_38, s_39, s_40l, s_40i, s_40r, s_41, s_43, t_44, t_45, t_46, t_47, s_48, s_49, s_50, s_51, s_52, s_53, s_54, s_55, s_56, s_57, s_58, s_59, s_60, s_61, s_62_0, s_62_1, s_62_2, s_66, s_67, s_68, s_69, s_70, s_71, s_72, s_73, sws_n, sws_c, lget, lset, fget, fset, nolg, nolong, avc, stw, cnd, isobj_eo, GCi, GCn, retk, List.length_cons, List.length_nil, ↓reduceIte, and_true, true_and, not_true_eq_false, not_false_eq_true, forall_const, Nat.reduceAdd, Nat.reduceLT, Nat.reduceLeDiff, Nat.lt_add_one, Nat.le_refl, Nat.zero_le, Nat.sub_zero, Int.reduceEq, Int.reduceNe, Int.reduceLT, Int.reduceLE, Int.reduceAdd, Int.reduceSub, Int.reduceMul, Int.reduceNeg, Int.reduceTDiv, Int.reduceTMod, ne_eq, reduceCtorEq, Nat.reduceEqDiff, Int.cast_ofNat_Int, true_or, or_true, false_or, or_false, lcq_0, lcq_2, lcq_3, lcq_4, lcq_5, wu_s, wu_1, wu_w, wu_lt, wu_ne, ar_s, ar_n, rr_s, rr_n, ob_n, nz_c, lt_T, lt_F, le_T, le_F, ie_T, ie_F, nt_T, nt_F, nl_T, nl_F, in_T, and_false, false_and, and_self, not_true_eq_false, Int.toNat_natCast, Int.reduceToNat, if_true, if_false, mi_207, i207_0, i207_1, i207_3, i207_6, i207_7, i207_9, i207_12, i207_13, i207_16, i207_18, i207_21, i207_22, i207_23, i207_24, i207_27, i207_30, i207_31, i207_32, i207_35, i207_36, i207_37, i207_40, i207_41, i207_44, i207_45, i207_48, i207_49, i207_50, i207_51, i207_52, i207_55, i207_56, i207_57, i207_60, k203, g12_21, g12_27, g12_29, g12_40, p12_27, p12_29, c, c2]
theorem RA.ans {n : Nat} {K D k : Int} (hk : 0 ≤ k ∧ k ≠ 12) : ∀ (f : Nat) (x : GT), RA n K D x → RA n K D (anF k f x) ∧ (anF k f x).1.1 21 = x.1.1 21 ∧ (anF k f x).1.1 22 = x.1.1 22
  | 0, x, h => ⟨h, rfl, rfl⟩
  | f + 1, x, h => by
    show RA n K D (if topF x = k ∧ x.1.1 22 = 0 then anF k f (anS k x) else x) ∧ (if topF x = k ∧ x.1.1 22 = 0 then anF k f (anS k x) else x).1.1 21 = x.1.1 21 ∧ (if topF x = k ∧ x.1.1 22 = 0 then anF k f (anS k x) else x).1.1 22 = x.1.1 22
    by_cases c : topF x = k ∧ x.1.1 22 = 0
    · rw [if_pos c]
      obtain ⟨a1, a2, a3, a4, a5⟩ := h.an hk c.1
      obtain ⟨b1, b2, b3⟩ := RA.ans hk f _ a1
      exact ⟨b1, b2.trans a4, b3.trans a5⟩
    · rw [if_neg c]
      exact ⟨h, rfl, rfl⟩
theorem y_answers (hx : TX W T n) (hK : 0 ≤ K) (hk : 0 ≤ k ∧ k ≠ 12) : ∀ (f : Nat) (x : GT), RA n K D x → x.1.1 29 ≤ (f : Int) → Q none (GX W (anF k f x)) → G 219 0 [some (vr 148), some (vi k)] [] (GX W x) 0 0 Q := by
  have hR := hx.1
  have hw : 192 ≤ W.1 := hR.1
  have hn := hx.2.2.2.2
  intro f
  induction f with
  | zero =>
    intro x h hf hQ
    have h2 := h.2.1
    have hp := h.1.2.1
    have yt := fun {Q : AQ} => y_top (W := W) (Q := Q) (x := x) hR (by omega)
    have e : topF x = -1 := if_pos (by omega)
    rw [e] at yt
    have hk2 : ¬ (-1 : Int) = k := by omega
    rw [i219_0]
    simp (disch := omega) only [s_1, s_2, s_3, s_4, s_76, s_5, s_6, s_7, s_8, s_9, s_10, s_11, s_12, s_13, s_14, s_15, s_16, s_17, s_18, s_19, s_20, s_21, s_22, s_23, s_24, s_25, s_26, s_27, s_28, s_29, s_30, s_31, s_32, s_33, s_34, s_35, s_36, s_37, s_38, s_39, s_40l, s_40i, s_40r, s_41, s_43, t_44, t_45, t_46, t_47, s_48, s_49, s_50, s_51, s_52, s_53, s_54, s_55, s_56, s_57, s_58, s_59, s_60, s_61, s_62_0, s_62_1, s_62_2, s_66, s_67, s_68, s_69, s_70, s_71, s_72, s_73, sws_n, sws_c, lget, lset, fget, fset, nolg, nolong, avc, stw, cnd, isobj_eo, GCi, GCn, retk, List.length_cons, List.length_nil, ↓reduceIte, and_true, true_and, not_true_eq_false, not_false_eq_true, forall_const, Nat.reduceAdd, Nat.reduceLT, Nat.reduceLeDiff, Nat.lt_add_one, Nat.le_refl, Nat.zero_le, Nat.sub_zero, Int.reduceEq, Int.reduceNe, Int.reduceLT, Int.reduceLE, Int.reduceAdd, Int.reduceSub, Int.reduceMul, Int.reduceNeg, Int.reduceTDiv, Int.reduceTMod, ne_eq, reduceCtorEq, Nat.reduceEqDiff, Int.cast_ofNat_Int, true_or, or_true, false_or, or_false, lcq_0, lcq_2, lcq_3, lcq_4, lcq_5, wu_s, wu_1, wu_w, wu_lt, wu_ne, ar_s, ar_n, rr_s, rr_n, ob_n, nz_c, lt_T, lt_F, le_T, le_F, ie_T, ie_F, nt_T, nt_F, nl_T, nl_F, in_T, and_false, false_and, and_self, not_true_eq_false, Int.toNat_natCast, Int.reduceToNat, if_true, if_false, mi_219, i219_0, i219_1, i219_4, i219_5, i219_8, i219_9, i219_12, i219_15, i219_16, i219_17, i219_18, i219_21, i219_22, i219_23, i219_26, i219_27, i219_28, i219_31, i219_32, i219_33, i219_36, i219_37, i219_39, i219_42, i219_43, i219_46, i219_47, i219_48, i219_51, i219_54, k215, k220, g12_22, g12_27, g12_29, p12_27, p12_29, yt, hk2]
    exact hQ
  | succ f ih =>
    intro x h hf hQ
    have h2 := h.2.1
    have h3 := h.2.2
    have hp := h.1.2.1
    have yt := fun {Q : AQ} => y_top (W := W) (Q := Q) (x := x) hR (by omega)
    change Q none (GX W (if topF x = k ∧ x.1.1 22 = 0 then anF k f (anS k x) else x)) at hQ
    rw [i219_0]
    by_cases c : topF x = k
    · by_cases d : x.1.1 22 = 0
      · rw [if_pos ⟨c, d⟩] at hQ
        obtain ⟨a1, a2, a3, a4, a5⟩ := h.an hk c
        have ye := fun {Q : AQ} => yv_entry (Q := Q) (o := x.2) (k := k) (v := 0) hx h.1 (by have := stN_p x.2 (x.1.1 29).toNat; omega)
        have f29 : (enF k 0 x.1).1 29 = x.1.1 29 := en_o (by decide)
        have f27 : ∀ v, fu (enF k 0 x.1).1 29 v 27 = x.1.1 27 := fun v => by rw [fu_ne _ _ (by decide)]; exact en_o (by decide)
        have d0 := dpN_p x.2 (x.1.1 29).toNat
        have i29 : in32 (x.1.1 29 - 1) := by unfold in32; omega
        have ih2 := ih _ a1 (by omega) hQ
        unfold anS at ih2
        by_cases k9 : k = 9
        · subst k9
          rw [if_pos rfl] at ih2
          have i27 : in32 (x.1.1 27 - 1) := by unfold in32; omega
          simp (disch := omega) only [s_1, s_2, s_3, s_4, s_76, s_5, s_6, s_7, s_8, s_9, s_10, s_11, s_12, s_13, s_14, s_15, s_16, s_17, s_18, s_19, s_20, s_21, s_22, s_23, s_24, s_25, s_26, s_27, s_28, s_29, s_30, s_31, s_32, s_33, s_34, s_35, s_36, s_37, s_38, s_39, s_40l, s_40i, s_40r, s_41, s_43, t_44, t_45, t_46, t_47, s_48, s_49, s_50, s_51, s_52, s_53, s_54, s_55, s_56, s_57, s_58, s_59, s_60, s_61, s_62_0, s_62_1, s_62_2, s_66, s_67, s_68, s_69, s_70, s_71, s_72, s_73, sws_n, sws_c, lget, lset, fget, fset, nolg, nolong, avc, stw, cnd, isobj_eo, GCi, GCn, retk, List.length_cons, List.length_nil, ↓reduceIte, and_true, true_and, not_true_eq_false, not_false_eq_true, forall_const, Nat.reduceAdd, Nat.reduceLT, Nat.reduceLeDiff, Nat.lt_add_one, Nat.le_refl, Nat.zero_le, Nat.sub_zero, Int.reduceEq, Int.reduceNe, Int.reduceLT, Int.reduceLE, Int.reduceAdd, Int.reduceSub, Int.reduceMul, Int.reduceNeg, Int.reduceTDiv, Int.reduceTMod, ne_eq, reduceCtorEq, Nat.reduceEqDiff, Int.cast_ofNat_Int, true_or, or_true, false_or, or_false, lcq_0, lcq_2, lcq_3, lcq_4, lcq_5, wu_s, wu_1, wu_w, wu_lt, wu_ne, ar_s, ar_n, rr_s, rr_n, ob_n, nz_c, lt_T, lt_F, le_T, le_F, ie_T, ie_F, nt_T, nt_F, nl_T, nl_F, in_T, and_false, false_and, and_self, not_true_eq_false, Int.toNat_natCast, Int.reduceToNat, if_true, if_false, mi_219, i219_1, i219_4, i219_5, i219_8, i219_9, i219_12, i219_15, i219_16, i219_17, i219_18, i219_21, i219_22, i219_23, i219_26, i219_27, i219_28, i219_31, i219_32, i219_33, i219_36, i219_37, i219_39, i219_42, i219_43, i219_46, i219_47, i219_48, i219_51, i219_54, k215, k220, g12_22, g12_27, g12_29, p12_27, p12_29, yt, c, d, ye, f29, f27, i29, i27]
          exact ih2
        · rw [if_neg k9] at ih2
          have i27 : in32 (x.1.1 27 - 0) := by unfold in32; omega
          simp (disch := omega) only [s_1, s_2, s_3, s_4, s_76, s_5, s_6, s_7, s_8, s_9, s_10, s_11, s_12, s_13, s_14, s_15, s_16, s_17, s_18, s_19, s_20, s_21, s_22, s_23, s_24, s_25, s_26, s_27, s_28, s_29, s_30, s_31, s_32, s_33, s_34, s_35, s_36, s_37, s_38, s_39, s_40l, s_40i, s_40r, s_41, s_43, t_44, t_45, t_46, t_47, s_48, s_49, s_50, s_51, s_52, s_53, s_54, s_55, s_56, s_57, s_58, s_59, s_60, s_61, s_62_0, s_62_1, s_62_2, s_66, s_67, s_68, s_69, s_70, s_71, s_72, s_73, sws_n, sws_c, lget, lset, fget, fset, nolg, nolong, avc, stw, cnd, isobj_eo, GCi, GCn, retk, List.length_cons, List.length_nil, ↓reduceIte, and_true, true_and, not_true_eq_false, not_false_eq_true, forall_const, Nat.reduceAdd, Nat.reduceLT, Nat.reduceLeDiff, Nat.lt_add_one, Nat.le_refl, Nat.zero_le, Nat.sub_zero, Int.reduceEq, Int.reduceNe, Int.reduceLT, Int.reduceLE, Int.reduceAdd, Int.reduceSub, Int.reduceMul, Int.reduceNeg, Int.reduceTDiv, Int.reduceTMod, ne_eq, reduceCtorEq, Nat.reduceEqDiff, Int.cast_ofNat_Int, true_or, or_true, false_or, or_false, lcq_0, lcq_2, lcq_3, lcq_4, lcq_5, wu_s, wu_1, wu_w, wu_lt, wu_ne, ar_s, ar_n, rr_s, rr_n, ob_n, nz_c, lt_T, lt_F, le_T, le_F, ie_T, ie_F, nt_T, nt_F, nl_T, nl_F, in_T, and_false, false_and, and_self, not_true_eq_false, Int.toNat_natCast, Int.reduceToNat, if_true, if_false, mi_219, i219_1, i219_4, i219_5, i219_8, i219_9, i219_12, i219_15, i219_16, i219_17, i219_18, i219_21, i219_22, i219_23, i219_26, i219_27, i219_28, i219_31, i219_32, i219_33, i219_36, i219_37, i219_39, i219_42, i219_43, i219_46, i219_47, i219_48, i219_51, i219_54, k215, k220, g12_22, g12_27, g12_29, p12_27, p12_29, yt, c, d, ye, f29, f27, i29, i27, k9]
          exact ih2
      · rw [if_neg (fun z => d z.2)] at hQ
        simp (disch := omega) only [s_1, s_2, s_3, s_4, s_76, s_5, s_6, s_7, s_8, s_9, s_10, s_11, s_12, s_13, s_14, s_15, s_16, s_17, s_18, s_19, s_20, s_21, s_22, s_23, s_24, s_25, s_26, s_27, s_28, s_29, s_30, s_31, s_32, s_33, s_34, s_35, s_36, s_37, s_38, s_39, s_40l, s_40i, s_40r, s_41, s_43, t_44, t_45, t_46, t_47, s_48, s_49, s_50, s_51, s_52, s_53, s_54, s_55, s_56, s_57, s_58, s_59, s_60, s_61, s_62_0, s_62_1, s_62_2, s_66, s_67, s_68, s_69, s_70, s_71, s_72, s_73, sws_n, sws_c, lget, lset, fget, fset, nolg, nolong, avc, stw, cnd, isobj_eo, GCi, GCn, retk, List.length_cons, List.length_nil, ↓reduceIte, and_true, true_and, not_true_eq_false, not_false_eq_true, forall_const, Nat.reduceAdd, Nat.reduceLT, Nat.reduceLeDiff, Nat.lt_add_one, Nat.le_refl, Nat.zero_le, Nat.sub_zero, Int.reduceEq, Int.reduceNe, Int.reduceLT, Int.reduceLE, Int.reduceAdd, Int.reduceSub, Int.reduceMul, Int.reduceNeg, Int.reduceTDiv, Int.reduceTMod, ne_eq, reduceCtorEq, Nat.reduceEqDiff, Int.cast_ofNat_Int, true_or, or_true, false_or, or_false, lcq_0, lcq_2, lcq_3, lcq_4, lcq_5, wu_s, wu_1, wu_w, wu_lt, wu_ne, ar_s, ar_n, rr_s, rr_n, ob_n, nz_c, lt_T, lt_F, le_T, le_F, ie_T, ie_F, nt_T, nt_F, nl_T, nl_F, in_T, and_false, false_and, and_self, not_true_eq_false, Int.toNat_natCast, Int.reduceToNat, if_true, if_false, mi_219, i219_1, i219_4, i219_5, i219_8, i219_9, i219_12, i219_15, i219_16, i219_17, i219_18, i219_21, i219_22, i219_23, i219_26, i219_27, i219_28, i219_31, i219_32, i219_33, i219_36, i219_37, i219_39, i219_42, i219_43, i219_46, i219_47, i219_48, i219_51, i219_54, k215, k220, g12_22, g12_27, g12_29, p12_27, p12_29, yt, c, d]
        exact hQ
    · rw [if_neg (fun z => c z.1)] at hQ
      simp (disch := omega) only [s_1, s_2, s_3, s_4, s_76, s_5, s_6, s_7, s_8, s_9, s_10, s_11, s_12, s_13, s_14, s_15, s_16, s_17, s_18, s_19, s_20, s_21, s_22, s_23, s_24, s_25, s_26, s_27, s_28, s_29, s_30, s_31, s_32, s_33, s_34, s_35, s_36, s_37, s_38, s_39, s_40l, s_40i, s_40r, s_41, s_43, t_44, t_45, t_46, t_47, s_48, s_49, s_50, s_51, s_52, s_53, s_54, s_55, s_56, s_57, s_58, s_59, s_60, s_61, s_62_0, s_62_1, s_62_2, s_66, s_67, s_68, s_69, s_70, s_71, s_72, s_73, sws_n, sws_c, lget, lset, fget, fset, nolg, nolong, avc, stw, cnd, isobj_eo, GCi, GCn, retk, List.length_cons, List.length_nil, ↓reduceIte, and_true, true_and, not_true_eq_false, not_false_eq_true, forall_const, Nat.reduceAdd, Nat.reduceLT, Nat.reduceLeDiff, Nat.lt_add_one, Nat.le_refl, Nat.zero_le, Nat.sub_zero, Int.reduceEq, Int.reduceNe, Int.reduceLT, Int.reduceLE, Int.reduceAdd, Int.reduceSub, Int.reduceMul, Int.reduceNeg, Int.reduceTDiv, Int.reduceTMod, ne_eq, reduceCtorEq, Nat.reduceEqDiff, Int.cast_ofNat_Int, true_or, or_true, false_or, or_false, lcq_0, lcq_2, lcq_3, lcq_4, lcq_5, wu_s, wu_1, wu_w, wu_lt, wu_ne, ar_s, ar_n, rr_s, rr_n, ob_n, nz_c, lt_T, lt_F, le_T, le_F, ie_T, ie_F, nt_T, nt_F, nl_T, nl_F, in_T, and_false, false_and, and_self, not_true_eq_false, Int.toNat_natCast, Int.reduceToNat, if_true, if_false, mi_219, i219_1, i219_4, i219_5, i219_8, i219_9, i219_12, i219_15, i219_16, i219_17, i219_18, i219_21, i219_22, i219_23, i219_26, i219_27, i219_28, i219_31, i219_32, i219_33, i219_36, i219_37, i219_39, i219_42, i219_43, i219_46, i219_47, i219_48, i219_51, i219_54, k215, k220, g12_22, g12_27, g12_29, p12_27, p12_29, yt, c]
      exact hQ
end WLU
