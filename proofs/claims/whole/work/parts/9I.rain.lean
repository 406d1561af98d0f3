-- RAIN: whole
theorem cn_cl {t : Nat → Int} {e T : Nat} (he : e < 180) (ht : t e = (T : Int)) (x : Nat) : cn (fu t e (-1)) x 180 = cn t x 180 - if x = T then 1 else 0 := by
  rw [cn_u 180 he, ht, if_neg (show ¬ (-1 : Int) = (x : Int) by omega)]
  by_cases c : x = T
  · rw [if_pos c, if_pos (by omega)]; omega
  · rw [if_neg c, if_neg (by omega)]; omega
theorem cl_step {t t12 v12 : Nat → Int} {e T : Nat} (he : e < 180) (ht : t e = (T : Int)) (tip : Nat) (hv : v12 tip = cl12 t12 t tip) : lsP T (cn t T 180) v12 tip = cl12 t12 (fu t e (-1)) tip := by
  have b := cn_b (t := fu t e (-1)) (x := (T : Int)) 180
  have e1 := cn_cl he ht T
  rw [if_pos rfl] at e1
  by_cases c : tip / 2 = T
  · have v1 : v12 tip = t12 tip := by
      rw [hv]
      unfold cl12
      rw [c, if_neg (fun q => by omega)]
    unfold lsP cl12
    rw [v1, c, e1]
    by_cases q : t12 tip = -3
    · by_cases q2 : cn t T 180 = 1
      · rw [if_pos ⟨q2, rfl, q⟩, if_pos ⟨q, by omega⟩]
      · rw [if_neg (fun r => q2 r.1), if_neg (fun r => q2 (by omega))]
    · rw [if_neg (fun r => q r.2.2), if_neg (fun r => q r.1)]
  · have e2 := cn_cl he ht (tip / 2)
    rw [if_neg c, Int.sub_zero] at e2
    unfold lsP
    rw [if_neg (fun r => c r.2.1), hv]
    unfold cl12
    rw [e2]
section RA
variable {W : AW} {Q : AQ} {ll : Nat} {lw : LW} {s : ST} {c r n : Int}
set_option maxRecDepth 10000 in
theorem x_pour (h : CW W 76 ll lw) (hk : LwOk lw) (hI : FI 0 (cF W 76)) (hLn : Ln W 76) (hTE : TE (cF W 76)) (hn : 0 ≤ n ∧ n ≤ 1000) (hQ : ∀ V, CW V 76 ll lw → V.1 = W.1 → (∀ k, k ≠ 77 → ¬ (82 ≤ k ∧ k ≤ 84) → k ≠ 87 → k ≠ 90 → V.2 k = W.2 k) → Sq (cF V 76) (rnS (lw.2 3) n (cF W 76)) → Ln V 76 → Q (some (vi (rnA (lw.2 3) n (cF W 76)))) V) : Gm 120 [vr 130, vi n] W Q := by
  have hw : 192 ≤ W.1 := h.1.1
  have hG : W.2 130 = o10 76 ll (ob W 130) := h.2.2.1
  have q67 : nfz = 67 := rfl
  obtain ⟨a1, a2, a3, a4, a5, a6, a7, a8, a9, a10, a11, a12⟩ := id hI
  have th : Thou (ar W 77) := a4
  have b5 : 0 ≤ ob W 85 0 ∧ ob W 85 0 ≤ 200 := a3
  have tw := rnW_b (n := n) th hn.1
  generalize hwt : rnW (ar W 77) n = w at tw
  generalize hhe : lw.2 3 = he at hQ
  have hQ' : ∀ V, CW V 76 ll lw → V.1 = W.1 → (∀ k, k ≠ 77 → ¬ (82 ≤ k ∧ k ≤ 84) → k ≠ 87 → k ≠ 90 → V.2 k = W.2 k) → Sq (cF V 76) (rnS he n (cF W 76)) → Ln V 76 → Q (some (vi (sm (hl1 he w (ar W 82)) 180))) V := by
    intro V v1 v2 v3 v4 v5
    have := hQ V v1 v2 v3 v4 v5
    rw [← hwt]
    exact this
  have bd : ∀ n : Nat, 0 ≤ sm (hl1 he w (ar W 82)) n ∧ sm (hl1 he w (ar W 82)) n ≤ 1 * n := fun n => sm_b n (fun i _ => by unfold hl1; split <;> omega)
  have k2 := loop_u (P := fun e => ∀ V, CW V 76 ll lw → V.1 = W.1 → (∀ k, k ≠ 77 → ¬ (82 ≤ k ∧ k ≤ 84) → k ≠ 87 → k ≠ 90 → V.2 k = W.2 k) → ar V 77 = w → ar V 82 = tlo (ar W 82) (rn6 he w (ar W 82) (ar W 82) (-1)) e → ar V 83 = tlo (ar W 83) (rn6 he w (ar W 82) (ar W 83) 0) e → ar V 84 = tlo (ar W 84) (rn6 he w (ar W 82) (ar W 84) 1) e → (∀ t : Nat, (t : Int) < ob W 85 0 → ar V 87 t = cn (ar V 82) t 180) → (∀ tip : Nat, (tip : Int) < 2 * ob W 85 0 → ar V 90 tip = cl12 (ar W 90) (ar V 82) tip) → G 120 44 [some (vr 130), some (vi n), some (vi (sm (hl1 he w (ar W 82)) e)), some (vi (e : Int))] [] V 0 0 Q) 180 (fun e hee ih => ?_) ?_ 0 (by omega)
  · have key := loop_u (P := fun i => G 120 2 [some (vr 130), some (vi n), some (vi (i : Int)), none] [] (wu W 77 (ea 0 400 (tlo (ar W 77) (fun c => min 1000 (ar W 77 c + n)) i))) 0 0 Q) 100 (fun i hi ih => ?_) ?_ 0 (by omega)
    · rw [tlo_0, wu_id (mv76_1 h.2.1)] at key
      rw [e120]
      simp (disch := omega) only [s_1, s_2, s_3, s_4, s_76, s_5, s_6, s_7, s_8, s_9, s_10, s_11, s_12, s_13, s_14, s_15, s_16, s_17, s_18, s_19, s_20, s_21, s_22, s_23, s_24, s_25, s_26, s_27, s_28, s_29, s_30, s_31, s_32, s_33, s_34, s_35, s_36, s_37, s_38, s_39, s_40l, s_40i, s_40r, s_41, s_43, t_44, t_45, t_46, t_47, s_48, s_49, s_50, s_51, s_52, s_53, s_54, s_55, s_56, s_57, s_58, s_59, s_60, s_61, s_62_0, s_62_1, s_62_2, s_66, s_67, s_68, s_69, s_70, s_71, s_72, s_73, sws_n, sws_c, lget, lset, fget, fset, nolg, nolong, avc, stw, cnd, isobj_eo, GCi, GCn, retk, List.length_cons, List.length_nil, ↓reduceIte, and_true, true_and, not_true_eq_false, not_false_eq_true, forall_const, Nat.reduceAdd, Nat.reduceLT, Nat.reduceLeDiff, Nat.lt_add_one, Nat.le_refl, Nat.zero_le, Nat.sub_zero, Int.reduceEq, Int.reduceNe, Int.reduceLT, Int.reduceLE, Int.reduceAdd, Int.reduceSub, Int.reduceMul, Int.reduceNeg, Int.reduceTDiv, Int.reduceTMod, ne_eq, reduceCtorEq, Nat.reduceEqDiff, Int.cast_ofNat_Int, true_or, or_true, false_or, or_false, lcq_0, lcq_2, lcq_3, lcq_4, lcq_5, wu_s, wu_1, wu_w, wu_lt, wu_ne, ar_s, ar_n, rr_s, rr_n, ob_n, nz_c, lt_T, lt_F, le_T, le_F, ie_T, ie_F, nt_T, nt_F, nl_T, nl_F, in_T, and_false, false_and, and_self, not_true_eq_false, Int.toNat_natCast, Int.reduceToNat, if_true, if_false, mi_120, i120_0, i120_1, i120_3, i120_5, i120_8, i120_9, i120_12, i120_15, i120_16, i120_19, i120_20, i120_23, i120_26, i120_27, i120_28, i120_29, i120_30, i120_33, i120_34, i120_37, i120_40, i120_41, i120_42, i120_43, i120_45, i120_48, i120_51, i120_52, i120_53, i120_54, i120_57, i120_60, i120_61, i120_64, i120_65, i120_68, i120_71, i120_74, i120_77, i120_78, k36, k121, k122, g10_4, g2_6]
      exact key
    · have t1 := th i
      have e1 : tlo (ar W 77) (fun c => min 1000 (ar W 77 c + n)) i i = ar W 77 i := tlo_ne (Nat.le_refl _)
      rw [nc1, ← tlo_s (g := fun c => min 1000 (ar W 77 c + n)) (v := min 1000 (ar W 77 i + n)) rfl] at ih
      rw [i120_2]
      simp (disch := omega) only [s_1, s_2, s_3, s_4, s_76, s_5, s_6, s_7, s_8, s_9, s_10, s_11, s_12, s_13, s_14, s_15, s_16, s_17, s_18, s_19, s_20, s_21, s_22, s_23, s_24, s_25, s_26, s_27, s_28, s_29, s_30, s_31, s_32, s_33, s_34, s_35, s_36, s_37, s_38, s_39, s_40l, s_40i, s_40r, s_41, s_43, t_44, t_45, t_46, t_47, s_48, s_49, s_50, s_51, s_52, s_53, s_54, s_55, s_56, s_57, s_58, s_59, s_60, s_61, s_62_0, s_62_1, s_62_2, s_66, s_67, s_68, s_69, s_70, s_71, s_72, s_73, sws_n, sws_c, lget, lset, fget, fset, nolg, nolong, avc, stw, cnd, isobj_eo, GCi, GCn, retk, List.length_cons, List.length_nil, ↓reduceIte, and_true, true_and, not_true_eq_false, not_false_eq_true, forall_const, Nat.reduceAdd, Nat.reduceLT, Nat.reduceLeDiff, Nat.lt_add_one, Nat.le_refl, Nat.zero_le, Nat.sub_zero, Int.reduceEq, Int.reduceNe, Int.reduceLT, Int.reduceLE, Int.reduceAdd, Int.reduceSub, Int.reduceMul, Int.reduceNeg, Int.reduceTDiv, Int.reduceTMod, ne_eq, reduceCtorEq, Nat.reduceEqDiff, Int.cast_ofNat_Int, true_or, or_true, false_or, or_false, lcq_0, lcq_2, lcq_3, lcq_4, lcq_5, wu_s, wu_1, wu_w, wu_lt, wu_ne, ar_s, ar_n, rr_s, rr_n, ob_n, nz_c, lt_T, lt_F, le_T, le_F, ie_T, ie_F, nt_T, nt_F, nl_T, nl_F, in_T, and_false, false_and, and_self, not_true_eq_false, Int.toNat_natCast, Int.reduceToNat, if_true, if_false, mi_120, i120_0, i120_1, i120_3, i120_5, i120_8, i120_9, i120_12, i120_15, i120_16, i120_19, i120_20, i120_23, i120_26, i120_27, i120_28, i120_29, i120_30, i120_33, i120_34, i120_37, i120_40, i120_41, i120_42, i120_43, i120_45, i120_48, i120_51, i120_52, i120_53, i120_54, i120_57, i120_60, i120_61, i120_64, i120_65, i120_68, i120_71, i120_74, i120_77, i120_78, k36, k121, k122, g10_4, g2_6, hG, mv76_0 h.2.1, e1, m_min]
      exact ih
    · have hV : CW (wu W 77 (ea 0 400 (tlo (ar W 77) (fun c => min 1000 (ar W 77 c + n)) 100))) 76 ll lw := cwm_1 (m := 76) h
      have e77 : ar (wu W 77 (ea 0 400 (tlo (ar W 77) (fun c => min 1000 (ar W 77 c + n)) 100))) 77 = w := by rw [ar_s]; exact hwt
      have eo : ∀ k, k ≠ 77 → (wu W 77 (ea 0 400 (tlo (ar W 77) (fun c => min 1000 (ar W 77 c + n)) 100))).2 k = W.2 k := fun k q => wu_ne q
      have kk := k2 _ hV rfl (fun k a _ _ _ => eo k a) e77 (by rw [ar_c (eo 82 (by decide)), tlo_0]) (by rw [ar_c (eo 83 (by decide)), tlo_0]) (by rw [ar_c (eo 84 (by decide)), tlo_0]) (fun t ht => by rw [ar_c (eo 87 (by decide)), ar_c (eo 82 (by decide))]; exact hLn t ht) (fun tip ht => by
        rw [ar_c (eo 90 (by decide)), ar_c (eo 82 (by decide))]
        unfold cl12
        by_cases q : ar W 90 tip = -3 ∧ cn (ar W 82) ((tip / 2 : Nat) : Int) 180 = 0
        · have te := hTE (tip / 2) (by show ((tip / 2 : Nat) : Int) < ob W 85 0; omega) q.2
          have te1 : ¬ ar W 90 (2 * (tip / 2)) = -3 ∧ ¬ ar W 90 (2 * (tip / 2) + 1) = -3 := te
          rcases (show tip = 2 * (tip / 2) ∨ tip = 2 * (tip / 2) + 1 by omega) with r | r
          · exact absurd (r ▸ q.1) te1.1
          · exact absurd (r ▸ q.1) te1.2
        · rw [if_neg q])
      rw [i120_2]
      simp (disch := omega) only [s_1, s_2, s_3, s_4, s_76, s_5, s_6, s_7, s_8, s_9, s_10, s_11, s_12, s_13, s_14, s_15, s_16, s_17, s_18, s_19, s_20, s_21, s_22, s_23, s_24, s_25, s_26, s_27, s_28, s_29, s_30, s_31, s_32, s_33, s_34, s_35, s_36, s_37, s_38, s_39, s_40l, s_40i, s_40r, s_41, s_43, t_44, t_45, t_46, t_47, s_48, s_49, s_50, s_51, s_52, s_53, s_54, s_55, s_56, s_57, s_58, s_59, s_60, s_61, s_62_0, s_62_1, s_62_2, s_66, s_67, s_68, s_69, s_70, s_71, s_72, s_73, sws_n, sws_c, lget, lset, fget, fset, nolg, nolong, avc, stw, cnd, isobj_eo, GCi, GCn, retk, List.length_cons, List.length_nil, ↓reduceIte, and_true, true_and, not_true_eq_false, not_false_eq_true, forall_const, Nat.reduceAdd, Nat.reduceLT, Nat.reduceLeDiff, Nat.lt_add_one, Nat.le_refl, Nat.zero_le, Nat.sub_zero, Int.reduceEq, Int.reduceNe, Int.reduceLT, Int.reduceLE, Int.reduceAdd, Int.reduceSub, Int.reduceMul, Int.reduceNeg, Int.reduceTDiv, Int.reduceTMod, ne_eq, reduceCtorEq, Nat.reduceEqDiff, Int.cast_ofNat_Int, true_or, or_true, false_or, or_false, lcq_0, lcq_2, lcq_3, lcq_4, lcq_5, wu_s, wu_1, wu_w, wu_lt, wu_ne, ar_s, ar_n, rr_s, rr_n, ob_n, nz_c, lt_T, lt_F, le_T, le_F, ie_T, ie_F, nt_T, nt_F, nl_T, nl_F, in_T, and_false, false_and, and_self, not_true_eq_false, Int.toNat_natCast, Int.reduceToNat, if_true, if_false, mi_120, i120_0, i120_1, i120_3, i120_5, i120_8, i120_9, i120_12, i120_15, i120_16, i120_19, i120_20, i120_23, i120_26, i120_27, i120_28, i120_29, i120_30, i120_33, i120_34, i120_37, i120_40, i120_41, i120_42, i120_43, i120_45, i120_48, i120_51, i120_52, i120_53, i120_54, i120_57, i120_60, i120_61, i120_64, i120_65, i120_68, i120_71, i120_74, i120_77, i120_78, k36, k121, k122, g10_4, g2_6]
      exact kk
  · intro V v1 v2 v3 v77 v82 v83 v84 v87 v90
    have wV : 192 ≤ V.1 := v1.1.1
    have hGV : V.2 130 = o10 76 ll (ob V 130) := v1.2.2.1
    have b := bd e
    have ge : ar V 82 e = ar W 82 e := by rw [v82, tlo_ne (Nat.le_refl _)]
    have hh := fun {Q : AQ} => x_heals (Q := Q) (n := 0) v1 hk (by rw [v77]; exact tw) (by decide) hee
    rw [hhe, v77, ge] at hh
    rw [show sm (hl1 he w (ar W 82)) (e + 1) = sm (hl1 he w (ar W 82)) e + hl1 he w (ar W 82) e from rfl, nc1] at ih
    rw [i120_44]
    by_cases q : hlP he w (ar W 82) e
    · have q2 : ¬ ar W 82 e = -1 ∧ he ≤ min (w (efc e).toNat) (w (eoc e).toNat) + 0 := ⟨q.1, by have := q.2; omega⟩
      have h9 := a9 e hee
      have h9a : -1 ≤ ar W 82 e := h9.1
      have h9b : ar W 82 e < ob W 85 0 := h9.2.1
      have hT : ar W 82 e = (((ar W 82 e).toNat : Nat) : Int) := by have := q.1; omega
      generalize (ar W 82 e).toNat = T at hT
      have oT : ar V 82 e = (T : Int) := ge.trans hT
      have lT : ar V 87 T = cn (ar V 82) T 180 := v87 T (by omega)
      have cb := cn_b (t := ar V 82) (x := (T : Int)) 180
      have cb2 := cn_b (t := fu (ar V 82) e (-1)) (x := (T : Int)) 180
      have c1 := cn_cl hee oT T
      rw [if_pos rfl] at c1
      rw [show hl1 he w (ar W 82) e = 1 from if_pos q, tlo_h q, tlo_h q, tlo_h q] at ih
      simp (disch := omega) only [s_1, s_2, s_3, s_4, s_76, s_5, s_6, s_7, s_8, s_9, s_10, s_11, s_12, s_13, s_14, s_15, s_16, s_17, s_18, s_19, s_20, s_21, s_22, s_23, s_24, s_25, s_26, s_27, s_28, s_29, s_30, s_31, s_32, s_33, s_34, s_35, s_36, s_37, s_38, s_39, s_40l, s_40i, s_40r, s_41, s_43, t_44, t_45, t_46, t_47, s_48, s_49, s_50, s_51, s_52, s_53, s_54, s_55, s_56, s_57, s_58, s_59, s_60, s_61, s_62_0, s_62_1, s_62_2, s_66, s_67, s_68, s_69, s_70, s_71, s_72, s_73, sws_n, sws_c, lget, lset, fget, fset, nolg, nolong, avc, stw, cnd, isobj_eo, GCi, GCn, retk, List.length_cons, List.length_nil, ↓reduceIte, and_true, true_and, not_true_eq_false, not_false_eq_true, forall_const, Nat.reduceAdd, Nat.reduceLT, Nat.reduceLeDiff, Nat.lt_add_one, Nat.le_refl, Nat.zero_le, Nat.sub_zero, Int.reduceEq, Int.reduceNe, Int.reduceLT, Int.reduceLE, Int.reduceAdd, Int.reduceSub, Int.reduceMul, Int.reduceNeg, Int.reduceTDiv, Int.reduceTMod, ne_eq, reduceCtorEq, Nat.reduceEqDiff, Int.cast_ofNat_Int, true_or, or_true, false_or, or_false, lcq_0, lcq_2, lcq_3, lcq_4, lcq_5, wu_s, wu_1, wu_w, wu_lt, wu_ne, ar_s, ar_n, rr_s, rr_n, ob_n, nz_c, lt_T, lt_F, le_T, le_F, ie_T, ie_F, nt_T, nt_F, nl_T, nl_F, in_T, and_false, false_and, and_self, not_true_eq_false, Int.toNat_natCast, Int.reduceToNat, if_true, if_false, mi_120, i120_0, i120_1, i120_3, i120_5, i120_8, i120_9, i120_12, i120_15, i120_16, i120_19, i120_20, i120_23, i120_26, i120_27, i120_28, i120_29, i120_30, i120_33, i120_34, i120_37, i120_40, i120_41, i120_42, i120_43, i120_45, i120_48, i120_51, i120_52, i120_53, i120_54, i120_57, i120_60, i120_61, i120_64, i120_65, i120_68, i120_71, i120_74, i120_77, i120_78, k36, k121, k122, g10_4, g2_6, hGV, mv76_0 v1.2.1, hh, bi_z, Classical.not_not, q2]
      refine x_close v1 hee oT (by omega) (by rw [lT]; omega) (fun U u1 u2 u3 u82 u83 u84 u87 u90 => ?_)
      simp (disch := omega) only [s_1, s_2, s_3, s_4, s_76, s_5, s_6, s_7, s_8, s_9, s_10, s_11, s_12, s_13, s_14, s_15, s_16, s_17, s_18, s_19, s_20, s_21, s_22, s_23, s_24, s_25, s_26, s_27, s_28, s_29, s_30, s_31, s_32, s_33, s_34, s_35, s_36, s_37, s_38, s_39, s_40l, s_40i, s_40r, s_41, s_43, t_44, t_45, t_46, t_47, s_48, s_49, s_50, s_51, s_52, s_53, s_54, s_55, s_56, s_57, s_58, s_59, s_60, s_61, s_62_0, s_62_1, s_62_2, s_66, s_67, s_68, s_69, s_70, s_71, s_72, s_73, sws_n, sws_c, lget, lset, fget, fset, nolg, nolong, avc, stw, cnd, isobj_eo, GCi, GCn, retk, List.length_cons, List.length_nil, ↓reduceIte, and_true, true_and, not_true_eq_false, not_false_eq_true, forall_const, Nat.reduceAdd, Nat.reduceLT, Nat.reduceLeDiff, Nat.lt_add_one, Nat.le_refl, Nat.zero_le, Nat.sub_zero, Int.reduceEq, Int.reduceNe, Int.reduceLT, Int.reduceLE, Int.reduceAdd, Int.reduceSub, Int.reduceMul, Int.reduceNeg, Int.reduceTDiv, Int.reduceTMod, ne_eq, reduceCtorEq, Nat.reduceEqDiff, Int.cast_ofNat_Int, true_or, or_true, false_or, or_false, lcq_0, lcq_2, lcq_3, lcq_4, lcq_5, wu_s, wu_1, wu_w, wu_lt, wu_ne, ar_s, ar_n, rr_s, rr_n, ob_n, nz_c, lt_T, lt_F, le_T, le_F, ie_T, ie_F, nt_T, nt_F, nl_T, nl_F, in_T, and_false, false_and, and_self, not_true_eq_false, Int.toNat_natCast, Int.reduceToNat, if_true, if_false, mi_120, i120_0, i120_1, i120_3, i120_5, i120_8, i120_9, i120_12, i120_15, i120_16, i120_19, i120_20, i120_23, i120_26, i120_27, i120_28, i120_29, i120_30, i120_33, i120_34, i120_37, i120_40, i120_41, i120_42, i120_43, i120_45, i120_48, i120_51, i120_52, i120_53, i120_54, i120_57, i120_60, i120_61, i120_64, i120_65, i120_68, i120_71, i120_74, i120_77, i120_78, k36, k121, k122, g10_4, g2_6]
      refine ih U u1 (u2.trans v2) (fun k a b d e => (u3 k b d e).trans (v3 k a b d e)) ?_ ?_ ?_ ?_ (fun t ht => ?_) (fun tip ht => ?_)
      · rw [ar_c (u3 77 (by decide) (by decide) (by decide))]; exact v77
      · rw [u82, v82]
      · rw [u83, v83]
      · rw [u84, v84]
      · rw [u87, u82, cn_cl hee oT t]
        simp only [fu_3]
        by_cases ct : t = T
        · rw [if_pos ct, if_pos ct, lT, ct]
        · rw [if_neg ct, if_neg ct, v87 t ht]; omega
      · rw [u90, u82, lT]
        exact cl_step hee oT tip (v90 tip ht)
    · have q2 : ¬ (¬ ar W 82 e = -1 ∧ he ≤ min (w (efc e).toNat) (w (eoc e).toNat) + 0) := fun r => q ⟨r.1, by have := r.2; omega, by have := r.2; omega⟩
      rw [show hl1 he w (ar W 82) e = 0 from if_neg q, tlo_k q, tlo_k q, tlo_k q, Int.add_zero] at ih
      simp (disch := omega) only [s_1, s_2, s_3, s_4, s_76, s_5, s_6, s_7, s_8, s_9, s_10, s_11, s_12, s_13, s_14, s_15, s_16, s_17, s_18, s_19, s_20, s_21, s_22, s_23, s_24, s_25, s_26, s_27, s_28, s_29, s_30, s_31, s_32, s_33, s_34, s_35, s_36, s_37, s_38, s_39, s_40l, s_40i, s_40r, s_41, s_43, t_44, t_45, t_46, t_47, s_48, s_49, s_50, s_51, s_52, s_53, s_54, s_55, s_56, s_57, s_58, s_59, s_60, s_61, s_62_0, s_62_1, s_62_2, s_66, s_67, s_68, s_69, s_70, s_71, s_72, s_73, sws_n, sws_c, lget, lset, fget, fset, nolg, nolong, avc, stw, cnd, isobj_eo, GCi, GCn, retk, List.length_cons, List.length_nil, ↓reduceIte, and_true, true_and, not_true_eq_false, not_false_eq_true, forall_const, Nat.reduceAdd, Nat.reduceLT, Nat.reduceLeDiff, Nat.lt_add_one, Nat.le_refl, Nat.zero_le, Nat.sub_zero, Int.reduceEq, Int.reduceNe, Int.reduceLT, Int.reduceLE, Int.reduceAdd, Int.reduceSub, Int.reduceMul, Int.reduceNeg, Int.reduceTDiv, Int.reduceTMod, ne_eq, reduceCtorEq, Nat.reduceEqDiff, Int.cast_ofNat_Int, true_or, or_true, false_or, or_false, lcq_0, lcq_2, lcq_3, lcq_4, lcq_5, wu_s, wu_1, wu_w, wu_lt, wu_ne, ar_s, ar_n, rr_s, rr_n, ob_n, nz_c, lt_T, lt_F, le_T, le_F, ie_T, ie_F, nt_T, nt_F, nl_T, nl_F, in_T, and_false, false_and, and_self, not_true_eq_false, Int.toNat_natCast, Int.reduceToNat, if_true, if_false, mi_120, i120_0, i120_1, i120_3, i120_5, i120_8, i120_9, i120_12, i120_15, i120_16, i120_19, i120_20, i120_23, i120_26, i120_27, i120_28, i120_29, i120_30, i120_33, i120_34, i120_37, i120_40, i120_41, i120_42, i120_43, i120_45, i120_48, i120_51, i120_52, i120_53, i120_54, i120_57, i120_60, i120_61, i120_64, i120_65, i120_68, i120_71, i120_74, i120_77, i120_78, k36, k121, k122, g10_4, g2_6, hGV, hh, bi_z, Classical.not_not, eq_false q2]
      exact ih V v1 v2 v3 v77 v82 v83 v84 v87 v90
  · intro V v1 v2 v3 v77 v82 v83 v84 v87 v90
    have wV : 192 ≤ V.1 := v1.1.1
    have e9 : V.2 85 = W.2 85 := v3 85 (by decide) (by decide) (by decide) (by decide)
    have q := hQ' V v1 v2 v3 (by
      have e76 := v3 76 (by decide) (by decide) (by decide) (by decide)
      refine ⟨⟨?_, ?_, ?_, ?_, ?_, ?_, ?_⟩, ⟨?_, ?_, ?_, ?_, ?_, v82.trans ?_, v83.trans ?_, v84.trans ?_⟩, fun t ht => ⟨?_, ?_, ?_⟩, fun t ht => ?_⟩
      · show ob V 76 0 = ob W 76 0; rw [ob_c e76]
      · show ob V 76 1 = ob W 76 1; rw [ob_c e76]
      · show ob V 76 2 = ob W 76 2; rw [ob_c e76]
      · show ob V 76 3 = ob W 76 3; rw [ob_c e76]
      · show ob V 76 5 = ob W 76 5; rw [ob_c e76]
      · show ob V 85 0 = ob W 85 0; rw [ob_c e9]
      · show ob V 76 4 = ob W 76 4; rw [ob_c e76]
      · show ar V 77 = rnW (ar W 77) n; rw [v77, hwt]
      · show ar V 78 = ar W 78; rw [ar_c (v3 78 (by decide) (by decide) (by decide) (by decide))]
      · show ar V 79 = ar W 79; rw [ar_c (v3 79 (by decide) (by decide) (by decide) (by decide))]
      · show ar V 80 = ar W 80; rw [ar_c (v3 80 (by decide) (by decide) (by decide) (by decide))]
      · show ar V 81 = ar W 81; rw [ar_c (v3 81 (by decide) (by decide) (by decide) (by decide))]
      · show _ = tlo (ar W 82) (rn6 he (rnW (ar W 77) n) (ar W 82) (ar W 82) (-1)) 180; rw [hwt]
      · show _ = tlo (ar W 83) (rn6 he (rnW (ar W 77) n) (ar W 82) (ar W 83) 0) 180; rw [hwt]
      · show _ = tlo (ar W 84) (rn6 he (rnW (ar W 77) n) (ar W 82) (ar W 84) 1) 180; rw [hwt]
      · show ar V 86 t = ar W 86 t; rw [ar_c (v3 86 (by decide) (by decide) (by decide) (by decide))]
      · show ar V 88 t = ar W 88 t; rw [ar_c (v3 88 (by decide) (by decide) (by decide) (by decide))]
      · show ar V 89 t = ar W 89 t; rw [ar_c (v3 89 (by decide) (by decide) (by decide) (by decide))]
      · have ht2 : (t : Int) < 2 * ob V 85 0 := ht
        rw [ob_c e9] at ht2
        refine ⟨?_, ?_, ?_⟩
        · show ar V 90 t = if (t : Int) < 2 * ob W 85 0 then cl12 (ar W 90) (tlo (ar W 82) (rn6 he (rnW (ar W 77) n) (ar W 82) (ar W 82) (-1)) 180) t else ar W 90 t
          rw [if_pos ht2, hwt, v90 t ht2, v82]
        · show ar V 91 t = ar W 91 t; rw [ar_c (v3 91 (by decide) (by decide) (by decide) (by decide))]
        · show ar V 92 t = ar W 92 t; rw [ar_c (v3 92 (by decide) (by decide) (by decide) (by decide))]) (fun t ht => by
      have ht2 : (t : Int) < ob V 85 0 := ht
      rw [ob_c e9] at ht2
      exact v87 t ht2)
    rw [i120_44]
    simp (disch := omega) only [s_1, s_2, s_3, s_4, s_76, s_5, s_6, s_7, s_8, s_9, s_10, s_11, s_12, s_13, s_14, s_15, s_16, s_17, s_18, s_19, s_20, s_21, s_22, s_23, s_24, s_25, s_26, s_27, s_28, s_29, s_30, s_31, s_32, s_33, s_34, s_35, s_36, s_37, s_38, s_39, s_40l, s_40i, s_40r, s_41, s_43, t_44, t_45, t_46, t_47, s_48, s_49, s_50, s_51, s_52, s_53, s_54, s_55, s_56, s_57, s_58, s_59, s_60, s_61, s_62_0, s_62_1, s_62_2, s_66, s_67, s_68, s_69, s_70, s_71, s_72, s_73, sws_n, sws_c, lget, lset, fget, fset, nolg, nolong, avc, stw, cnd, isobj_eo, GCi, GCn, retk, List.length_cons, List.length_nil, ↓reduceIte, and_true, true_and, not_true_eq_false, not_false_eq_true, forall_const, Nat.reduceAdd, Nat.reduceLT, Nat.reduceLeDiff, Nat.lt_add_one, Nat.le_refl, Nat.zero_le, Nat.sub_zero, Int.reduceEq, Int.reduceNe, Int.reduceLT, Int.reduceLE, Int.reduceAdd, Int.reduceSub, Int.reduceMul, Int.reduceNeg, Int.reduceTDiv, Int.reduceTMod, ne_eq, reduceCtorEq, Nat.reduceEqDiff, Int.cast_ofNat_Int, true_or, or_true, false_or, or_false, lcq_0, lcq_2, lcq_3, lcq_4, lcq_5, wu_s, wu_1, wu_w, wu_lt, wu_ne, ar_s, ar_n, rr_s, rr_n, ob_n, nz_c, lt_T, lt_F, le_T, le_F, ie_T, ie_F, nt_T, nt_F, nl_T, nl_F, in_T, and_false, false_and, and_self, not_true_eq_false, Int.toNat_natCast, Int.reduceToNat, if_true, if_false, mi_120, i120_0, i120_1, i120_3, i120_5, i120_8, i120_9, i120_12, i120_15, i120_16, i120_19, i120_20, i120_23, i120_26, i120_27, i120_28, i120_29, i120_30, i120_33, i120_34, i120_37, i120_40, i120_41, i120_42, i120_43, i120_45, i120_48, i120_51, i120_52, i120_53, i120_54, i120_57, i120_60, i120_61, i120_64, i120_65, i120_68, i120_71, i120_74, i120_77, i120_78, k36, k121, k122, g10_4, g2_6]
    exact q
end RA
