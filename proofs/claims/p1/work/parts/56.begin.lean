-- BEGIN of the class
def NotesAt (W : AW) (n : Nat) (r : Int) (ln ce cs : Nat → Int) : Prop := W.2 n = eo 4 [vi r, vr (n + 1), vr (n + 2), vr (n + 3)] ∧ W.2 (n + 1) = ea 0 420 ln ∧ W.2 (n + 2) = ea 0 6 ce ∧ W.2 (n + 3) = ea 0 6 cs
abbrev cmo (lc wc tl fb : Int) : AE := eo 11 [vr 68, vr 76, vr 93, vr 110, vr 114, vr 115, vr 116, vr 117, vr 118, vr 119, vr 127, vr 130, vr 139, vr 146, vi lc, vi wc, vi tl, vi fb]
theorem m_wipe {W : AW} {n : Nat} {r : Int} {ln ce cs : Nat → Int} {Q : AQ} (hN : NotesAt W n r ln ce cs) (hz : nfz ≤ n) (hW : n + 3 < W.1) (hQ : ∀ W', W'.1 = W.1 → (∀ k, k < n ∨ n + 3 < k → W'.2 k = W.2 k) → NotesAt W' n 0 ln (flf ce 6 (-1)) cs → Q none W') : Gm 18 [vr n] W Q := by
  obtain ⟨a0, a1, a2, a3⟩ := hN
  have h0 : n < W.1 := by omega
  rw [e18]
  simp only [s_1, s_2, s_3, s_4, s_76, s_5, s_6, s_7, s_8, s_9, s_10, s_11, s_12, s_13, s_14, s_15, s_16, s_17, s_18, s_19, s_20, s_21, s_22, s_23, s_24, s_25, s_26, s_27, s_28, s_29, s_30, s_31, s_32, s_33, s_34, s_35, s_36, s_37, s_38, s_39, s_40l, s_40i, s_40r, s_41, s_43, t_44, t_45, t_46, t_47, s_48, s_49, s_50, s_51, s_52, s_53, s_54, s_55, s_56, s_57, s_58, s_59, s_60, s_61, s_62_0, s_62_1, s_62_2, s_66, s_67, s_68, s_69, s_70, s_71, s_72, s_73, sws_n, sws_c, lget, lset, fget, fset, nolg, nolong, avc, stw, cnd, isobj_eo, GCi, GCn, retk, List.length_cons, List.length_nil, ↓reduceIte, and_true, true_and, not_true_eq_false, not_false_eq_true, forall_const, Nat.reduceAdd, Nat.reduceLT, Nat.reduceLeDiff, Nat.lt_add_one, Nat.le_refl, Nat.zero_le, Nat.sub_zero, Int.reduceEq, Int.reduceNe, Int.reduceLT, Int.reduceLE, Int.reduceAdd, Int.reduceSub, Int.reduceMul, Int.reduceNeg, Int.reduceTDiv, Int.reduceTMod, ne_eq, reduceCtorEq, Nat.reduceEqDiff, Int.cast_ofNat_Int, true_or, or_true, false_or, or_false, lcq_0, lcq_2, lcq_3, lcq_4, lcq_5, mi_18, i18_0, i18_1, i18_2, i18_5, i18_6, i18_9, i18_10, i18_13, k2, a0, h0, hz, wu_s, wu_f, wu_w, wu_ne, nl_1, nl_2, Nat.add_left_cancel_iff, Nat.reduceEqDiff, not_false_eq_true]
  refine ct_fill (N := 6) (by simp only [wu_ne, nl_1, nl_2, Nat.add_left_cancel_iff, Nat.reduceEqDiff, ne_eq, not_false_eq_true]; exact a2) (by omega) (by simp only [wu_f]; omega) (by decide) ?_
  simp only [s_1, s_2, s_3, s_4, s_76, s_5, s_6, s_7, s_8, s_9, s_10, s_11, s_12, s_13, s_14, s_15, s_16, s_17, s_18, s_19, s_20, s_21, s_22, s_23, s_24, s_25, s_26, s_27, s_28, s_29, s_30, s_31, s_32, s_33, s_34, s_35, s_36, s_37, s_38, s_39, s_40l, s_40i, s_40r, s_41, s_43, t_44, t_45, t_46, t_47, s_48, s_49, s_50, s_51, s_52, s_53, s_54, s_55, s_56, s_57, s_58, s_59, s_60, s_61, s_62_0, s_62_1, s_62_2, s_66, s_67, s_68, s_69, s_70, s_71, s_72, s_73, sws_n, sws_c, lget, lset, fget, fset, nolg, nolong, avc, stw, cnd, isobj_eo, GCi, GCn, retk, List.length_cons, List.length_nil, ↓reduceIte, and_true, true_and, not_true_eq_false, not_false_eq_true, forall_const, Nat.reduceAdd, Nat.reduceLT, Nat.reduceLeDiff, Nat.lt_add_one, Nat.le_refl, Nat.zero_le, Nat.sub_zero, Int.reduceEq, Int.reduceNe, Int.reduceLT, Int.reduceLE, Int.reduceAdd, Int.reduceSub, Int.reduceMul, Int.reduceNeg, Int.reduceTDiv, Int.reduceTMod, ne_eq, reduceCtorEq, Nat.reduceEqDiff, Int.cast_ofNat_Int, true_or, or_true, false_or, or_false, lcq_0, lcq_2, lcq_3, lcq_4, lcq_5, mi_18, i18_0, i18_1, i18_2, i18_5, i18_6, i18_9, i18_10, i18_13, k2]
  refine hQ _ rfl (fun k hk => ?_) ?_
  · repeat rw [wu_ne (by omega)]
  · unfold NotesAt
    simp only [wu_s, wu_ne, nl_1, nl_2, Nat.add_left_cancel_iff, Nat.reduceEqDiff, ne_eq, not_false_eq_true, a1, a3, and_self]
theorem MudAt.cg {W W' : AW} {m : Nat} {l s le g bo tk : Int} {w sh sa gr sc ow de sr : Nat → Int} (h : MudAt W m l s le g bo tk w sh sa gr sc ow de sr) (hk : ∀ k, m ≤ k → k ≤ m + 8 → W'.2 k = W.2 k) : MudAt W' m l s le g bo tk w sh sa gr sc ow de sr := by
  unfold MudAt at h ⊢
  rw [hk m (by omega) (by omega), hk (m + 1) (by omega) (by omega), hk (m + 2) (by omega) (by omega), hk (m + 3) (by omega) (by omega), hk (m + 4) (by omega) (by omega), hk (m + 5) (by omega) (by omega), hk (m + 6) (by omega) (by omega), hk (m + 7) (by omega) (by omega), hk (m + 8) (by omega) (by omega)]
  exact h
theorem TearsAt.cg {W W' : AW} {t : Nat} {made : Int} {st le si be te tn tw : Nat → Int} (h : TearsAt W t made st le si be te tn tw) (hk : ∀ k, t ≤ k → k ≤ t + 7 → W'.2 k = W.2 k) : TearsAt W' t made st le si be te tn tw := by
  unfold TearsAt at h ⊢
  rw [hk t (by omega) (by omega), hk (t + 1) (by omega) (by omega), hk (t + 2) (by omega) (by omega), hk (t + 3) (by omega) (by omega), hk (t + 4) (by omega) (by omega), hk (t + 5) (by omega) (by omega), hk (t + 6) (by omega) (by omega), hk (t + 7) (by omega) (by omega)]
  exact h
theorem NotesAt.cg {W W' : AW} {n : Nat} {r : Int} {ln ce cs : Nat → Int} (h : NotesAt W n r ln ce cs) (hk : ∀ k, n ≤ k → k ≤ n + 3 → W'.2 k = W.2 k) : NotesAt W' n r ln ce cs := by
  unfold NotesAt at h ⊢
  rw [hk n (by omega) (by omega), hk (n + 1) (by omega) (by omega), hk (n + 2) (by omega) (by omega), hk (n + 3) (by omega) (by omega)]
  exact h
set_option maxRecDepth 10000 in
set_option maxHeartbeats 4000000 in
theorem m_begin {W : AW} {lc wc tl fb l s le g bo tk l2 s2 le2 g2 made r : Int} {w sh sa gr sc ow de sr st ln si be te tn tw nl ce cs : Nat → Int} {Q : AQ} (hx : W.2 67 = cmo lc wc tl fb) (hM : MudAt W 76 l s le g bo tk w sh sa gr sc ow de sr) (hT : TearsAt W 85 made st ln si be te tn tw) (hN : NotesAt W 110 r nl ce cs) (hW : 148 ≤ W.1) (hf : 0 ≤ fb ∧ fb < 1000000) (hs : s2 < 2147483648)
    (hq0 : ¬ ((1 ≤ l2 ∧ l2 ≤ 4) ∧ 0 ≤ s2 ∧ (1 ≤ le2 ∧ le2 ≤ 9999) ∧ (le2 ≤ g2 ∧ g2 ≤ 9999)) → Q (some (vi 0)) W)
    (hq1 : ((1 ≤ l2 ∧ l2 ≤ 4) ∧ 0 ≤ s2 ∧ (1 ≤ le2 ∧ le2 ≤ 9999) ∧ (le2 ≤ g2 ∧ g2 ≤ 9999)) → ∀ W', W'.1 = W.1 → (∀ k, k < 67 ∨ (67 < k ∧ k < 76) ∨ (92 < k ∧ k < 110) ∨ 113 < k → W'.2 k = W.2 k) → W'.2 67 = cmo lc wc tl (fb + 1) → MudAt W' 76 l2 s2 le2 g2 (fb + 1) 0 (flf w 400 1000) (flf sh 100 0) (flf sa 100 0) (tlo gr (grn s2 le2 g2) 180) (flf sc 180 0) (flf ow 180 (-1)) (flf de 180 0) (flf sr 180 0) → TearsAt W' 85 0 st ln si be te tn tw → NotesAt W' 110 0 nl (flf ce 6 (-1)) cs → Q (some (vi 1)) W') : Gm 13 [vr 67, vi l2, vi s2, vi le2, vi g2] W Q := by
  have w67 : 67 < W.1 := by omega
  have w76 : 76 < W.1 := by omega
  rw [e13]
  simp only [s_1, s_2, s_3, s_4, s_76, s_5, s_6, s_7, s_8, s_9, s_10, s_11, s_12, s_13, s_14, s_15, s_16, s_17, s_18, s_19, s_20, s_21, s_22, s_23, s_24, s_25, s_26, s_27, s_28, s_29, s_30, s_31, s_32, s_33, s_34, s_35, s_36, s_37, s_38, s_39, s_40l, s_40i, s_40r, s_41, s_43, t_44, t_45, t_46, t_47, s_48, s_49, s_50, s_51, s_52, s_53, s_54, s_55, s_56, s_57, s_58, s_59, s_60, s_61, s_62_0, s_62_1, s_62_2, s_66, s_67, s_68, s_69, s_70, s_71, s_72, s_73, sws_n, sws_c, lget, lset, fget, fset, nolg, nolong, avc, stw, cnd, isobj_eo, GCi, GCn, retk, List.length_cons, List.length_nil, ↓reduceIte, and_true, true_and, not_true_eq_false, not_false_eq_true, forall_const, Nat.reduceAdd, Nat.reduceLT, Nat.reduceLeDiff, Nat.lt_add_one, Nat.le_refl, Nat.zero_le, Nat.sub_zero, Int.reduceEq, Int.reduceNe, Int.reduceLT, Int.reduceLE, Int.reduceAdd, Int.reduceSub, Int.reduceMul, Int.reduceNeg, Int.reduceTDiv, Int.reduceTMod, ne_eq, reduceCtorEq, Nat.reduceEqDiff, Int.cast_ofNat_Int, true_or, or_true, false_or, or_false, lcq_0, lcq_2, lcq_3, lcq_4, lcq_5, mi_13, i13_0, i13_1, i13_2, i13_3, i13_6, i13_9, i13_10, i13_13, i13_14, i13_15, i13_16, i13_17, i13_20, i13_23, i13_26, i13_28, i13_29, i13_32, i13_35, i13_38, i13_39, i13_40, i13_41, i13_42, i13_45, i13_46, i13_47, i13_50, i13_51, i13_54, i13_55, i13_56, i13_57, i13_59, i13_62, i13_63, i13_66, i13_67, i13_70, i13_73, i13_74, i13_77, i13_80, i13_81, k14, k15, k18, m_within, bi_z, hx, w67, w76, nz_67, wu_s, wu_f, wu_w, in32]
  by_cases c1 : 1 ≤ l2 ∧ l2 ≤ 4
  · rw [if_neg (by simpa using c1)]
    by_cases c2 : 0 ≤ s2
    · rw [if_pos c2]
      by_cases c3 : 1 ≤ le2 ∧ le2 ≤ 9999
      · rw [if_neg (by simpa using c3)]
        by_cases c4 : le2 ≤ g2 ∧ g2 ≤ 9999
        · rw [if_pos (by simpa using c4)]
          have hq := hq1 ⟨c1, c2, c3, c4⟩
          refine ⟨by omega, by rw [wu_ne (by decide), hM.1]; rfl, ?_⟩
          refine m_lay (m := 76) (hM.cg (fun k k1 k2 => wu_ne (by omega))) (hT.cg (fun k k1 k2 => wu_ne (by omega))) (by decide) (by show 76 + 16 < W.1; omega) ⟨c2, hs⟩ ⟨c3.1, c4.1, c4.2⟩ (fun W1 e1 ag1 M1 T1 => ?_)
          have x1 : W1.2 67 = cmo lc wc tl (fb + 1) := (ag1 67 (by omega)).trans wu_s
          have m1 := M1.1
          have v67 : 67 < W1.1 := by rw [e1]; show 67 < W.1; omega
          have v76 : 76 < W1.1 := by rw [e1]; show 76 < W.1; omega
          have v110 : 110 < W1.1 := by rw [e1]; show 110 < W.1; omega
          have n1 : NotesAt W1 110 r nl ce cs := hN.cg (fun k k1 k2 => (ag1 k (by omega)).trans (wu_ne (by omega)))
          have n10 := n1.1
          simp only [s_1, s_2, s_3, s_4, s_76, s_5, s_6, s_7, s_8, s_9, s_10, s_11, s_12, s_13, s_14, s_15, s_16, s_17, s_18, s_19, s_20, s_21, s_22, s_23, s_24, s_25, s_26, s_27, s_28, s_29, s_30, s_31, s_32, s_33, s_34, s_35, s_36, s_37, s_38, s_39, s_40l, s_40i, s_40r, s_41, s_43, t_44, t_45, t_46, t_47, s_48, s_49, s_50, s_51, s_52, s_53, s_54, s_55, s_56, s_57, s_58, s_59, s_60, s_61, s_62_0, s_62_1, s_62_2, s_66, s_67, s_68, s_69, s_70, s_71, s_72, s_73, sws_n, sws_c, lget, lset, fget, fset, nolg, nolong, avc, stw, cnd, isobj_eo, GCi, GCn, retk, List.length_cons, List.length_nil, ↓reduceIte, and_true, true_and, not_true_eq_false, not_false_eq_true, forall_const, Nat.reduceAdd, Nat.reduceLT, Nat.reduceLeDiff, Nat.lt_add_one, Nat.le_refl, Nat.zero_le, Nat.sub_zero, Int.reduceEq, Int.reduceNe, Int.reduceLT, Int.reduceLE, Int.reduceAdd, Int.reduceSub, Int.reduceMul, Int.reduceNeg, Int.reduceTDiv, Int.reduceTMod, ne_eq, reduceCtorEq, Nat.reduceEqDiff, Int.cast_ofNat_Int, true_or, or_true, false_or, or_false, lcq_0, lcq_2, lcq_3, lcq_4, lcq_5, mi_13, i13_0, i13_1, i13_2, i13_3, i13_6, i13_9, i13_10, i13_13, i13_14, i13_15, i13_16, i13_17, i13_20, i13_23, i13_26, i13_28, i13_29, i13_32, i13_35, i13_38, i13_39, i13_40, i13_41, i13_42, i13_45, i13_46, i13_47, i13_50, i13_51, i13_54, i13_55, i13_56, i13_57, i13_59, i13_62, i13_63, i13_66, i13_67, i13_70, i13_73, i13_74, i13_77, i13_80, i13_81, k14, k15, k18, x1, m1, v67, v76, v110, n10, nz_c, wu_s, wu_f, wu_w, wu_ne]
          refine m_wipe (n1.cg (fun k k1 k2 => wu_ne (by omega))) (by decide) (by show 110 + 3 < W1.1; rw [e1]; show 113 < W.1; omega) (fun W2 e2 ag2 N2 => ?_)
          simp only [s_1, s_2, s_3, s_4, s_76, s_5, s_6, s_7, s_8, s_9, s_10, s_11, s_12, s_13, s_14, s_15, s_16, s_17, s_18, s_19, s_20, s_21, s_22, s_23, s_24, s_25, s_26, s_27, s_28, s_29, s_30, s_31, s_32, s_33, s_34, s_35, s_36, s_37, s_38, s_39, s_40l, s_40i, s_40r, s_41, s_43, t_44, t_45, t_46, t_47, s_48, s_49, s_50, s_51, s_52, s_53, s_54, s_55, s_56, s_57, s_58, s_59, s_60, s_61, s_62_0, s_62_1, s_62_2, s_66, s_67, s_68, s_69, s_70, s_71, s_72, s_73, sws_n, sws_c, lget, lset, fget, fset, nolg, nolong, avc, stw, cnd, isobj_eo, GCi, GCn, retk, List.length_cons, List.length_nil, ↓reduceIte, and_true, true_and, not_true_eq_false, not_false_eq_true, forall_const, Nat.reduceAdd, Nat.reduceLT, Nat.reduceLeDiff, Nat.lt_add_one, Nat.le_refl, Nat.zero_le, Nat.sub_zero, Int.reduceEq, Int.reduceNe, Int.reduceLT, Int.reduceLE, Int.reduceAdd, Int.reduceSub, Int.reduceMul, Int.reduceNeg, Int.reduceTDiv, Int.reduceTMod, ne_eq, reduceCtorEq, Nat.reduceEqDiff, Int.cast_ofNat_Int, true_or, or_true, false_or, or_false, lcq_0, lcq_2, lcq_3, lcq_4, lcq_5, mi_13, i13_0, i13_1, i13_2, i13_3, i13_6, i13_9, i13_10, i13_13, i13_14, i13_15, i13_16, i13_17, i13_20, i13_23, i13_26, i13_28, i13_29, i13_32, i13_35, i13_38, i13_39, i13_40, i13_41, i13_42, i13_45, i13_46, i13_47, i13_50, i13_51, i13_54, i13_55, i13_56, i13_57, i13_59, i13_62, i13_63, i13_66, i13_67, i13_70, i13_73, i13_74, i13_77, i13_80, i13_81, k14, k15, k18]
          refine hq W2 (e2.trans e1) (fun k hk => ?_) ?_ ?_ ?_ N2
          · rw [ag2 k (by omega), wu_ne (by omega), ag1 k (by omega), wu_ne (by omega)]
          · rw [ag2 67 (by omega), wu_ne (by omega)]
            exact x1
          · refine MudAt.cg (W := wu W1 76 (eo 2 [vi l2, vi s2, vi le2, vi g2, vi (fb + 1), vi 0, vr (76 + 1), vr (76 + 2), vr (76 + 3), vr (76 + 4), vr (76 + 5), vr (76 + 6), vr (76 + 7), vr (76 + 8), vr (76 + 9)])) ?_ (fun k k1 k2 => ag2 k (by omega))
            obtain ⟨-, b1, b2, b3, b4, b5, b6, b7, b8⟩ := M1
            refine ⟨wu_s, ?_, ?_, ?_, ?_, ?_, ?_, ?_, ?_⟩ <;> rw [wu_ne (by decide)] <;> assumption
          · exact T1.cg (fun k k1 k2 => by rw [ag2 k (by omega), wu_ne (by omega)])
        · rw [if_neg (by simpa using c4)]
          exact hq0 (fun q => c4 q.2.2.2)
      · rw [if_pos c3]
        exact hq0 (fun q => c3 q.2.2.1)
    · rw [if_neg c2]
      exact hq0 (fun q => c2 q.2.1)
  · rw [if_pos c1]
    exact hq0 (fun q => c1 q.1)
