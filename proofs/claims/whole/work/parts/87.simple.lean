-- THE SIMPLE CALLS: readings of the two sides
theorem mv76_0 {W : AW} (h : MS W 76) : W.2 76 = o2 76 (ob W 76) := ma_0 h
theorem mv76_9 {W : AW} (h : MS W 76) : W.2 85 = o7 85 (ob W 85) := ma_9 h
theorem mv76_1 {W : AW} (h : MS W 76) : W.2 77 = ea 0 400 (ar W 77) := ma_1 h
theorem mv76_2 {W : AW} (h : MS W 76) : W.2 78 = ea 0 100 (ar W 78) := ma_2 h
theorem mv76_3 {W : AW} (h : MS W 76) : W.2 79 = ea 0 100 (ar W 79) := ma_3 h
theorem mv76_4 {W : AW} (h : MS W 76) : W.2 80 = ea 0 180 (ar W 80) := ma_4 h
theorem mv76_5 {W : AW} (h : MS W 76) : W.2 81 = ea 0 180 (ar W 81) := ma_5 h
theorem mv76_6 {W : AW} (h : MS W 76) : W.2 82 = ea 0 180 (ar W 82) := ma_6 h
theorem mv76_7 {W : AW} (h : MS W 76) : W.2 83 = ea 0 180 (ar W 83) := ma_7 h
theorem mv76_8 {W : AW} (h : MS W 76) : W.2 84 = ea 0 180 (ar W 84) := ma_8 h
theorem mv76_10 {W : AW} (h : MS W 76) : W.2 86 = ea 0 200 (ar W 86) := ma_10 h
theorem mv76_11 {W : AW} (h : MS W 76) : W.2 87 = ea 0 200 (ar W 87) := ma_11 h
theorem mv76_12 {W : AW} (h : MS W 76) : W.2 88 = ea 0 200 (ar W 88) := ma_12 h
theorem mv76_13 {W : AW} (h : MS W 76) : W.2 89 = ea 0 200 (ar W 89) := ma_13 h
theorem mv76_14 {W : AW} (h : MS W 76) : W.2 90 = ea 0 400 (ar W 90) := ma_14 h
theorem mv76_15 {W : AW} (h : MS W 76) : W.2 91 = ea 0 400 (ar W 91) := ma_15 h
theorem mv76_16 {W : AW} (h : MS W 76) : W.2 92 = ea 0 400 (ar W 92) := ma_16 h
theorem mv93_0 {W : AW} (h : MS W 93) : W.2 93 = o2 93 (ob W 93) := ma_0 h
theorem mv93_9 {W : AW} (h : MS W 93) : W.2 102 = o7 102 (ob W 102) := ma_9 h
theorem mv93_1 {W : AW} (h : MS W 93) : W.2 94 = ea 0 400 (ar W 94) := ma_1 h
theorem mv93_2 {W : AW} (h : MS W 93) : W.2 95 = ea 0 100 (ar W 95) := ma_2 h
theorem mv93_3 {W : AW} (h : MS W 93) : W.2 96 = ea 0 100 (ar W 96) := ma_3 h
theorem mv93_4 {W : AW} (h : MS W 93) : W.2 97 = ea 0 180 (ar W 97) := ma_4 h
theorem mv93_5 {W : AW} (h : MS W 93) : W.2 98 = ea 0 180 (ar W 98) := ma_5 h
theorem mv93_6 {W : AW} (h : MS W 93) : W.2 99 = ea 0 180 (ar W 99) := ma_6 h
theorem mv93_7 {W : AW} (h : MS W 93) : W.2 100 = ea 0 180 (ar W 100) := ma_7 h
theorem mv93_8 {W : AW} (h : MS W 93) : W.2 101 = ea 0 180 (ar W 101) := ma_8 h
theorem mv93_10 {W : AW} (h : MS W 93) : W.2 103 = ea 0 200 (ar W 103) := ma_10 h
theorem mv93_11 {W : AW} (h : MS W 93) : W.2 104 = ea 0 200 (ar W 104) := ma_11 h
theorem mv93_12 {W : AW} (h : MS W 93) : W.2 105 = ea 0 200 (ar W 105) := ma_12 h
theorem mv93_13 {W : AW} (h : MS W 93) : W.2 106 = ea 0 200 (ar W 106) := ma_13 h
theorem mv93_14 {W : AW} (h : MS W 93) : W.2 107 = ea 0 400 (ar W 107) := ma_14 h
theorem mv93_15 {W : AW} (h : MS W 93) : W.2 108 = ea 0 400 (ar W 108) := ma_15 h
theorem mv93_16 {W : AW} (h : MS W 93) : W.2 109 = ea 0 400 (ar W 109) := ma_16 h
theorem CC.v {W : AW} {s : ST} (h : CC W s) : ob W 76 0 = sF s 0 0 ∧ ob W 76 1 = sF s 0 1 ∧ ob W 76 2 = sF s 0 2 ∧ ob W 76 3 = sF s 0 3 ∧ ob W 76 5 = sF s 0 4 ∧ ob W 85 0 = sF s 0 5 ∧ ob W 76 4 = sF s 0 7 := h.1.1.1
theorem CC.r {W : AW} {s : ST} (h : CC W s) : ar W 77 = sF s 1 ∧ ar W 78 = sF s 2 ∧ ar W 79 = sF s 3 ∧ ar W 80 = sF s 4 ∧ ar W 81 = sF s 5 ∧ ar W 82 = sF s 6 ∧ ar W 83 = sF s 7 ∧ ar W 84 = sF s 8 := h.1.1.2.1
theorem CC.nt {W : AW} {s : ST} (h : CC W s) : ob W 110 0 = sF s 0 6 ∧ (∀ i : Nat, (i : Int) < 7 * sF s 0 6 → ar W 111 i = sF s 15 i) ∧ ar W 112 = sF s 16 ∧ ar W 113 = sF s 17 := by
  have e : ob W 110 0 = sF s 0 6 := h.1.2.1
  refine ⟨e, fun i hi => h.1.2.2.1 i ?_, h.1.2.2.2.1, h.1.2.2.2.2⟩
  show (i : Int) < 7 * ob W 110 0
  rw [e]
  exact hi
theorem CC.nu {W : AW} {s : ST} (h : CC W s) : ob W 67 14 = sN s 0 ∧ ob W 67 15 = sN s 1 ∧ ob W 67 16 = sN s 2 ∧ ob W 67 17 = sN s 3 := h.2.2.1
/-- another floor, the same notes -/
theorem CC.fl {W W' : AW} {s : ST} {τ : SG} (h : CC W s) (hw : W.1 ≤ W'.1) (hk : ∀ k, k = 67 ∨ (110 ≤ k ∧ k ≤ 118) → W'.2 k = W.2 k) (hn : ∀ k, 192 ≤ k → k < W.1 → W'.2 k = W.2 k) (hq : Sq (cF W' 76) τ) (h6 : τ 0 6 = sF s 0 6) (h15 : τ 15 = sF s 15) (h16 : τ 16 = sF s 16) (h17 : τ 17 = sF s 17) (hl : Ln W' 76) : CC W' (τ, s.2) := by
  have e6 := h.nt
  have k110 := hk 110 (Or.inr (by omega))
  refine ⟨⟨hq, ?_, ?_, ?_, ?_⟩, hl, by rw [ob_c (hk 67 (Or.inl rfl))]; exact h.2.2.1, by rw [ar_c (hk 118 (Or.inr (by omega)))]; exact h.2.2.2.1, ?_⟩
  · show ob W' 110 0 = τ 0 6
    rw [ob_c k110, h6]
    exact e6.1
  · intro i hi
    have hi2 : (i : Int) < 7 * ob W' 110 0 := hi
    rw [ob_c k110, e6.1] at hi2
    show ar W' 111 i = τ 15 i
    rw [ar_c (hk 111 (Or.inr (by omega))), h15]
    exact e6.2.1 i hi2
  · show ar W' 112 = τ 16
    rw [ar_c (hk 112 (Or.inr (by omega))), h16]
    exact e6.2.2.1
  · show ar W' 113 = τ 17
    rw [ar_c (hk 113 (Or.inr (by omega))), h17]
    exact e6.2.2.2
  · obtain ⟨ow, a5⟩ := h.2.2.2.2
    exact ⟨ow, a5.cg hw (fun k p q => hk k (Or.inr (by omega))) hn⟩
theorem KR.fl {W W' : AW} {s : ST} {τ : SG} (h : KR W s) (hR : RS W') (hF : Fq W W') (ht : rF W' = τ) : KR W' (τ, s.2) := by
  obtain ⟨a1, a2, a3, a4, a5, a6, a7, a8⟩ := h
  exact ⟨hR, fun k p q => by rw [hF.2 k (by omega)]; exact a2 k p q, ht, by rw [ob_c (hF.2 148 (by omega))]; exact a4, by rw [ar_c (hF.2 167 (by omega))]; exact a5, fun k q => (a6 k q).fq hF, fun k q => ⟨(a7 k q).1.cg (a7 k q).2 (fun j p q => hF.2 j (by omega)), (a7 k q).2⟩, fun k q => (a8 k q).cg (hF.2 188 (by omega)) (hF.2 191 (by omega))⟩
theorem KR.f {W : AW} {s : ST} (h : KR W s) (k : Nat) (hk : k < 18) : ar W (149 + k) = sF s k := by
  rw [← h.2.2.1]
  show _ = if k < 18 then ar W (149 + k) else _
  rw [if_pos hk]
/-- there is a floor -/
abbrev hasF (s : ST) : Prop := ¬ sF s 0 0 = 0
theorem SOK.fn {c : Int} {s : ST} (h : SOK c s) (hf : hasF s) : FN c (sF s) := by
  rcases h.1 with q | q
  · exact absurd q.1 hf
  · exact q
theorem SOK.fl {c d : Int} {s : ST} {τ : SG} (h : SOK c s) (hd : c ≤ d) (hf : hasF s) (ht : FN d τ) : SOK d (τ, s.2) := by
  obtain ⟨a1, a2, a3, a4, a5, a6, a7, a8, a9, a10⟩ := h.mono hd
  exact ⟨Or.inr ht, a2, a3, a4, a5, a6, a7, a8, a9, fun q => absurd q (by have := ht.1.1; show ¬ τ 0 0 = 0; omega)⟩
theorem SOK.f0 {c : Int} {s : ST} (h : SOK c s) : (0 < sF s 0 0 ↔ hasF s) ∧ 0 ≤ sF s 0 0 ∧ sF s 0 0 ≤ 4 ∧ 0 ≤ sF s 0 4 ∧ 0 ≤ sF s 0 5 ∧ sF s 0 5 ≤ 200 ∧ 0 ≤ sF s 0 6 ∧ sF s 0 6 ≤ 60 := by
  unfold hasF
  rcases h.1 with q | q
  · omega
  · have h1 := q.1.1
    have h2 := q.1.2.1
    have h3 := q.1.2.2.1
    have h4 := q.2.2.2.2.1
    omega
theorem Sq.upd {σ τ : SG} {k : Nat} {f : Nat → Int} (h : Sq σ τ) (hk : 1 ≤ k) : Sq (fu σ k f) (fu τ k f) := by
  have e0 : fu σ k f 0 = σ 0 := fu_ne _ _ (by omega)
  have e1 : fu τ k f 0 = τ 0 := fu_ne _ _ (by omega)
  have er : ∀ j, σ j = τ j → fu σ k f j = fu τ k f j := fun j q => by
    simp only [fu_3]
    split
    · rfl
    · exact q
  have et : ∀ j t, σ j t = τ j t → fu σ k f j t = fu τ k f j t := fun j t q => by
    simp only [fu_3]
    split
    · rfl
    · exact q
  obtain ⟨a1, ⟨b1, b2, b3, b4, b5, b6, b7, b8⟩, a3, a4⟩ := h
  refine ⟨by rw [e0, e1]; exact a1, ⟨er _ b1, er _ b2, er _ b3, er _ b4, er _ b5, er _ b6, er _ b7, er _ b8⟩, fun t q => ?_, fun t q => ?_⟩
  · rw [e0] at q
    have := a3 t q
    exact ⟨et _ _ this.1, et _ _ this.2.1, et _ _ this.2.2⟩
  · rw [e0] at q
    have := a4 t q
    exact ⟨et _ _ this.1, et _ _ this.2.1, et _ _ this.2.2⟩
theorem Ln.c3 {W W' : AW} {m : Nat} (h : Ln W m) (h9 : W'.2 (m + 9) = W.2 (m + 9)) (h11 : W'.2 (m + 11) = W.2 (m + 11)) (h6 : W'.2 (m + 6) = W.2 (m + 6)) : Ln W' m := by
  unfold Ln at h ⊢
  rw [ob_c h9, ar_c h11, ar_c h6]
  exact h
section SIMPLE
variable {W : AW} {Q : AQ} {s : ST} {c : Int}
theorem x_noFloor (hH : CH W) (hC : CC W s) : Gm 21 [vr 67] W Q ↔ Q (some (vi (bi (sF s 0 0 = 0)))) W := by
  have hw : 192 ≤ W.1 := hH.1.1
  have e0 := hC.v.1
  rw [e21]
  by_cases c : sF s 0 0 = 0
  · rw [bi_p c]
    simp (disch := omega) only [s_1, s_2, s_3, s_4, s_76, s_5, s_6, s_7, s_8, s_9, s_10, s_11, s_12, s_13, s_14, s_15, s_16, s_17, s_18, s_19, s_20, s_21, s_22, s_23, s_24, s_25, s_26, s_27, s_28, s_29, s_30, s_31, s_32, s_33, s_34, s_35, s_36, s_37, s_38, s_39, s_40l, s_40i, s_40r, s_41, s_43, t_44, t_45, t_46, t_47, s_48, s_49, s_50, s_51, s_52, s_53, s_54, s_55, s_56, s_57, s_58, s_59, s_60, s_61, s_62_0, s_62_1, s_62_2, s_66, s_67, s_68, s_69, s_70, s_71, s_72, s_73, sws_n, sws_c, lget, lset, fget, fset, nolg, nolong, avc, stw, cnd, isobj_eo, GCi, GCn, retk, List.length_cons, List.length_nil, ↓reduceIte, and_true, true_and, not_true_eq_false, not_false_eq_true, forall_const, Nat.reduceAdd, Nat.reduceLT, Nat.reduceLeDiff, Nat.lt_add_one, Nat.le_refl, Nat.zero_le, Nat.sub_zero, Int.reduceEq, Int.reduceNe, Int.reduceLT, Int.reduceLE, Int.reduceAdd, Int.reduceSub, Int.reduceMul, Int.reduceNeg, Int.reduceTDiv, Int.reduceTMod, ne_eq, reduceCtorEq, Nat.reduceEqDiff, Int.cast_ofNat_Int, true_or, or_true, false_or, or_false, lcq_0, lcq_2, lcq_3, lcq_4, lcq_5, wu_s, wu_1, wu_w, wu_lt, wu_ne, ar_s, ar_n, rr_s, rr_n, ob_n, nz_c, lt_T, lt_F, le_T, le_F, ie_T, ie_F, nt_T, nt_F, nl_T, nl_F, in_T, and_false, false_and, and_self, not_true_eq_false, Int.toNat_natCast, Int.reduceToNat, if_true, if_false, mi_21, i21_0, i21_1, i21_4, i21_7, i21_10, i21_11, i21_14, i21_15, g11_1, g2_0, ca_67 hH.1, mv76_0 hH.2.1, e0, c]
  · rw [bi_n c]
    simp (disch := omega) only [s_1, s_2, s_3, s_4, s_76, s_5, s_6, s_7, s_8, s_9, s_10, s_11, s_12, s_13, s_14, s_15, s_16, s_17, s_18, s_19, s_20, s_21, s_22, s_23, s_24, s_25, s_26, s_27, s_28, s_29, s_30, s_31, s_32, s_33, s_34, s_35, s_36, s_37, s_38, s_39, s_40l, s_40i, s_40r, s_41, s_43, t_44, t_45, t_46, t_47, s_48, s_49, s_50, s_51, s_52, s_53, s_54, s_55, s_56, s_57, s_58, s_59, s_60, s_61, s_62_0, s_62_1, s_62_2, s_66, s_67, s_68, s_69, s_70, s_71, s_72, s_73, sws_n, sws_c, lget, lset, fget, fset, nolg, nolong, avc, stw, cnd, isobj_eo, GCi, GCn, retk, List.length_cons, List.length_nil, ↓reduceIte, and_true, true_and, not_true_eq_false, not_false_eq_true, forall_const, Nat.reduceAdd, Nat.reduceLT, Nat.reduceLeDiff, Nat.lt_add_one, Nat.le_refl, Nat.zero_le, Nat.sub_zero, Int.reduceEq, Int.reduceNe, Int.reduceLT, Int.reduceLE, Int.reduceAdd, Int.reduceSub, Int.reduceMul, Int.reduceNeg, Int.reduceTDiv, Int.reduceTMod, ne_eq, reduceCtorEq, Nat.reduceEqDiff, Int.cast_ofNat_Int, true_or, or_true, false_or, or_false, lcq_0, lcq_2, lcq_3, lcq_4, lcq_5, wu_s, wu_1, wu_w, wu_lt, wu_ne, ar_s, ar_n, rr_s, rr_n, ob_n, nz_c, lt_T, lt_F, le_T, le_F, ie_T, ie_F, nt_T, nt_F, nl_T, nl_F, in_T, and_false, false_and, and_self, not_true_eq_false, Int.toNat_natCast, Int.reduceToNat, if_true, if_false, mi_21, i21_0, i21_1, i21_4, i21_7, i21_10, i21_11, i21_14, i21_15, g11_1, g2_0, ca_67 hH.1, mv76_0 hH.2.1, e0, c]
theorem y_isFloor (hR : KR W s) : Gm 183 [vr 148] W Q ↔ Q (some (vi (bi (0 < sF s 0 0)))) W := by
  rw [r_isFloor hR.1, show ar W 149 = sF s 0 from hR.f 0 (by decide)]
theorem y_isEdge {e : Int} (hR : KR W s) (hS : SOK c s) : Gm 192 [vr 148, vi e] W Q ↔ Q (some (vi (bi (hasF s ∧ 0 ≤ e ∧ e ≤ 179)))) W := by
  have hw : 192 ≤ W.1 := hR.1.1
  have h0 := hS.f0.1
  rw [e192]
  by_cases c1 : hasF s
  · have c1' := h0.mpr c1
    by_cases c2 : 0 ≤ e ∧ e ≤ 179
    · rw [bi_p ⟨c1, c2⟩]
      simp (disch := omega) only [s_1, s_2, s_3, s_4, s_76, s_5, s_6, s_7, s_8, s_9, s_10, s_11, s_12, s_13, s_14, s_15, s_16, s_17, s_18, s_19, s_20, s_21, s_22, s_23, s_24, s_25, s_26, s_27, s_28, s_29, s_30, s_31, s_32, s_33, s_34, s_35, s_36, s_37, s_38, s_39, s_40l, s_40i, s_40r, s_41, s_43, t_44, t_45, t_46, t_47, s_48, s_49, s_50, s_51, s_52, s_53, s_54, s_55, s_56, s_57, s_58, s_59, s_60, s_61, s_62_0, s_62_1, s_62_2, s_66, s_67, s_68, s_69, s_70, s_71, s_72, s_73, sws_n, sws_c, lget, lset, fget, fset, nolg, nolong, avc, stw, cnd, isobj_eo, GCi, GCn, retk, List.length_cons, List.length_nil, ↓reduceIte, and_true, true_and, not_true_eq_false, not_false_eq_true, forall_const, Nat.reduceAdd, Nat.reduceLT, Nat.reduceLeDiff, Nat.lt_add_one, Nat.le_refl, Nat.zero_le, Nat.sub_zero, Int.reduceEq, Int.reduceNe, Int.reduceLT, Int.reduceLE, Int.reduceAdd, Int.reduceSub, Int.reduceMul, Int.reduceNeg, Int.reduceTDiv, Int.reduceTMod, ne_eq, reduceCtorEq, Nat.reduceEqDiff, Int.cast_ofNat_Int, true_or, or_true, false_or, or_false, lcq_0, lcq_2, lcq_3, lcq_4, lcq_5, wu_s, wu_1, wu_w, wu_lt, wu_ne, ar_s, ar_n, rr_s, rr_n, ob_n, nz_c, lt_T, lt_F, le_T, le_F, ie_T, ie_F, nt_T, nt_F, nl_T, nl_F, in_T, and_false, false_and, and_self, not_true_eq_false, Int.toNat_natCast, Int.reduceToNat, if_true, if_false, mi_192, i192_0, i192_1, i192_4, i192_7, i192_8, i192_9, i192_10, i192_13, i192_16, i192_19, i192_20, i192_23, i192_24, k179, k183, ra_148 hR.1, y_isFloor hR, m_in, bi_z, Classical.not_not, c1', c2]
    · rw [bi_n (fun q => c2 q.2)]
      simp (disch := omega) only [s_1, s_2, s_3, s_4, s_76, s_5, s_6, s_7, s_8, s_9, s_10, s_11, s_12, s_13, s_14, s_15, s_16, s_17, s_18, s_19, s_20, s_21, s_22, s_23, s_24, s_25, s_26, s_27, s_28, s_29, s_30, s_31, s_32, s_33, s_34, s_35, s_36, s_37, s_38, s_39, s_40l, s_40i, s_40r, s_41, s_43, t_44, t_45, t_46, t_47, s_48, s_49, s_50, s_51, s_52, s_53, s_54, s_55, s_56, s_57, s_58, s_59, s_60, s_61, s_62_0, s_62_1, s_62_2, s_66, s_67, s_68, s_69, s_70, s_71, s_72, s_73, sws_n, sws_c, lget, lset, fget, fset, nolg, nolong, avc, stw, cnd, isobj_eo, GCi, GCn, retk, List.length_cons, List.length_nil, ↓reduceIte, and_true, true_and, not_true_eq_false, not_false_eq_true, forall_const, Nat.reduceAdd, Nat.reduceLT, Nat.reduceLeDiff, Nat.lt_add_one, Nat.le_refl, Nat.zero_le, Nat.sub_zero, Int.reduceEq, Int.reduceNe, Int.reduceLT, Int.reduceLE, Int.reduceAdd, Int.reduceSub, Int.reduceMul, Int.reduceNeg, Int.reduceTDiv, Int.reduceTMod, ne_eq, reduceCtorEq, Nat.reduceEqDiff, Int.cast_ofNat_Int, true_or, or_true, false_or, or_false, lcq_0, lcq_2, lcq_3, lcq_4, lcq_5, wu_s, wu_1, wu_w, wu_lt, wu_ne, ar_s, ar_n, rr_s, rr_n, ob_n, nz_c, lt_T, lt_F, le_T, le_F, ie_T, ie_F, nt_T, nt_F, nl_T, nl_F, in_T, and_false, false_and, and_self, not_true_eq_false, Int.toNat_natCast, Int.reduceToNat, if_true, if_false, mi_192, i192_0, i192_1, i192_4, i192_7, i192_8, i192_9, i192_10, i192_13, i192_16, i192_19, i192_20, i192_23, i192_24, k179, k183, ra_148 hR.1, y_isFloor hR, m_in, bi_z, Classical.not_not, c1', c2]
  · have c1' : ¬ 0 < sF s 0 0 := fun q => c1 (h0.mp q)
    rw [bi_n (fun q => c1 q.1)]
    simp (disch := omega) only [s_1, s_2, s_3, s_4, s_76, s_5, s_6, s_7, s_8, s_9, s_10, s_11, s_12, s_13, s_14, s_15, s_16, s_17, s_18, s_19, s_20, s_21, s_22, s_23, s_24, s_25, s_26, s_27, s_28, s_29, s_30, s_31, s_32, s_33, s_34, s_35, s_36, s_37, s_38, s_39, s_40l, s_40i, s_40r, s_41, s_43, t_44, t_45, t_46, t_47, s_48, s_49, s_50, s_51, s_52, s_53, s_54, s_55, s_56, s_57, s_58, s_59, s_60, s_61, s_62_0, s_62_1, s_62_2, s_66, s_67, s_68, s_69, s_70, s_71, s_72, s_73, sws_n, sws_c, lget, lset, fget, fset, nolg, nolong, avc, stw, cnd, isobj_eo, GCi, GCn, retk, List.length_cons, List.length_nil, ↓reduceIte, and_true, true_and, not_true_eq_false, not_false_eq_true, forall_const, Nat.reduceAdd, Nat.reduceLT, Nat.reduceLeDiff, Nat.lt_add_one, Nat.le_refl, Nat.zero_le, Nat.sub_zero, Int.reduceEq, Int.reduceNe, Int.reduceLT, Int.reduceLE, Int.reduceAdd, Int.reduceSub, Int.reduceMul, Int.reduceNeg, Int.reduceTDiv, Int.reduceTMod, ne_eq, reduceCtorEq, Nat.reduceEqDiff, Int.cast_ofNat_Int, true_or, or_true, false_or, or_false, lcq_0, lcq_2, lcq_3, lcq_4, lcq_5, wu_s, wu_1, wu_w, wu_lt, wu_ne, ar_s, ar_n, rr_s, rr_n, ob_n, nz_c, lt_T, lt_F, le_T, le_F, ie_T, ie_F, nt_T, nt_F, nl_T, nl_F, in_T, and_false, false_and, and_self, not_true_eq_false, Int.toNat_natCast, Int.reduceToNat, if_true, if_false, mi_192, i192_0, i192_1, i192_4, i192_7, i192_8, i192_9, i192_10, i192_13, i192_16, i192_19, i192_20, i192_23, i192_24, k179, k183, ra_148 hR.1, y_isFloor hR, m_in, bi_z, Classical.not_not, c1']
-- scratch
theorem x_scratch0 {e n : Int} (hH : CH W) (hC : CC W s) (hg : ¬ (hasF s ∧ (0 ≤ e ∧ e ≤ 179) ∧ (0 ≤ n ∧ n ≤ 9999))) (hQ : Q (some (vi (-1))) W) : Gm 43 [vr 67, vi e, vi n] W Q := by
  have hw : 192 ≤ W.1 := hH.1.1
  rw [e43]
  by_cases c1 : sF s 0 0 = 0
  · simp (disch := omega) only [s_1, s_2, s_3, s_4, s_76, s_5, s_6, s_7, s_8, s_9, s_10, s_11, s_12, s_13, s_14, s_15, s_16, s_17, s_18, s_19, s_20, s_21, s_22, s_23, s_24, s_25, s_26, s_27, s_28, s_29, s_30, s_31, s_32, s_33, s_34, s_35, s_36, s_37, s_38, s_39, s_40l, s_40i, s_40r, s_41, s_43, t_44, t_45, t_46, t_47, s_48, s_49, s_50, s_51, s_52, s_53, s_54, s_55, s_56, s_57, s_58, s_59, s_60, s_61, s_62_0, s_62_1, s_62_2, s_66, s_67, s_68, s_69, s_70, s_71, s_72, s_73, sws_n, sws_c, lget, lset, fget, fset, nolg, nolong, avc, stw, cnd, isobj_eo, GCi, GCn, retk, List.length_cons, List.length_nil, ↓reduceIte, and_true, true_and, not_true_eq_false, not_false_eq_true, forall_const, Nat.reduceAdd, Nat.reduceLT, Nat.reduceLeDiff, Nat.lt_add_one, Nat.le_refl, Nat.zero_le, Nat.sub_zero, Int.reduceEq, Int.reduceNe, Int.reduceLT, Int.reduceLE, Int.reduceAdd, Int.reduceSub, Int.reduceMul, Int.reduceNeg, Int.reduceTDiv, Int.reduceTMod, ne_eq, reduceCtorEq, Nat.reduceEqDiff, Int.cast_ofNat_Int, true_or, or_true, false_or, or_false, lcq_0, lcq_2, lcq_3, lcq_4, lcq_5, wu_s, wu_1, wu_w, wu_lt, wu_ne, ar_s, ar_n, rr_s, rr_n, ob_n, nz_c, lt_T, lt_F, le_T, le_F, ie_T, ie_F, nt_T, nt_F, nl_T, nl_F, in_T, and_false, false_and, and_self, not_true_eq_false, Int.toNat_natCast, Int.reduceToNat, if_true, if_false, mi_43, i43_0, i43_1, i43_4, i43_7, i43_8, i43_11, i43_14, i43_15, i43_16, i43_19, i43_22, i43_25, i43_26, i43_27, i43_28, i43_31, i43_34, i43_35, i43_36, i43_37, i43_38, i43_41, i43_44, i43_45, i43_46, i43_47, i43_48, k14, k21, k44, g11_1, g2_10, ca_67 hH.1, x_noFloor hH hC, bi_z, Classical.not_not, c1]
    exact hQ
  · by_cases c2 : 0 ≤ e ∧ e ≤ 179
    · have c3 : ¬ (0 ≤ n ∧ n ≤ 9999) := fun q => hg ⟨c1, c2, q⟩
      simp (disch := omega) only [s_1, s_2, s_3, s_4, s_76, s_5, s_6, s_7, s_8, s_9, s_10, s_11, s_12, s_13, s_14, s_15, s_16, s_17, s_18, s_19, s_20, s_21, s_22, s_23, s_24, s_25, s_26, s_27, s_28, s_29, s_30, s_31, s_32, s_33, s_34, s_35, s_36, s_37, s_38, s_39, s_40l, s_40i, s_40r, s_41, s_43, t_44, t_45, t_46, t_47, s_48, s_49, s_50, s_51, s_52, s_53, s_54, s_55, s_56, s_57, s_58, s_59, s_60, s_61, s_62_0, s_62_1, s_62_2, s_66, s_67, s_68, s_69, s_70, s_71, s_72, s_73, sws_n, sws_c, lget, lset, fget, fset, nolg, nolong, avc, stw, cnd, isobj_eo, GCi, GCn, retk, List.length_cons, List.length_nil, ↓reduceIte, and_true, true_and, not_true_eq_false, not_false_eq_true, forall_const, Nat.reduceAdd, Nat.reduceLT, Nat.reduceLeDiff, Nat.lt_add_one, Nat.le_refl, Nat.zero_le, Nat.sub_zero, Int.reduceEq, Int.reduceNe, Int.reduceLT, Int.reduceLE, Int.reduceAdd, Int.reduceSub, Int.reduceMul, Int.reduceNeg, Int.reduceTDiv, Int.reduceTMod, ne_eq, reduceCtorEq, Nat.reduceEqDiff, Int.cast_ofNat_Int, true_or, or_true, false_or, or_false, lcq_0, lcq_2, lcq_3, lcq_4, lcq_5, wu_s, wu_1, wu_w, wu_lt, wu_ne, ar_s, ar_n, rr_s, rr_n, ob_n, nz_c, lt_T, lt_F, le_T, le_F, ie_T, ie_F, nt_T, nt_F, nl_T, nl_F, in_T, and_false, false_and, and_self, not_true_eq_false, Int.toNat_natCast, Int.reduceToNat, if_true, if_false, mi_43, i43_0, i43_1, i43_4, i43_7, i43_8, i43_11, i43_14, i43_15, i43_16, i43_19, i43_22, i43_25, i43_26, i43_27, i43_28, i43_31, i43_34, i43_35, i43_36, i43_37, i43_38, i43_41, i43_44, i43_45, i43_46, i43_47, i43_48, k14, k21, k44, g11_1, g2_10, ca_67 hH.1, x_noFloor hH hC, bi_z, Classical.not_not, c1, m_isEdge, m_within, c2, c3]
      exact hQ
    · simp (disch := omega) only [s_1, s_2, s_3, s_4, s_76, s_5, s_6, s_7, s_8, s_9, s_10, s_11, s_12, s_13, s_14, s_15, s_16, s_17, s_18, s_19, s_20, s_21, s_22, s_23, s_24, s_25, s_26, s_27, s_28, s_29, s_30, s_31, s_32, s_33, s_34, s_35, s_36, s_37, s_38, s_39, s_40l, s_40i, s_40r, s_41, s_43, t_44, t_45, t_46, t_47, s_48, s_49, s_50, s_51, s_52, s_53, s_54, s_55, s_56, s_57, s_58, s_59, s_60, s_61, s_62_0, s_62_1, s_62_2, s_66, s_67, s_68, s_69, s_70, s_71, s_72, s_73, sws_n, sws_c, lget, lset, fget, fset, nolg, nolong, avc, stw, cnd, isobj_eo, GCi, GCn, retk, List.length_cons, List.length_nil, ↓reduceIte, and_true, true_and, not_true_eq_false, not_false_eq_true, forall_const, Nat.reduceAdd, Nat.reduceLT, Nat.reduceLeDiff, Nat.lt_add_one, Nat.le_refl, Nat.zero_le, Nat.sub_zero, Int.reduceEq, Int.reduceNe, Int.reduceLT, Int.reduceLE, Int.reduceAdd, Int.reduceSub, Int.reduceMul, Int.reduceNeg, Int.reduceTDiv, Int.reduceTMod, ne_eq, reduceCtorEq, Nat.reduceEqDiff, Int.cast_ofNat_Int, true_or, or_true, false_or, or_false, lcq_0, lcq_2, lcq_3, lcq_4, lcq_5, wu_s, wu_1, wu_w, wu_lt, wu_ne, ar_s, ar_n, rr_s, rr_n, ob_n, nz_c, lt_T, lt_F, le_T, le_F, ie_T, ie_F, nt_T, nt_F, nl_T, nl_F, in_T, and_false, false_and, and_self, not_true_eq_false, Int.toNat_natCast, Int.reduceToNat, if_true, if_false, mi_43, i43_0, i43_1, i43_4, i43_7, i43_8, i43_11, i43_14, i43_15, i43_16, i43_19, i43_22, i43_25, i43_26, i43_27, i43_28, i43_31, i43_34, i43_35, i43_36, i43_37, i43_38, i43_41, i43_44, i43_45, i43_46, i43_47, i43_48, k14, k21, k44, g11_1, g2_10, ca_67 hH.1, x_noFloor hH hC, bi_z, Classical.not_not, c1, m_isEdge, m_within, c2]
      exact hQ
theorem x_scratch1 {e n : Int} (hH : CH W) (hC : CC W s) (hg : hasF s ∧ (0 ≤ e ∧ e ≤ 179) ∧ (0 ≤ n ∧ n ≤ 9999)) (hQ : Q (some (vi (sF s 5 e.toNat))) (wu W 81 (ea 0 180 (fu (sF s 5) e.toNat n)))) : Gm 43 [vr 67, vi e, vi n] W Q := by
  have hw : 192 ≤ W.1 := hH.1.1
  obtain ⟨c1, c2, c3⟩ := hg
  have c1' : ¬ sF s 0 0 = 0 := c1
  have e5 := hC.r.2.2.2.2.1
  rw [e43]
  simp (disch := omega) only [s_1, s_2, s_3, s_4, s_76, s_5, s_6, s_7, s_8, s_9, s_10, s_11, s_12, s_13, s_14, s_15, s_16, s_17, s_18, s_19, s_20, s_21, s_22, s_23, s_24, s_25, s_26, s_27, s_28, s_29, s_30, s_31, s_32, s_33, s_34, s_35, s_36, s_37, s_38, s_39, s_40l, s_40i, s_40r, s_41, s_43, t_44, t_45, t_46, t_47, s_48, s_49, s_50, s_51, s_52, s_53, s_54, s_55, s_56, s_57, s_58, s_59, s_60, s_61, s_62_0, s_62_1, s_62_2, s_66, s_67, s_68, s_69, s_70, s_71, s_72, s_73, sws_n, sws_c, lget, lset, fget, fset, nolg, nolong, avc, stw, cnd, isobj_eo, GCi, GCn, retk, List.length_cons, List.length_nil, ↓reduceIte, and_true, true_and, not_true_eq_false, not_false_eq_true, forall_const, Nat.reduceAdd, Nat.reduceLT, Nat.reduceLeDiff, Nat.lt_add_one, Nat.le_refl, Nat.zero_le, Nat.sub_zero, Int.reduceEq, Int.reduceNe, Int.reduceLT, Int.reduceLE, Int.reduceAdd, Int.reduceSub, Int.reduceMul, Int.reduceNeg, Int.reduceTDiv, Int.reduceTMod, ne_eq, reduceCtorEq, Nat.reduceEqDiff, Int.cast_ofNat_Int, true_or, or_true, false_or, or_false, lcq_0, lcq_2, lcq_3, lcq_4, lcq_5, wu_s, wu_1, wu_w, wu_lt, wu_ne, ar_s, ar_n, rr_s, rr_n, ob_n, nz_c, lt_T, lt_F, le_T, le_F, ie_T, ie_F, nt_T, nt_F, nl_T, nl_F, in_T, and_false, false_and, and_self, not_true_eq_false, Int.toNat_natCast, Int.reduceToNat, if_true, if_false, mi_43, i43_0, i43_1, i43_4, i43_7, i43_8, i43_11, i43_14, i43_15, i43_16, i43_19, i43_22, i43_25, i43_26, i43_27, i43_28, i43_31, i43_34, i43_35, i43_36, i43_37, i43_38, i43_41, i43_44, i43_45, i43_46, i43_47, i43_48, k14, k21, k44, g11_1, g2_10, ca_67 hH.1, x_noFloor hH hC, bi_z, Classical.not_not, c1', m_isEdge, m_within, c2, c3, mv76_0 hH.2.1, mv76_5 hH.2.1, e5]
  exact hQ
/-- shapes stay with a row of the floor told anew -/
theorem CH.m {k n : Nat} {f : Nat → Int} (hH : CH W) (hk : 76 < k ∧ k ≤ 92) (h : MS (wu W k (ea 0 n f)) 76) : CH (wu W k (ea 0 n f)) := by
  obtain ⟨a1, a2, a3, ⟨mm, ll, a4⟩, a5, a6, a7, a8⟩ := hH
  refine ⟨a1.ot ?_, h, a3.ot (by omega), ⟨mm, ll, by rw [wu_ne (by omega), ob_n (by omega)]; exact a4⟩, by rw [wu_ne (by omega), rr_n (by omega)]; exact a5, by rw [wu_ne (by omega), rr_n (by omega)]; exact a6, by rw [wu_ne (by omega), rr_n (by omega)]; exact a7, by rw [wu_ne (by omega), rr_n (by omega)]; exact a8⟩
  intro q
  exact (show ∀ j ∈ cown, ¬ (76 < j ∧ j ≤ 92) by decide) k q hk
theorem y_scratch0 {e n : Int} (hR : KR W s) (hS : SOK c s) (hg : ¬ (hasF s ∧ (0 ≤ e ∧ e ≤ 179) ∧ (0 ≤ n ∧ n ≤ 9999))) (hQ : Q (some (vi (-1))) W) : Gm 191 [vr 148, vi e, vi n] W Q := by
  have hw : 192 ≤ W.1 := hR.1.1
  rw [e191]
  by_cases c1 : hasF s ∧ 0 ≤ e ∧ e ≤ 179
  · have c3 : ¬ (0 ≤ n ∧ n ≤ 9999) := fun q => hg ⟨c1.1, c1.2, q⟩
    simp (disch := omega) only [s_1, s_2, s_3, s_4, s_76, s_5, s_6, s_7, s_8, s_9, s_10, s_11, s_12, s_13, s_14, s_15, s_16, s_17, s_18, s_19, s_20, s_21, s_22, s_23, s_24, s_25, s_26, s_27, s_28, s_29, s_30, s_31, s_32, s_33, s_34, s_35, s_36, s_37, s_38, s_39, s_40l, s_40i, s_40r, s_41, s_43, t_44, t_45, t_46, t_47, s_48, s_49, s_50, s_51, s_52, s_53, s_54, s_55, s_56, s_57, s_58, s_59, s_60, s_61, s_62_0, s_62_1, s_62_2, s_66, s_67, s_68, s_69, s_70, s_71, s_72, s_73, sws_n, sws_c, lget, lset, fget, fset, nolg, nolong, avc, stw, cnd, isobj_eo, GCi, GCn, retk, List.length_cons, List.length_nil, ↓reduceIte, and_true, true_and, not_true_eq_false, not_false_eq_true, forall_const, Nat.reduceAdd, Nat.reduceLT, Nat.reduceLeDiff, Nat.lt_add_one, Nat.le_refl, Nat.zero_le, Nat.sub_zero, Int.reduceEq, Int.reduceNe, Int.reduceLT, Int.reduceLE, Int.reduceAdd, Int.reduceSub, Int.reduceMul, Int.reduceNeg, Int.reduceTDiv, Int.reduceTMod, ne_eq, reduceCtorEq, Nat.reduceEqDiff, Int.cast_ofNat_Int, true_or, or_true, false_or, or_false, lcq_0, lcq_2, lcq_3, lcq_4, lcq_5, wu_s, wu_1, wu_w, wu_lt, wu_ne, ar_s, ar_n, rr_s, rr_n, ob_n, nz_c, lt_T, lt_F, le_T, le_F, ie_T, ie_F, nt_T, nt_F, nl_T, nl_F, in_T, and_false, false_and, and_self, not_true_eq_false, Int.toNat_natCast, Int.reduceToNat, if_true, if_false, mi_191, i191_0, i191_1, i191_2, i191_5, i191_8, i191_9, i191_10, i191_11, i191_14, i191_17, i191_20, i191_21, i191_22, i191_23, i191_26, i191_27, i191_28, i191_29, i191_30, i191_33, i191_34, i191_35, i191_36, i191_37, k179, k192, g12_7, ra_148 hR.1, y_isEdge hR hS, m_in, bi_z, Classical.not_not, eq_true c1, c3]
    exact hQ
  · simp (disch := omega) only [s_1, s_2, s_3, s_4, s_76, s_5, s_6, s_7, s_8, s_9, s_10, s_11, s_12, s_13, s_14, s_15, s_16, s_17, s_18, s_19, s_20, s_21, s_22, s_23, s_24, s_25, s_26, s_27, s_28, s_29, s_30, s_31, s_32, s_33, s_34, s_35, s_36, s_37, s_38, s_39, s_40l, s_40i, s_40r, s_41, s_43, t_44, t_45, t_46, t_47, s_48, s_49, s_50, s_51, s_52, s_53, s_54, s_55, s_56, s_57, s_58, s_59, s_60, s_61, s_62_0, s_62_1, s_62_2, s_66, s_67, s_68, s_69, s_70, s_71, s_72, s_73, sws_n, sws_c, lget, lset, fget, fset, nolg, nolong, avc, stw, cnd, isobj_eo, GCi, GCn, retk, List.length_cons, List.length_nil, ↓reduceIte, and_true, true_and, not_true_eq_false, not_false_eq_true, forall_const, Nat.reduceAdd, Nat.reduceLT, Nat.reduceLeDiff, Nat.lt_add_one, Nat.le_refl, Nat.zero_le, Nat.sub_zero, Int.reduceEq, Int.reduceNe, Int.reduceLT, Int.reduceLE, Int.reduceAdd, Int.reduceSub, Int.reduceMul, Int.reduceNeg, Int.reduceTDiv, Int.reduceTMod, ne_eq, reduceCtorEq, Nat.reduceEqDiff, Int.cast_ofNat_Int, true_or, or_true, false_or, or_false, lcq_0, lcq_2, lcq_3, lcq_4, lcq_5, wu_s, wu_1, wu_w, wu_lt, wu_ne, ar_s, ar_n, rr_s, rr_n, ob_n, nz_c, lt_T, lt_F, le_T, le_F, ie_T, ie_F, nt_T, nt_F, nl_T, nl_F, in_T, and_false, false_and, and_self, not_true_eq_false, Int.toNat_natCast, Int.reduceToNat, if_true, if_false, mi_191, i191_0, i191_1, i191_2, i191_5, i191_8, i191_9, i191_10, i191_11, i191_14, i191_17, i191_20, i191_21, i191_22, i191_23, i191_26, i191_27, i191_28, i191_29, i191_30, i191_33, i191_34, i191_35, i191_36, i191_37, k179, k192, g12_7, ra_148 hR.1, y_isEdge hR hS, m_in, bi_z, Classical.not_not, eq_false c1]
    exact hQ
theorem y_scratch1 {e n : Int} (hR : KR W s) (hS : SOK c s) (hg : hasF s ∧ (0 ≤ e ∧ e ≤ 179) ∧ (0 ≤ n ∧ n ≤ 9999)) (hQ : Q (some (vi (sF s 5 e.toNat))) (wu W 154 (ea 0 180 (fu (sF s 5) e.toNat n)))) : Gm 191 [vr 148, vi e, vi n] W Q := by
  have hw : 192 ≤ W.1 := hR.1.1
  obtain ⟨c1, c2, c3⟩ := hg
  have c4 : hasF s ∧ 0 ≤ e ∧ e ≤ 179 := ⟨c1, c2⟩
  have e5 : ar W 154 = sF s 5 := hR.f 5 (by decide)
  rw [e191]
  simp (disch := omega) only [s_1, s_2, s_3, s_4, s_76, s_5, s_6, s_7, s_8, s_9, s_10, s_11, s_12, s_13, s_14, s_15, s_16, s_17, s_18, s_19, s_20, s_21, s_22, s_23, s_24, s_25, s_26, s_27, s_28, s_29, s_30, s_31, s_32, s_33, s_34, s_35, s_36, s_37, s_38, s_39, s_40l, s_40i, s_40r, s_41, s_43, t_44, t_45, t_46, t_47, s_48, s_49, s_50, s_51, s_52, s_53, s_54, s_55, s_56, s_57, s_58, s_59, s_60, s_61, s_62_0, s_62_1, s_62_2, s_66, s_67, s_68, s_69, s_70, s_71, s_72, s_73, sws_n, sws_c, lget, lset, fget, fset, nolg, nolong, avc, stw, cnd, isobj_eo, GCi, GCn, retk, List.length_cons, List.length_nil, ↓reduceIte, and_true, true_and, not_true_eq_false, not_false_eq_true, forall_const, Nat.reduceAdd, Nat.reduceLT, Nat.reduceLeDiff, Nat.lt_add_one, Nat.le_refl, Nat.zero_le, Nat.sub_zero, Int.reduceEq, Int.reduceNe, Int.reduceLT, Int.reduceLE, Int.reduceAdd, Int.reduceSub, Int.reduceMul, Int.reduceNeg, Int.reduceTDiv, Int.reduceTMod, ne_eq, reduceCtorEq, Nat.reduceEqDiff, Int.cast_ofNat_Int, true_or, or_true, false_or, or_false, lcq_0, lcq_2, lcq_3, lcq_4, lcq_5, wu_s, wu_1, wu_w, wu_lt, wu_ne, ar_s, ar_n, rr_s, rr_n, ob_n, nz_c, lt_T, lt_F, le_T, le_F, ie_T, ie_F, nt_T, nt_F, nl_T, nl_F, in_T, and_false, false_and, and_self, not_true_eq_false, Int.toNat_natCast, Int.reduceToNat, if_true, if_false, mi_191, i191_0, i191_1, i191_2, i191_5, i191_8, i191_9, i191_10, i191_11, i191_14, i191_17, i191_20, i191_21, i191_22, i191_23, i191_26, i191_27, i191_28, i191_29, i191_30, i191_33, i191_34, i191_35, i191_36, i191_37, k179, k192, g12_7, ra_148 hR.1, ra_154 hR.1, y_isEdge hR hS, m_in, bi_z, Classical.not_not, eq_true c4, c3, e5]
  exact hQ
theorem FN.r5 {σ : SG} {e : Nat} {n : Int} (h : FN c σ) (hn : 0 ≤ n ∧ n ≤ 9999) : FN c (fu σ 5 (fu (σ 5) e n)) := by
  obtain ⟨⟨a1, a2, a3, a4, a5, a6, a7, a8, a9, a10, a11, a12⟩, b⟩ := h
  exact ⟨⟨a1, a2, a3, a4, a5, a6, a7, all_fu (P := fun _ x => 0 ≤ x ∧ x ≤ 9999) a8 hn, a9, a10, a11, a12⟩, b⟩
end SIMPLE
theorem ok3 {L : Nat} {X : Nat → Int} {c : Nat} {W : AW} {e n : Int} (hI : Inv L X c W) : CallOK (Inv L X (c + 1)) W 43 191 [vi e, vi n] := by
  obtain ⟨h0, hz, hcl, s, hS, hH, hC, hR⟩ := hI
  have hcc : (c : Int) ≤ ((c + 1 : Nat) : Int) := by omega
  refine call_mk (has_c (has_c has_0)) (by decide +kernel) h0 hz hcl hH hR ?_
  by_cases g : hasF s ∧ (0 ≤ e ∧ e ≤ 179) ∧ (0 ≤ n ∧ n ≤ 9999)
  · refine x_scratch1 hH hC g ⟨_, (fu (sF s) 5 (fu (sF s 5) e.toNat n), s.2), rfl, hH.m (by decide) (mu_5 hH.2.1), ?_, hS.fl hcc g.1 (((hS.fn g.1).mono hcc).r5 g.2.2), fun W1 k1 z1 => y_scratch1 k1 hS g ⟨rfl, ?_⟩⟩
    · refine hC.fl (Nat.le_refl _) (fun k q => wu_ne (by omega)) (fun k p q => wu_ne (by omega)) ?_ rfl rfl rfl rfl (hC.2.1.c3 (wu_ne (by omega)) (wu_ne (by omega)) (wu_ne (by omega)))
      show Sq (cF (wu W (76 + 5) _) 76) _
      rw [cf_5]
      exact Sq.upd (k := 5) (σ := cF W 76) hC.1.1 (by decide)
    · refine k1.fl (ru_154 k1.1) (Fq.rf.up (by omega)) ?_
      rw [rf_154, k1.2.2.1]
  · exact x_scratch0 hH hC g ⟨_, s, rfl, hH, hC, hS.mono hcc, fun W1 k1 z1 => y_scratch0 k1 hS g ⟨rfl, k1⟩⟩
