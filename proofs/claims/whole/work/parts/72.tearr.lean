-- THE REFERENCE'S TEARS
def rF (W : AW) : SG := fun k => if k < 18 then ar W (149 + k) else fun _ => 0
theorem rF_u {W : AW} {k t n : Nat} {f : Nat → Int} (hk : k < 18) : rF (wu W (149 + k) (ea t n f)) = fu (rF W) k f := by
  funext j
  unfold fu rF
  by_cases h : j = k
  · subst h
    rw [if_pos hk, if_pos rfl, ar_s]
  · rw [if_neg h]
    by_cases h2 : j < 18
    · rw [if_pos h2, if_pos h2, ar_n (by omega)]
    · rw [if_neg h2, if_neg h2]
theorem rF_c {W W' : AW} (h : ∀ k, 149 ≤ k → k < 167 → W'.2 k = W.2 k) : rF W' = rF W := by
  funext j
  unfold rF
  by_cases h2 : j < 18
  · rw [if_pos h2, if_pos h2, ar_c (h _ (by omega) (by omega))]
  · rw [if_neg h2, if_neg h2]
theorem rF_o {W : AW} {j : Nat} {e : AE} (h : j < 149 ∨ 167 ≤ j) : rF (wu W j e) = rF W := rF_c (fun k a b => wu_ne (by omega))
theorem rf_149 {W : AW} {f : Nat → Int} : rF (wu W 149 (ea 0 8 f)) = fu (rF W) 0 f := rF_u (k := 0) (by decide)
theorem rg_149 {W : AW} : rF W 0 = ar W 149 := rfl
theorem rf_150 {W : AW} {f : Nat → Int} : rF (wu W 150 (ea 0 400 f)) = fu (rF W) 1 f := rF_u (k := 1) (by decide)
theorem rg_150 {W : AW} : rF W 1 = ar W 150 := rfl
theorem rf_151 {W : AW} {f : Nat → Int} : rF (wu W 151 (ea 0 100 f)) = fu (rF W) 2 f := rF_u (k := 2) (by decide)
theorem rg_151 {W : AW} : rF W 2 = ar W 151 := rfl
theorem rf_152 {W : AW} {f : Nat → Int} : rF (wu W 152 (ea 0 100 f)) = fu (rF W) 3 f := rF_u (k := 3) (by decide)
theorem rg_152 {W : AW} : rF W 3 = ar W 152 := rfl
theorem rf_153 {W : AW} {f : Nat → Int} : rF (wu W 153 (ea 0 180 f)) = fu (rF W) 4 f := rF_u (k := 4) (by decide)
theorem rg_153 {W : AW} : rF W 4 = ar W 153 := rfl
theorem rf_154 {W : AW} {f : Nat → Int} : rF (wu W 154 (ea 0 180 f)) = fu (rF W) 5 f := rF_u (k := 5) (by decide)
theorem rg_154 {W : AW} : rF W 5 = ar W 154 := rfl
theorem rf_155 {W : AW} {f : Nat → Int} : rF (wu W 155 (ea 0 180 f)) = fu (rF W) 6 f := rF_u (k := 6) (by decide)
theorem rg_155 {W : AW} : rF W 6 = ar W 155 := rfl
theorem rf_156 {W : AW} {f : Nat → Int} : rF (wu W 156 (ea 0 180 f)) = fu (rF W) 7 f := rF_u (k := 7) (by decide)
theorem rg_156 {W : AW} : rF W 7 = ar W 156 := rfl
theorem rf_157 {W : AW} {f : Nat → Int} : rF (wu W 157 (ea 0 180 f)) = fu (rF W) 8 f := rF_u (k := 8) (by decide)
theorem rg_157 {W : AW} : rF W 8 = ar W 157 := rfl
theorem rf_158 {W : AW} {f : Nat → Int} : rF (wu W 158 (ea 0 200 f)) = fu (rF W) 9 f := rF_u (k := 9) (by decide)
theorem rg_158 {W : AW} : rF W 9 = ar W 158 := rfl
theorem rf_159 {W : AW} {f : Nat → Int} : rF (wu W 159 (ea 0 200 f)) = fu (rF W) 10 f := rF_u (k := 10) (by decide)
theorem rg_159 {W : AW} : rF W 10 = ar W 159 := rfl
theorem rf_160 {W : AW} {f : Nat → Int} : rF (wu W 160 (ea 0 200 f)) = fu (rF W) 11 f := rF_u (k := 11) (by decide)
theorem rg_160 {W : AW} : rF W 11 = ar W 160 := rfl
theorem rf_161 {W : AW} {f : Nat → Int} : rF (wu W 161 (ea 0 400 f)) = fu (rF W) 12 f := rF_u (k := 12) (by decide)
theorem rg_161 {W : AW} : rF W 12 = ar W 161 := rfl
theorem rf_162 {W : AW} {f : Nat → Int} : rF (wu W 162 (ea 0 400 f)) = fu (rF W) 13 f := rF_u (k := 13) (by decide)
theorem rg_162 {W : AW} : rF W 13 = ar W 162 := rfl
theorem rf_163 {W : AW} {f : Nat → Int} : rF (wu W 163 (ea 0 400 f)) = fu (rF W) 14 f := rF_u (k := 14) (by decide)
theorem rg_163 {W : AW} : rF W 14 = ar W 163 := rfl
theorem rf_164 {W : AW} {f : Nat → Int} : rF (wu W 164 (ea 0 420 f)) = fu (rF W) 15 f := rF_u (k := 15) (by decide)
theorem rg_164 {W : AW} : rF W 15 = ar W 164 := rfl
theorem rf_165 {W : AW} {f : Nat → Int} : rF (wu W 165 (ea 0 6 f)) = fu (rF W) 16 f := rF_u (k := 16) (by decide)
theorem rg_165 {W : AW} : rF W 16 = ar W 165 := rfl
theorem rf_166 {W : AW} {f : Nat → Int} : rF (wu W 166 (ea 0 6 f)) = fu (rF W) 17 f := rF_u (k := 17) (by decide)
theorem rg_166 {W : AW} : rF W 17 = ar W 166 := rfl
/-- nothing but the floor's rows and the rows that are written anew at each asking is otherwise -/
def Fq (W W' : AW) : Prop := W'.1 = W.1 ∧ ∀ k, k < 149 ∨ (166 < k ∧ k ≠ 177 ∧ k ≠ 178 ∧ k ≠ 179) → W'.2 k = W.2 k
theorem Fq.rf {W : AW} : Fq W W := ⟨rfl, fun _ _ => rfl⟩
theorem Fq.tr {W W1 W2 : AW} (h : Fq W W1) (g : Fq W1 W2) : Fq W W2 := ⟨g.1.trans h.1, fun k q => (g.2 k q).trans (h.2 k q)⟩
theorem Fq.up {W W1 : AW} (h : Fq W W1) {j : Nat} {e : AE} (hj : (149 ≤ j ∧ j ≤ 166) ∨ j = 177 ∨ j = 178 ∨ j = 179) : Fq W (wu W1 j e) := ⟨h.1, fun k q => (wu_ne (by omega)).trans (h.2 k q)⟩
theorem LawR.fq {W W' : AW} {r : Int} {lw : LW} (h : LawR W r lw) (hf : Fq W W') : LawR W' r lw := h.cg (fun k a b => hf.2 k (by omega))
theorem pul_b {t w : Nat → Int} {l e : Int} (hw : Thou w) (hl : 1 ≤ l) : 0 ≤ pul t w l e ∧ pul t w l e ≤ 40000 := by
  have w1 := hw (efc e).toNat
  have w2 := hw (eoc e).toNat
  have q1 := rcB_b (t := t) (e := e) (l := l) (f := 9) (n := 1)
  have q2 := rcF_b (t := t) (e := e) (l := l) (f := 9) (n := 1)
  unfold pul
  generalize rcB t e l 9 1 = x1 at q1 ⊢
  generalize rcF t e l 9 1 = x2 at q2 ⊢
  generalize hd : 2000 - w (efc e).toNat - w (eoc e).toNat = dd
  have m1 : 0 ≤ dd * (x1 + x2) := Int.mul_nonneg (by omega) (by omega)
  have m2 : dd * (x1 + x2) ≤ 2000 * 20 := Int.mul_le_mul (by omega) (by omega) (by omega) (by omega)
  rw [Int.tdiv_eq_ediv_of_nonneg m1]
  exact ⟨Int.ediv_nonneg m1 (by omega), Int.le_trans (Int.ediv_le_self _ m1) m2⟩
section R5
variable {W : AW} {Q : AQ} {e r n bb : Int} {lw : LW}
theorem r_tornAt (hR : RS W) (hn : inn n) : Gm 245 [vr 148, vi n, vi bb] W Q ↔ Q (some (vi (tAs (ar W 155) n bb 4))) W := by
  have key := loop_u (P := fun d => ∀ v5 : Option AV, nolong v5 → (G 245 5 [some (vr 148), some (vi n), some (vi bb), some (vi (tAs (ar W 155) n bb d)), some (vi (d : Int)), v5] [] W 0 0 Q ↔ Q (some (vi (tAs (ar W 155) n bb 4))) W)) 4 (fun d hd ih => ?_) ?_ 0 (by decide) none trivial
  · rw [e245, ← key]
    simp (disch := omega) only [s_1, s_2, s_3, s_4, s_76, s_5, s_6, s_7, s_8, s_9, s_10, s_11, s_12, s_13, s_14, s_15, s_16, s_17, s_18, s_19, s_20, s_21, s_22, s_23, s_24, s_25, s_26, s_27, s_28, s_29, s_30, s_31, s_32, s_33, s_34, s_35, s_36, s_37, s_38, s_39, s_40l, s_40i, s_40r, s_41, s_43, t_44, t_45, t_46, t_47, s_48, s_49, s_50, s_51, s_52, s_53, s_54, s_55, s_56, s_57, s_58, s_59, s_60, s_61, s_62_0, s_62_1, s_62_2, s_66, s_67, s_68, s_69, s_70, s_71, s_72, s_73, sws_n, sws_c, lget, lset, fget, fset, nolg, nolong, avc, stw, cnd, isobj_eo, GCi, GCn, retk, List.length_cons, List.length_nil, ↓reduceIte, and_true, true_and, not_true_eq_false, not_false_eq_true, forall_const, Nat.reduceAdd, Nat.reduceLT, Nat.reduceLeDiff, Nat.lt_add_one, Nat.le_refl, Nat.zero_le, Nat.sub_zero, Int.reduceEq, Int.reduceNe, Int.reduceLT, Int.reduceLE, Int.reduceAdd, Int.reduceSub, Int.reduceMul, Int.reduceNeg, Int.reduceTDiv, Int.reduceTMod, ne_eq, reduceCtorEq, Nat.reduceEqDiff, Int.cast_ofNat_Int, true_or, or_true, false_or, or_false, lcq_0, lcq_2, lcq_3, lcq_4, lcq_5, wu_s, wu_1, wu_w, wu_lt, wu_ne, ar_s, ar_n, rr_s, rr_n, ob_n, nz_c, lt_T, lt_F, le_T, le_F, ie_T, ie_F, nt_T, nt_F, nl_T, nl_F, in_T, and_false, false_and, and_self, not_true_eq_false, Int.toNat_natCast, Int.reduceToNat, if_true, if_false, mi_245, i245_0, i245_1, i245_2, i245_3, i245_7, i245_8, i245_11, i245_12, i245_14, i245_17, i245_19, i245_21, i245_22, i245_25, i245_26, i245_28, i245_31, i245_34, i245_35, i245_36, i245_39, i245_41, i245_42, i245_45, i245_47, i245_50, i245_51, i245_52, i245_55, i245_58, i245_59, k190, k240, tAs]
  · intro v5 n5
    have hrc : tAs (ar W 155) n bb (d + 1) = if ¬ eef n d = bb ∧ ¬ ar W 155 (eef n d).toNat = -1 ∧ (tAs (ar W 155) n bb d = -1 ∨ eef n d < tAs (ar W 155) n bb d) then eef n d else tAs (ar W 155) n bb d := rfl
    have i2 := ih (some (vi (eef n d))) trivial
    have hb := eef_b (d := (d : Int)) hn
    generalize tAs (ar W 155) n bb (d + 1) = z at hrc i2
    generalize tAs (ar W 155) n bb d = y at hrc ⊢
    have hx := fun {Q : AQ} (h0 : 0 ≤ (d : Int)) (h1 : (d : Int) < 4) => r_edgeFrom (W := W) (Q := Q) (d := (d : Int)) hn h0 h1
    generalize eef n d = x at hrc hb hx i2 ⊢
    rw [i245_5]
    by_cases c1 : x = bb
    · rw [if_neg (fun q => q.1 c1)] at hrc
      subst hrc
      simp (disch := omega) only [s_1, s_2, s_3, s_4, s_76, s_5, s_6, s_7, s_8, s_9, s_10, s_11, s_12, s_13, s_14, s_15, s_16, s_17, s_18, s_19, s_20, s_21, s_22, s_23, s_24, s_25, s_26, s_27, s_28, s_29, s_30, s_31, s_32, s_33, s_34, s_35, s_36, s_37, s_38, s_39, s_40l, s_40i, s_40r, s_41, s_43, t_44, t_45, t_46, t_47, s_48, s_49, s_50, s_51, s_52, s_53, s_54, s_55, s_56, s_57, s_58, s_59, s_60, s_61, s_62_0, s_62_1, s_62_2, s_66, s_67, s_68, s_69, s_70, s_71, s_72, s_73, sws_n, sws_c, lget, lset, fget, fset, nolg, nolong, avc, stw, cnd, isobj_eo, GCi, GCn, retk, List.length_cons, List.length_nil, ↓reduceIte, and_true, true_and, not_true_eq_false, not_false_eq_true, forall_const, Nat.reduceAdd, Nat.reduceLT, Nat.reduceLeDiff, Nat.lt_add_one, Nat.le_refl, Nat.zero_le, Nat.sub_zero, Int.reduceEq, Int.reduceNe, Int.reduceLT, Int.reduceLE, Int.reduceAdd, Int.reduceSub, Int.reduceMul, Int.reduceNeg, Int.reduceTDiv, Int.reduceTMod, ne_eq, reduceCtorEq, Nat.reduceEqDiff, Int.cast_ofNat_Int, true_or, or_true, false_or, or_false, lcq_0, lcq_2, lcq_3, lcq_4, lcq_5, wu_s, wu_1, wu_w, wu_lt, wu_ne, ar_s, ar_n, rr_s, rr_n, ob_n, nz_c, lt_T, lt_F, le_T, le_F, ie_T, ie_F, nt_T, nt_F, nl_T, nl_F, in_T, and_false, false_and, and_self, not_true_eq_false, Int.toNat_natCast, Int.reduceToNat, if_true, if_false, mi_245, i245_0, i245_1, i245_2, i245_3, i245_7, i245_8, i245_11, i245_12, i245_14, i245_17, i245_19, i245_21, i245_22, i245_25, i245_26, i245_28, i245_31, i245_34, i245_35, i245_36, i245_39, i245_41, i245_42, i245_45, i245_47, i245_50, i245_51, i245_52, i245_55, i245_58, i245_59, k190, k240, ra_148 hR, hR.w, hx, r_isTorn hR, bi_z, Classical.not_not, n5, c1]
      rw [c1] at i2
      exact i2
    · by_cases c2 : ar W 155 x.toNat = -1
      · rw [if_neg (fun q => q.2.1 c2)] at hrc
        subst hrc
        simp (disch := omega) only [s_1, s_2, s_3, s_4, s_76, s_5, s_6, s_7, s_8, s_9, s_10, s_11, s_12, s_13, s_14, s_15, s_16, s_17, s_18, s_19, s_20, s_21, s_22, s_23, s_24, s_25, s_26, s_27, s_28, s_29, s_30, s_31, s_32, s_33, s_34, s_35, s_36, s_37, s_38, s_39, s_40l, s_40i, s_40r, s_41, s_43, t_44, t_45, t_46, t_47, s_48, s_49, s_50, s_51, s_52, s_53, s_54, s_55, s_56, s_57, s_58, s_59, s_60, s_61, s_62_0, s_62_1, s_62_2, s_66, s_67, s_68, s_69, s_70, s_71, s_72, s_73, sws_n, sws_c, lget, lset, fget, fset, nolg, nolong, avc, stw, cnd, isobj_eo, GCi, GCn, retk, List.length_cons, List.length_nil, ↓reduceIte, and_true, true_and, not_true_eq_false, not_false_eq_true, forall_const, Nat.reduceAdd, Nat.reduceLT, Nat.reduceLeDiff, Nat.lt_add_one, Nat.le_refl, Nat.zero_le, Nat.sub_zero, Int.reduceEq, Int.reduceNe, Int.reduceLT, Int.reduceLE, Int.reduceAdd, Int.reduceSub, Int.reduceMul, Int.reduceNeg, Int.reduceTDiv, Int.reduceTMod, ne_eq, reduceCtorEq, Nat.reduceEqDiff, Int.cast_ofNat_Int, true_or, or_true, false_or, or_false, lcq_0, lcq_2, lcq_3, lcq_4, lcq_5, wu_s, wu_1, wu_w, wu_lt, wu_ne, ar_s, ar_n, rr_s, rr_n, ob_n, nz_c, lt_T, lt_F, le_T, le_F, ie_T, ie_F, nt_T, nt_F, nl_T, nl_F, in_T, and_false, false_and, and_self, not_true_eq_false, Int.toNat_natCast, Int.reduceToNat, if_true, if_false, mi_245, i245_0, i245_1, i245_2, i245_3, i245_7, i245_8, i245_11, i245_12, i245_14, i245_17, i245_19, i245_21, i245_22, i245_25, i245_26, i245_28, i245_31, i245_34, i245_35, i245_36, i245_39, i245_41, i245_42, i245_45, i245_47, i245_50, i245_51, i245_52, i245_55, i245_58, i245_59, k190, k240, ra_148 hR, hR.w, hx, r_isTorn hR, bi_z, Classical.not_not, n5, c1, c2]
        exact i2
      · by_cases c3 : y = -1
        · rw [if_pos ⟨c1, c2, Or.inl c3⟩] at hrc
          subst hrc
          simp (disch := omega) only [s_1, s_2, s_3, s_4, s_76, s_5, s_6, s_7, s_8, s_9, s_10, s_11, s_12, s_13, s_14, s_15, s_16, s_17, s_18, s_19, s_20, s_21, s_22, s_23, s_24, s_25, s_26, s_27, s_28, s_29, s_30, s_31, s_32, s_33, s_34, s_35, s_36, s_37, s_38, s_39, s_40l, s_40i, s_40r, s_41, s_43, t_44, t_45, t_46, t_47, s_48, s_49, s_50, s_51, s_52, s_53, s_54, s_55, s_56, s_57, s_58, s_59, s_60, s_61, s_62_0, s_62_1, s_62_2, s_66, s_67, s_68, s_69, s_70, s_71, s_72, s_73, sws_n, sws_c, lget, lset, fget, fset, nolg, nolong, avc, stw, cnd, isobj_eo, GCi, GCn, retk, List.length_cons, List.length_nil, ↓reduceIte, and_true, true_and, not_true_eq_false, not_false_eq_true, forall_const, Nat.reduceAdd, Nat.reduceLT, Nat.reduceLeDiff, Nat.lt_add_one, Nat.le_refl, Nat.zero_le, Nat.sub_zero, Int.reduceEq, Int.reduceNe, Int.reduceLT, Int.reduceLE, Int.reduceAdd, Int.reduceSub, Int.reduceMul, Int.reduceNeg, Int.reduceTDiv, Int.reduceTMod, ne_eq, reduceCtorEq, Nat.reduceEqDiff, Int.cast_ofNat_Int, true_or, or_true, false_or, or_false, lcq_0, lcq_2, lcq_3, lcq_4, lcq_5, wu_s, wu_1, wu_w, wu_lt, wu_ne, ar_s, ar_n, rr_s, rr_n, ob_n, nz_c, lt_T, lt_F, le_T, le_F, ie_T, ie_F, nt_T, nt_F, nl_T, nl_F, in_T, and_false, false_and, and_self, not_true_eq_false, Int.toNat_natCast, Int.reduceToNat, if_true, if_false, mi_245, i245_0, i245_1, i245_2, i245_3, i245_7, i245_8, i245_11, i245_12, i245_14, i245_17, i245_19, i245_21, i245_22, i245_25, i245_26, i245_28, i245_31, i245_34, i245_35, i245_36, i245_39, i245_41, i245_42, i245_45, i245_47, i245_50, i245_51, i245_52, i245_55, i245_58, i245_59, k190, k240, ra_148 hR, hR.w, hx, r_isTorn hR, bi_z, Classical.not_not, n5, c1, c2, c3]
          exact i2
        · by_cases c4 : x < y
          · rw [if_pos ⟨c1, c2, Or.inr c4⟩] at hrc
            subst hrc
            simp (disch := omega) only [s_1, s_2, s_3, s_4, s_76, s_5, s_6, s_7, s_8, s_9, s_10, s_11, s_12, s_13, s_14, s_15, s_16, s_17, s_18, s_19, s_20, s_21, s_22, s_23, s_24, s_25, s_26, s_27, s_28, s_29, s_30, s_31, s_32, s_33, s_34, s_35, s_36, s_37, s_38, s_39, s_40l, s_40i, s_40r, s_41, s_43, t_44, t_45, t_46, t_47, s_48, s_49, s_50, s_51, s_52, s_53, s_54, s_55, s_56, s_57, s_58, s_59, s_60, s_61, s_62_0, s_62_1, s_62_2, s_66, s_67, s_68, s_69, s_70, s_71, s_72, s_73, sws_n, sws_c, lget, lset, fget, fset, nolg, nolong, avc, stw, cnd, isobj_eo, GCi, GCn, retk, List.length_cons, List.length_nil, ↓reduceIte, and_true, true_and, not_true_eq_false, not_false_eq_true, forall_const, Nat.reduceAdd, Nat.reduceLT, Nat.reduceLeDiff, Nat.lt_add_one, Nat.le_refl, Nat.zero_le, Nat.sub_zero, Int.reduceEq, Int.reduceNe, Int.reduceLT, Int.reduceLE, Int.reduceAdd, Int.reduceSub, Int.reduceMul, Int.reduceNeg, Int.reduceTDiv, Int.reduceTMod, ne_eq, reduceCtorEq, Nat.reduceEqDiff, Int.cast_ofNat_Int, true_or, or_true, false_or, or_false, lcq_0, lcq_2, lcq_3, lcq_4, lcq_5, wu_s, wu_1, wu_w, wu_lt, wu_ne, ar_s, ar_n, rr_s, rr_n, ob_n, nz_c, lt_T, lt_F, le_T, le_F, ie_T, ie_F, nt_T, nt_F, nl_T, nl_F, in_T, and_false, false_and, and_self, not_true_eq_false, Int.toNat_natCast, Int.reduceToNat, if_true, if_false, mi_245, i245_0, i245_1, i245_2, i245_3, i245_7, i245_8, i245_11, i245_12, i245_14, i245_17, i245_19, i245_21, i245_22, i245_25, i245_26, i245_28, i245_31, i245_34, i245_35, i245_36, i245_39, i245_41, i245_42, i245_45, i245_47, i245_50, i245_51, i245_52, i245_55, i245_58, i245_59, k190, k240, ra_148 hR, hR.w, hx, r_isTorn hR, bi_z, Classical.not_not, n5, c1, c2, c3]
            exact i2
          · rw [if_neg (fun q => q.2.2.elim c3 c4)] at hrc
            subst hrc
            simp (disch := omega) only [s_1, s_2, s_3, s_4, s_76, s_5, s_6, s_7, s_8, s_9, s_10, s_11, s_12, s_13, s_14, s_15, s_16, s_17, s_18, s_19, s_20, s_21, s_22, s_23, s_24, s_25, s_26, s_27, s_28, s_29, s_30, s_31, s_32, s_33, s_34, s_35, s_36, s_37, s_38, s_39, s_40l, s_40i, s_40r, s_41, s_43, t_44, t_45, t_46, t_47, s_48, s_49, s_50, s_51, s_52, s_53, s_54, s_55, s_56, s_57, s_58, s_59, s_60, s_61, s_62_0, s_62_1, s_62_2, s_66, s_67, s_68, s_69, s_70, s_71, s_72, s_73, sws_n, sws_c, lget, lset, fget, fset, nolg, nolong, avc, stw, cnd, isobj_eo, GCi, GCn, retk, List.length_cons, List.length_nil, ↓reduceIte, and_true, true_and, not_true_eq_false, not_false_eq_true, forall_const, Nat.reduceAdd, Nat.reduceLT, Nat.reduceLeDiff, Nat.lt_add_one, Nat.le_refl, Nat.zero_le, Nat.sub_zero, Int.reduceEq, Int.reduceNe, Int.reduceLT, Int.reduceLE, Int.reduceAdd, Int.reduceSub, Int.reduceMul, Int.reduceNeg, Int.reduceTDiv, Int.reduceTMod, ne_eq, reduceCtorEq, Nat.reduceEqDiff, Int.cast_ofNat_Int, true_or, or_true, false_or, or_false, lcq_0, lcq_2, lcq_3, lcq_4, lcq_5, wu_s, wu_1, wu_w, wu_lt, wu_ne, ar_s, ar_n, rr_s, rr_n, ob_n, nz_c, lt_T, lt_F, le_T, le_F, ie_T, ie_F, nt_T, nt_F, nl_T, nl_F, in_T, and_false, false_and, and_self, not_true_eq_false, Int.toNat_natCast, Int.reduceToNat, if_true, if_false, mi_245, i245_0, i245_1, i245_2, i245_3, i245_7, i245_8, i245_11, i245_12, i245_14, i245_17, i245_19, i245_21, i245_22, i245_25, i245_26, i245_28, i245_31, i245_34, i245_35, i245_36, i245_39, i245_41, i245_42, i245_45, i245_47, i245_50, i245_51, i245_52, i245_55, i245_58, i245_59, k190, k240, ra_148 hR, hR.w, hx, r_isTorn hR, bi_z, Classical.not_not, n5, c1, c2, c3]
            exact i2
  · intro v5 n5
    rw [i245_5]
    simp (disch := omega) only [s_1, s_2, s_3, s_4, s_76, s_5, s_6, s_7, s_8, s_9, s_10, s_11, s_12, s_13, s_14, s_15, s_16, s_17, s_18, s_19, s_20, s_21, s_22, s_23, s_24, s_25, s_26, s_27, s_28, s_29, s_30, s_31, s_32, s_33, s_34, s_35, s_36, s_37, s_38, s_39, s_40l, s_40i, s_40r, s_41, s_43, t_44, t_45, t_46, t_47, s_48, s_49, s_50, s_51, s_52, s_53, s_54, s_55, s_56, s_57, s_58, s_59, s_60, s_61, s_62_0, s_62_1, s_62_2, s_66, s_67, s_68, s_69, s_70, s_71, s_72, s_73, sws_n, sws_c, lget, lset, fget, fset, nolg, nolong, avc, stw, cnd, isobj_eo, GCi, GCn, retk, List.length_cons, List.length_nil, ↓reduceIte, and_true, true_and, not_true_eq_false, not_false_eq_true, forall_const, Nat.reduceAdd, Nat.reduceLT, Nat.reduceLeDiff, Nat.lt_add_one, Nat.le_refl, Nat.zero_le, Nat.sub_zero, Int.reduceEq, Int.reduceNe, Int.reduceLT, Int.reduceLE, Int.reduceAdd, Int.reduceSub, Int.reduceMul, Int.reduceNeg, Int.reduceTDiv, Int.reduceTMod, ne_eq, reduceCtorEq, Nat.reduceEqDiff, Int.cast_ofNat_Int, true_or, or_true, false_or, or_false, lcq_0, lcq_2, lcq_3, lcq_4, lcq_5, wu_s, wu_1, wu_w, wu_lt, wu_ne, ar_s, ar_n, rr_s, rr_n, ob_n, nz_c, lt_T, lt_F, le_T, le_F, ie_T, ie_F, nt_T, nt_F, nl_T, nl_F, in_T, and_false, false_and, and_self, not_true_eq_false, Int.toNat_natCast, Int.reduceToNat, if_true, if_false, mi_245, i245_0, i245_1, i245_2, i245_3, i245_7, i245_8, i245_11, i245_12, i245_14, i245_17, i245_19, i245_21, i245_22, i245_25, i245_26, i245_28, i245_31, i245_34, i245_35, i245_36, i245_39, i245_41, i245_42, i245_45, i245_47, i245_50, i245_51, i245_52, i245_55, i245_58, i245_59, k190, k240]
theorem r_endAt (hR : RS W) (h0 : 0 ≤ n) (h1 : n < 121) : Gm 243 [vr 148, vi n, vi bb] W Q ↔ Q (some (vi (eAt (ar W 155) n bb))) W := by
  rw [e243]
  unfold eAt
  by_cases hn : inn n
  · rw [if_pos hn]
    have hb := tAs_b (t := ar W 155) (bb := bb) hn 4
    by_cases c : tAs (ar W 155) n bb 4 = -1
    · rw [if_pos c]
      simp (disch := omega) only [s_1, s_2, s_3, s_4, s_76, s_5, s_6, s_7, s_8, s_9, s_10, s_11, s_12, s_13, s_14, s_15, s_16, s_17, s_18, s_19, s_20, s_21, s_22, s_23, s_24, s_25, s_26, s_27, s_28, s_29, s_30, s_31, s_32, s_33, s_34, s_35, s_36, s_37, s_38, s_39, s_40l, s_40i, s_40r, s_41, s_43, t_44, t_45, t_46, t_47, s_48, s_49, s_50, s_51, s_52, s_53, s_54, s_55, s_56, s_57, s_58, s_59, s_60, s_61, s_62_0, s_62_1, s_62_2, s_66, s_67, s_68, s_69, s_70, s_71, s_72, s_73, sws_n, sws_c, lget, lset, fget, fset, nolg, nolong, avc, stw, cnd, isobj_eo, GCi, GCn, retk, List.length_cons, List.length_nil, ↓reduceIte, and_true, true_and, not_true_eq_false, not_false_eq_true, forall_const, Nat.reduceAdd, Nat.reduceLT, Nat.reduceLeDiff, Nat.lt_add_one, Nat.le_refl, Nat.zero_le, Nat.sub_zero, Int.reduceEq, Int.reduceNe, Int.reduceLT, Int.reduceLE, Int.reduceAdd, Int.reduceSub, Int.reduceMul, Int.reduceNeg, Int.reduceTDiv, Int.reduceTMod, ne_eq, reduceCtorEq, Nat.reduceEqDiff, Int.cast_ofNat_Int, true_or, or_true, false_or, or_false, lcq_0, lcq_2, lcq_3, lcq_4, lcq_5, wu_s, wu_1, wu_w, wu_lt, wu_ne, ar_s, ar_n, rr_s, rr_n, ob_n, nz_c, lt_T, lt_F, le_T, le_F, ie_T, ie_F, nt_T, nt_F, nl_T, nl_F, in_T, and_false, false_and, and_self, not_true_eq_false, Int.toNat_natCast, Int.reduceToNat, if_true, if_false, mi_243, i243_0, i243_1, i243_4, i243_7, i243_9, i243_10, i243_11, i243_12, i243_13, i243_16, i243_17, i243_18, i243_19, i243_22, i243_24, i243_27, i243_28, i243_31, i243_32, i243_33, k244, k245, g12_8, ra_148 hR, hR.w, r_isBorder, bi_z, Classical.not_not, hn, r_tornAt hR hn, c]
    · rw [if_neg c]
      simp (disch := omega) only [s_1, s_2, s_3, s_4, s_76, s_5, s_6, s_7, s_8, s_9, s_10, s_11, s_12, s_13, s_14, s_15, s_16, s_17, s_18, s_19, s_20, s_21, s_22, s_23, s_24, s_25, s_26, s_27, s_28, s_29, s_30, s_31, s_32, s_33, s_34, s_35, s_36, s_37, s_38, s_39, s_40l, s_40i, s_40r, s_41, s_43, t_44, t_45, t_46, t_47, s_48, s_49, s_50, s_51, s_52, s_53, s_54, s_55, s_56, s_57, s_58, s_59, s_60, s_61, s_62_0, s_62_1, s_62_2, s_66, s_67, s_68, s_69, s_70, s_71, s_72, s_73, sws_n, sws_c, lget, lset, fget, fset, nolg, nolong, avc, stw, cnd, isobj_eo, GCi, GCn, retk, List.length_cons, List.length_nil, ↓reduceIte, and_true, true_and, not_true_eq_false, not_false_eq_true, forall_const, Nat.reduceAdd, Nat.reduceLT, Nat.reduceLeDiff, Nat.lt_add_one, Nat.le_refl, Nat.zero_le, Nat.sub_zero, Int.reduceEq, Int.reduceNe, Int.reduceLT, Int.reduceLE, Int.reduceAdd, Int.reduceSub, Int.reduceMul, Int.reduceNeg, Int.reduceTDiv, Int.reduceTMod, ne_eq, reduceCtorEq, Nat.reduceEqDiff, Int.cast_ofNat_Int, true_or, or_true, false_or, or_false, lcq_0, lcq_2, lcq_3, lcq_4, lcq_5, wu_s, wu_1, wu_w, wu_lt, wu_ne, ar_s, ar_n, rr_s, rr_n, ob_n, nz_c, lt_T, lt_F, le_T, le_F, ie_T, ie_F, nt_T, nt_F, nl_T, nl_F, in_T, and_false, false_and, and_self, not_true_eq_false, Int.toNat_natCast, Int.reduceToNat, if_true, if_false, mi_243, i243_0, i243_1, i243_4, i243_7, i243_9, i243_10, i243_11, i243_12, i243_13, i243_16, i243_17, i243_18, i243_19, i243_22, i243_24, i243_27, i243_28, i243_31, i243_32, i243_33, k244, k245, g12_8, ra_148 hR, ra_155 hR, hR.w, r_isBorder, bi_z, Classical.not_not, hn, r_tornAt hR hn, c]
  · rw [if_neg hn]
    simp (disch := omega) only [s_1, s_2, s_3, s_4, s_76, s_5, s_6, s_7, s_8, s_9, s_10, s_11, s_12, s_13, s_14, s_15, s_16, s_17, s_18, s_19, s_20, s_21, s_22, s_23, s_24, s_25, s_26, s_27, s_28, s_29, s_30, s_31, s_32, s_33, s_34, s_35, s_36, s_37, s_38, s_39, s_40l, s_40i, s_40r, s_41, s_43, t_44, t_45, t_46, t_47, s_48, s_49, s_50, s_51, s_52, s_53, s_54, s_55, s_56, s_57, s_58, s_59, s_60, s_61, s_62_0, s_62_1, s_62_2, s_66, s_67, s_68, s_69, s_70, s_71, s_72, s_73, sws_n, sws_c, lget, lset, fget, fset, nolg, nolong, avc, stw, cnd, isobj_eo, GCi, GCn, retk, List.length_cons, List.length_nil, ↓reduceIte, and_true, true_and, not_true_eq_false, not_false_eq_true, forall_const, Nat.reduceAdd, Nat.reduceLT, Nat.reduceLeDiff, Nat.lt_add_one, Nat.le_refl, Nat.zero_le, Nat.sub_zero, Int.reduceEq, Int.reduceNe, Int.reduceLT, Int.reduceLE, Int.reduceAdd, Int.reduceSub, Int.reduceMul, Int.reduceNeg, Int.reduceTDiv, Int.reduceTMod, ne_eq, reduceCtorEq, Nat.reduceEqDiff, Int.cast_ofNat_Int, true_or, or_true, false_or, or_false, lcq_0, lcq_2, lcq_3, lcq_4, lcq_5, wu_s, wu_1, wu_w, wu_lt, wu_ne, ar_s, ar_n, rr_s, rr_n, ob_n, nz_c, lt_T, lt_F, le_T, le_F, ie_T, ie_F, nt_T, nt_F, nl_T, nl_F, in_T, and_false, false_and, and_self, not_true_eq_false, Int.toNat_natCast, Int.reduceToNat, if_true, if_false, mi_243, i243_0, i243_1, i243_4, i243_7, i243_9, i243_10, i243_11, i243_12, i243_13, i243_16, i243_17, i243_18, i243_19, i243_22, i243_24, i243_27, i243_28, i243_31, i243_32, i243_33, k244, k245, g12_8, ra_148 hR, hR.w, r_isBorder, bi_z, Classical.not_not, hn]
theorem r_tears {t : Int} (hR : RS W) (h0 : 0 ≤ e) (h1 : e < 180) : Gm 241 [vr 148, vi e, vi t] W Q ↔ Q none (wu (wu (wu W 155 (ea 0 180 (fu (ar W 155) e.toNat t))) 156 (ea 0 180 (fu (ar W 156) e.toNat 1))) 157 (ea 0 180 (fu (ar W 157) e.toNat 0))) := by
  rw [e241]
  simp (disch := omega) only [s_1, s_2, s_3, s_4, s_76, s_5, s_6, s_7, s_8, s_9, s_10, s_11, s_12, s_13, s_14, s_15, s_16, s_17, s_18, s_19, s_20, s_21, s_22, s_23, s_24, s_25, s_26, s_27, s_28, s_29, s_30, s_31, s_32, s_33, s_34, s_35, s_36, s_37, s_38, s_39, s_40l, s_40i, s_40r, s_41, s_43, t_44, t_45, t_46, t_47, s_48, s_49, s_50, s_51, s_52, s_53, s_54, s_55, s_56, s_57, s_58, s_59, s_60, s_61, s_62_0, s_62_1, s_62_2, s_66, s_67, s_68, s_69, s_70, s_71, s_72, s_73, sws_n, sws_c, lget, lset, fget, fset, nolg, nolong, avc, stw, cnd, isobj_eo, GCi, GCn, retk, List.length_cons, List.length_nil, ↓reduceIte, and_true, true_and, not_true_eq_false, not_false_eq_true, forall_const, Nat.reduceAdd, Nat.reduceLT, Nat.reduceLeDiff, Nat.lt_add_one, Nat.le_refl, Nat.zero_le, Nat.sub_zero, Int.reduceEq, Int.reduceNe, Int.reduceLT, Int.reduceLE, Int.reduceAdd, Int.reduceSub, Int.reduceMul, Int.reduceNeg, Int.reduceTDiv, Int.reduceTMod, ne_eq, reduceCtorEq, Nat.reduceEqDiff, Int.cast_ofNat_Int, true_or, or_true, false_or, or_false, lcq_0, lcq_2, lcq_3, lcq_4, lcq_5, wu_s, wu_1, wu_w, wu_lt, wu_ne, ar_s, ar_n, rr_s, rr_n, ob_n, nz_c, lt_T, lt_F, le_T, le_F, ie_T, ie_F, nt_T, nt_F, nl_T, nl_F, in_T, and_false, false_and, and_self, not_true_eq_false, Int.toNat_natCast, Int.reduceToNat, if_true, if_false, mi_241, i241_0, i241_1, i241_4, i241_5, i241_6, i241_7, i241_8, i241_11, i241_12, i241_13, i241_14, i241_15, i241_18, i241_19, i241_20, i241_21, g12_10, g12_8, g12_9, ra_148 hR, ra_155 hR, ra_156 hR, ra_157 hR, hR.w]
end R5
