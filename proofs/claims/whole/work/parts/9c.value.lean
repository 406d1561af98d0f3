-- DIGITS, WORDS, A VALUE of the reference
abbrev GS : Type := (Nat → Int) × (Nat → Int) × (Nat → Int)
abbrev GW (W : AW) (σ : GS) (o : Nat → Int) : AW := TW W σ.1 σ.2.1 σ.2.2 o
def skF (T : Nat → Int) (n : Nat) (σ : GS) : GS := (fu σ.1 21 ((rn isB T n (σ.1 21).toNat : Nat) : Int), σ.2)
def flF (c pl : Int) (σ : GS) : GS := (flG σ.1 c pl, σ.2)
def cnF (pl : Int) (σ : GS) : GS := (cnG σ.1 pl, σ.2)
def enF (k v : Int) (σ : GS) : GS := (enG σ.1, enS σ.1 σ.2.1 k, enS σ.1 σ.2.2 v)
def adF (d : Int) (σ : GS) : GS := (fu σ.1 21 (σ.1 21 + d), σ.2)
def dgF (T : Nat → Int) (n : Nat) (most : Int) (σ : GS) : GS := (dgG σ.1 T n (σ.1 21).toNat most, σ.2)
/-- where words of a law, of a want stand among all words -/
def lwI (k : Nat) : Nat := [13, 14, 19, 15, 16, 17, 18].getD k 18
def wtI (k : Nat) : Nat := [20, 21, 22, 23, 24, 25, 26, 27, 28, 29, 19].getD k 19
def wdI (sl : Int) (k : Nat) : Nat := if sl < 8 then lwI k else wtI k
theorem wdI_b (sl : Int) (k : Nat) : wdI sl k < 30 := by
  unfold wdI
  split
  · by_cases c : k < 7
    · exact (show ∀ k, k < 7 → lwI k < 30 by decide) k c
    · unfold lwI
      rw [List.getD_eq_getElem?_getD, List.getElem?_eq_none (by show 7 ≤ k; omega)]
      decide
  · by_cases c : k < 11
    · exact (show ∀ k, k < 11 → wtI k < 30 by decide) k c
    · unfold wtI
      rw [List.getD_eq_getElem?_getD, List.getElem?_eq_none (by show 11 ≤ k; omega)]
      decide
noncomputable def fdW (T : Nat → Int) (n p : Nat) (w : Nat → Nat) : Nat → Nat → Nat
  | 0, k => k
  | f + 1, k => @ite Nat (stP T n p (w k)) (Classical.propDecidable _) k (fdW T n p w f (k + 1))
noncomputable def vaF (T : Nat → Int) (n : Nat) (σ : GS) : GS :=
  let σ1 := skF T n σ
  let b := (σ1.1 21).toNat
  if b < n ∧ isDg (T b) = true then enF 0 (dgV T n b) (cnF (b : Int) (dgF T n 99999 σ1))
  else if fdW T n b (wdI (σ1.1 23)) (σ1.1 30).toNat 0 = (σ1.1 30).toNat then flF 0 (b : Int) σ1
  else enF 1 ((fdW T n b (wdI (σ1.1 23)) (σ1.1 30).toNat 0 : Nat) : Int) (adF (((wd (wdI (σ1.1 23) (fdW T n b (wdI (σ1.1 23)) (σ1.1 30).toNat 0))).length : Nat) : Int) (cnF (b : Int) σ1))
section VAL
variable {W : AW} {Q : AQ} {o T : Nat → Int} {σ : GS} {n p i : Nat} {c pl k v most : Int}
theorem y_digits (hR : RS W) (hT : ar W 167 = T) (hTy : Ty T) (h20 : σ.1 20 = (n : Int)) (h21 : σ.1 21 = (p : Int)) (hn : n ≤ 400) (hp : p ≤ 400) (hQ : Q (some (vi (dgV T n p))) (GW W (dgF T n most σ) o)) : Gm 213 [vr 148, vi most] (GW W σ o) Q := by
  have hw : 192 ≤ W.1 := hR.1
  obtain ⟨g, s, m⟩ := σ
  have h20 : g 20 = (n : Int) := h20
  have h21 : g 21 = (p : Int) := h21
  have hQ : Q (some (vi (dgV T n p))) (TW W (dgG g T n (g 21).toNat most) s m o) := hQ
  rw [h21, Int.toNat_natCast] at hQ
  show Gm 213 [vr 148, vi most] (TW W g s m o) Q
  have hD := fun {Q : AQ} => y_isDigit (W := W) (Q := Q) (g := g) (s := s) (m := m) (o := o) hR hT hTy h20 h21 hn
  have hf := fun {Q : AQ} => y_fails (W := W) (Q := Q) (g := g) (s := s) (m := m) (o := o) (c := 0) (pl := (p : Int)) hR (by omega) (by decide)
  unfold dgV dgG at hQ
  rw [e213]
  by_cases c0 : p < n ∧ isDg (T p) = true
  · rw [if_pos c0, if_pos c0] at hQ
    have hb := rn_b (P := isDg) (T := T) (n := n) (p := p)
    have he := hb.2 (by omega)
    have hall : ∀ (f q : Nat), n - q ≤ f → p ≤ q → q ≤ rn isDg T n p → rn isDg T n q = rn isDg T n p → ∀ j, q ≤ j → j < rn isDg T n p → 48 ≤ T j ∧ T j ≤ 57 := by
      intro f
      induction f with
      | zero =>
        intro q h1 h2 h3 h4 j h5 h6
        rw [rn_e (by omega)] at h4
        omega
      | succ f ih =>
        intro q h1 h2 h3 h4 j h5 h6
        by_cases cq : q < n ∧ isDg (T q) = true
        · by_cases cj : j = q
          · have := cq.2
            simp only [isDg, decide_eq_true_eq] at this
            rw [cj]; exact this
          · rw [rn_s cq.1 cq.2] at h4
            exact ih (q + 1) (by omega) (by omega) (by omega) h4 j (by omega) h6
        · rw [rn_e cq] at h4
          omega
    have hd := hall (n - p) p (Nat.le_refl _) (Nat.le_refl _) hb.1 rfl
    have hh := fun k h1 h2 => hor_b (T := T) (p := p) (i := rn isDg T n p - p) (fun j hj => hd (p + j) (by omega) (by omega)) k h1 h2
    have loop : ∀ (f q : Nat), n - q ≤ f → p ≤ q → q ≤ rn isDg T n p → rn isDg T n q = rn isDg T n p → G 213 25 [some (vr 148), some (vi most), some (vi (p : Int)), some (vi (hor T p (min 5 (q - p))))] [] (TW W (fu g 21 (q : Int)) s m o) 0 0 Q := by
      intro f
      induction f with
      | zero =>
        intro q h1 h2 h3 h4
        have e4 := h4
        rw [rn_e (by omega)] at e4
        have hD2 := fun {Q : AQ} => y_isDigit (W := W) (Q := Q) (g := fu g 21 (q : Int)) (s := s) (m := m) (o := o) hR hT hTy (by rw [fu_ne _ _ (by decide)]; exact h20) (fu_eq _ _ _) hn
        rw [bi_n (fun z => by omega)] at hD2
        have hf2 := fun {Q : AQ} => y_fails (W := W) (Q := Q) (g := fu g 21 (q : Int)) (s := s) (m := m) (o := o) (c := 1) (pl := (p : Int)) hR (by omega) (by decide)
        unfold nmV at hQ
        rw [← e4] at hQ
        generalize hor T p (min 5 (q - p)) = v at *
        rw [i213_25]
        by_cases d1 : 5 < q - p
        · have d1' : (5 : Int) < (q : Int) - (p : Int) := by omega
          rw [if_pos (Or.inl d1)] at hQ
          simp (disch := omega) only [s_1, s_2, s_3, s_4, s_76, s_5, s_6, s_7, s_8, s_9, s_10, s_11, s_12, s_13, s_14, s_15, s_16, s_17, s_18, s_19, s_20, s_21, s_22, s_23, s_24, s_25, s_26, s_27, s_28, s_29, s_30, s_31, s_32, s_33, s_34, s_35, s_36, s_37, s_38, s_39, s_40l, s_40i, s_40r, s_41, s_43, t_44, t_45, t_46, t_47, s_48, s_49, s_50, s_51, s_52, s_53, s_54, s_55, s_56, s_57, s_58, s_59, s_60, s_61, s_62_0, s_62_1, s_62_2, s_66, s_67, s_68, s_69, s_70, s_71, s_72, s_73, sws_n, sws_c, lget, lset, fget, fset, nolg, nolong, avc, stw, cnd, isobj_eo, GCi, GCn, retk, List.length_cons, List.length_nil, ↓reduceIte, and_true, true_and, not_true_eq_false, not_false_eq_true, forall_const, Nat.reduceAdd, Nat.reduceLT, Nat.reduceLeDiff, Nat.lt_add_one, Nat.le_refl, Nat.zero_le, Nat.sub_zero, Int.reduceEq, Int.reduceNe, Int.reduceLT, Int.reduceLE, Int.reduceAdd, Int.reduceSub, Int.reduceMul, Int.reduceNeg, Int.reduceTDiv, Int.reduceTMod, ne_eq, reduceCtorEq, Nat.reduceEqDiff, Int.cast_ofNat_Int, true_or, or_true, false_or, or_false, lcq_0, lcq_2, lcq_3, lcq_4, lcq_5, wu_s, wu_1, wu_w, wu_lt, wu_ne, ar_s, ar_n, rr_s, rr_n, ob_n, nz_c, lt_T, lt_F, le_T, le_F, ie_T, ie_F, nt_T, nt_F, nl_T, nl_F, in_T, and_false, false_and, and_self, not_true_eq_false, Int.toNat_natCast, Int.reduceToNat, if_true, if_false, mi_213, i213_0, i213_1, i213_4, i213_7, i213_8, i213_9, i213_10, i213_13, i213_16, i213_17, i213_18, i213_19, i213_22, i213_23, i213_24, i213_26, i213_29, i213_32, i213_33, i213_36, i213_37, i213_38, i213_39, i213_42, i213_44, i213_45, i213_46, i213_47, i213_50, i213_51, i213_53, i213_54, i213_57, i213_58, i213_59, i213_60, i213_61, i213_64, i213_65, i213_66, i213_69, i213_72, i213_73, i213_76, i213_77, i213_78, i213_79, i213_82, i213_83, i213_84, i213_87, i213_88, i213_89, i213_90, i213_93, i213_94, k200, k203, k212, g12_21, p12_21, hD2, fu_eq, d1', hf2]
          exact hQ
        · have d1' : ¬ (5 : Int) < (q : Int) - (p : Int) := by omega
          by_cases d2 : most < v
          · rw [if_pos (Or.inr d2)] at hQ
            simp (disch := omega) only [s_1, s_2, s_3, s_4, s_76, s_5, s_6, s_7, s_8, s_9, s_10, s_11, s_12, s_13, s_14, s_15, s_16, s_17, s_18, s_19, s_20, s_21, s_22, s_23, s_24, s_25, s_26, s_27, s_28, s_29, s_30, s_31, s_32, s_33, s_34, s_35, s_36, s_37, s_38, s_39, s_40l, s_40i, s_40r, s_41, s_43, t_44, t_45, t_46, t_47, s_48, s_49, s_50, s_51, s_52, s_53, s_54, s_55, s_56, s_57, s_58, s_59, s_60, s_61, s_62_0, s_62_1, s_62_2, s_66, s_67, s_68, s_69, s_70, s_71, s_72, s_73, sws_n, sws_c, lget, lset, fget, fset, nolg, nolong, avc, stw, cnd, isobj_eo, GCi, GCn, retk, List.length_cons, List.length_nil, ↓reduceIte, and_true, true_and, not_true_eq_false, not_false_eq_true, forall_const, Nat.reduceAdd, Nat.reduceLT, Nat.reduceLeDiff, Nat.lt_add_one, Nat.le_refl, Nat.zero_le, Nat.sub_zero, Int.reduceEq, Int.reduceNe, Int.reduceLT, Int.reduceLE, Int.reduceAdd, Int.reduceSub, Int.reduceMul, Int.reduceNeg, Int.reduceTDiv, Int.reduceTMod, ne_eq, reduceCtorEq, Nat.reduceEqDiff, Int.cast_ofNat_Int, true_or, or_true, false_or, or_false, lcq_0, lcq_2, lcq_3, lcq_4, lcq_5, wu_s, wu_1, wu_w, wu_lt, wu_ne, ar_s, ar_n, rr_s, rr_n, ob_n, nz_c, lt_T, lt_F, le_T, le_F, ie_T, ie_F, nt_T, nt_F, nl_T, nl_F, in_T, and_false, false_and, and_self, not_true_eq_false, Int.toNat_natCast, Int.reduceToNat, if_true, if_false, mi_213, i213_0, i213_1, i213_4, i213_7, i213_8, i213_9, i213_10, i213_13, i213_16, i213_17, i213_18, i213_19, i213_22, i213_23, i213_24, i213_26, i213_29, i213_32, i213_33, i213_36, i213_37, i213_38, i213_39, i213_42, i213_44, i213_45, i213_46, i213_47, i213_50, i213_51, i213_53, i213_54, i213_57, i213_58, i213_59, i213_60, i213_61, i213_64, i213_65, i213_66, i213_69, i213_72, i213_73, i213_76, i213_77, i213_78, i213_79, i213_82, i213_83, i213_84, i213_87, i213_88, i213_89, i213_90, i213_93, i213_94, k200, k203, k212, g12_21, p12_21, hD2, fu_eq, d1', d2, hf2]
            exact hQ
          · rw [if_neg (by omega)] at hQ
            simp (disch := omega) only [s_1, s_2, s_3, s_4, s_76, s_5, s_6, s_7, s_8, s_9, s_10, s_11, s_12, s_13, s_14, s_15, s_16, s_17, s_18, s_19, s_20, s_21, s_22, s_23, s_24, s_25, s_26, s_27, s_28, s_29, s_30, s_31, s_32, s_33, s_34, s_35, s_36, s_37, s_38, s_39, s_40l, s_40i, s_40r, s_41, s_43, t_44, t_45, t_46, t_47, s_48, s_49, s_50, s_51, s_52, s_53, s_54, s_55, s_56, s_57, s_58, s_59, s_60, s_61, s_62_0, s_62_1, s_62_2, s_66, s_67, s_68, s_69, s_70, s_71, s_72, s_73, sws_n, sws_c, lget, lset, fget, fset, nolg, nolong, avc, stw, cnd, isobj_eo, GCi, GCn, retk, List.length_cons, List.length_nil, ↓reduceIte, and_true, true_and, not_true_eq_false, not_false_eq_true, forall_const, Nat.reduceAdd, Nat.reduceLT, Nat.reduceLeDiff, Nat.lt_add_one, Nat.le_refl, Nat.zero_le, Nat.sub_zero, Int.reduceEq, Int.reduceNe, Int.reduceLT, Int.reduceLE, Int.reduceAdd, Int.reduceSub, Int.reduceMul, Int.reduceNeg, Int.reduceTDiv, Int.reduceTMod, ne_eq, reduceCtorEq, Nat.reduceEqDiff, Int.cast_ofNat_Int, true_or, or_true, false_or, or_false, lcq_0, lcq_2, lcq_3, lcq_4, lcq_5, wu_s, wu_1, wu_w, wu_lt, wu_ne, ar_s, ar_n, rr_s, rr_n, ob_n, nz_c, lt_T, lt_F, le_T, le_F, ie_T, ie_F, nt_T, nt_F, nl_T, nl_F, in_T, and_false, false_and, and_self, not_true_eq_false, Int.toNat_natCast, Int.reduceToNat, if_true, if_false, mi_213, i213_0, i213_1, i213_4, i213_7, i213_8, i213_9, i213_10, i213_13, i213_16, i213_17, i213_18, i213_19, i213_22, i213_23, i213_24, i213_26, i213_29, i213_32, i213_33, i213_36, i213_37, i213_38, i213_39, i213_42, i213_44, i213_45, i213_46, i213_47, i213_50, i213_51, i213_53, i213_54, i213_57, i213_58, i213_59, i213_60, i213_61, i213_64, i213_65, i213_66, i213_69, i213_72, i213_73, i213_76, i213_77, i213_78, i213_79, i213_82, i213_83, i213_84, i213_87, i213_88, i213_89, i213_90, i213_93, i213_94, k200, k203, k212, g12_21, p12_21, hD2, fu_eq, d1', d2]
            exact hQ
      | succ f ih =>
        intro q h1 h2 h3 h4
        have hD2 := fun {Q : AQ} => y_isDigit (W := W) (Q := Q) (g := fu g 21 (q : Int)) (s := s) (m := m) (o := o) hR hT hTy (by rw [fu_ne _ _ (by decide)]; exact h20) (fu_eq _ _ _) hn
        have hs2 := fun {Q : AQ} => y_sign (W := W) (Q := Q) (g := fu g 21 (q : Int)) (s := s) (m := m) (o := o) hR hT hTy (by rw [fu_ne _ _ (by decide)]; exact h20) (fu_eq _ _ _) hn
        by_cases cq : q < n ∧ isDg (T q) = true
        · have hdq := cq.2
          simp only [isDg, decide_eq_true_eq] at hdq
          have e1 := h4
          rw [rn_s cq.1 cq.2] at e1
          have e2 := (rn_b (P := isDg) (T := T) (n := n) (p := q + 1)).1
          have e := ih (q + 1) (by omega) (by omega) (by omega) e1
          have cT : chr T n q = T q := by
            unfold chr
            rw [if_pos cq.1]
            omega
          rw [bi_p cq] at hD2
          rw [cT] at hs2
          rw [nc1] at e
          by_cases d1 : q - p < 5
          · have d1' : (q : Int) - (p : Int) < 5 := by omega
            have hb5 := hh (q - p) (by omega) (by omega)
            have e5 : hor T p (min 5 (q + 1 - p)) = 10 * hor T p (q - p) + T q - 48 := by
              rw [show min 5 (q + 1 - p) = (q - p) + 1 by omega]
              show 10 * hor T p (q - p) + T (p + (q - p)) - 48 = _
              rw [show p + (q - p) = q by omega]
            have hp5 : hor T p (q - p) < 100000 := by
              have : (10 : Int) ^ (q - p) ≤ 10 ^ 5 := by
                rcases (show q - p = 0 ∨ q - p = 1 ∨ q - p = 2 ∨ q - p = 3 ∨ q - p = 4 by omega) with z | z | z | z | z <;> rw [z] <;> decide
              omega
            rw [e5] at e
            rw [show min 5 (q - p) = q - p by omega]
            generalize hor T p (q - p) = v at *
            rw [i213_25]
            simp (disch := omega) only [s_1, s_2, s_3, s_4, s_76, s_5, s_6, s_7, s_8, s_9, s_10, s_11, s_12, s_13, s_14, s_15, s_16, s_17, s_18, s_19, s_20, s_21, s_22, s_23, s_24, s_25, s_26, s_27, s_28, s_29, s_30, s_31, s_32, s_33, s_34, s_35, s_36, s_37, s_38, s_39, s_40l, s_40i, s_40r, s_41, s_43, t_44, t_45, t_46, t_47, s_48, s_49, s_50, s_51, s_52, s_53, s_54, s_55, s_56, s_57, s_58, s_59, s_60, s_61, s_62_0, s_62_1, s_62_2, s_66, s_67, s_68, s_69, s_70, s_71, s_72, s_73, sws_n, sws_c, lget, lset, fget, fset, nolg, nolong, avc, stw, cnd, isobj_eo, GCi, GCn, retk, List.length_cons, List.length_nil, ↓reduceIte, and_true, true_and, not_true_eq_false, not_false_eq_true, forall_const, Nat.reduceAdd, Nat.reduceLT, Nat.reduceLeDiff, Nat.lt_add_one, Nat.le_refl, Nat.zero_le, Nat.sub_zero, Int.reduceEq, Int.reduceNe, Int.reduceLT, Int.reduceLE, Int.reduceAdd, Int.reduceSub, Int.reduceMul, Int.reduceNeg, Int.reduceTDiv, Int.reduceTMod, ne_eq, reduceCtorEq, Nat.reduceEqDiff, Int.cast_ofNat_Int, true_or, or_true, false_or, or_false, lcq_0, lcq_2, lcq_3, lcq_4, lcq_5, wu_s, wu_1, wu_w, wu_lt, wu_ne, ar_s, ar_n, rr_s, rr_n, ob_n, nz_c, lt_T, lt_F, le_T, le_F, ie_T, ie_F, nt_T, nt_F, nl_T, nl_F, in_T, and_false, false_and, and_self, not_true_eq_false, Int.toNat_natCast, Int.reduceToNat, if_true, if_false, mi_213, i213_0, i213_1, i213_4, i213_7, i213_8, i213_9, i213_10, i213_13, i213_16, i213_17, i213_18, i213_19, i213_22, i213_23, i213_24, i213_26, i213_29, i213_32, i213_33, i213_36, i213_37, i213_38, i213_39, i213_42, i213_44, i213_45, i213_46, i213_47, i213_50, i213_51, i213_53, i213_54, i213_57, i213_58, i213_59, i213_60, i213_61, i213_64, i213_65, i213_66, i213_69, i213_72, i213_73, i213_76, i213_77, i213_78, i213_79, i213_82, i213_83, i213_84, i213_87, i213_88, i213_89, i213_90, i213_93, i213_94, k200, k203, k212, g12_21, p12_21, hD2, hs2, fu_eq, fu_fu, d1']
            exact e
          · have d1' : ¬ (q : Int) - (p : Int) < 5 := by omega
            rw [show min 5 (q + 1 - p) = min 5 (q - p) by omega] at e
            generalize hor T p (min 5 (q - p)) = v at *
            rw [i213_25]
            simp (disch := omega) only [s_1, s_2, s_3, s_4, s_76, s_5, s_6, s_7, s_8, s_9, s_10, s_11, s_12, s_13, s_14, s_15, s_16, s_17, s_18, s_19, s_20, s_21, s_22, s_23, s_24, s_25, s_26, s_27, s_28, s_29, s_30, s_31, s_32, s_33, s_34, s_35, s_36, s_37, s_38, s_39, s_40l, s_40i, s_40r, s_41, s_43, t_44, t_45, t_46, t_47, s_48, s_49, s_50, s_51, s_52, s_53, s_54, s_55, s_56, s_57, s_58, s_59, s_60, s_61, s_62_0, s_62_1, s_62_2, s_66, s_67, s_68, s_69, s_70, s_71, s_72, s_73, sws_n, sws_c, lget, lset, fget, fset, nolg, nolong, avc, stw, cnd, isobj_eo, GCi, GCn, retk, List.length_cons, List.length_nil, ↓reduceIte, and_true, true_and, not_true_eq_false, not_false_eq_true, forall_const, Nat.reduceAdd, Nat.reduceLT, Nat.reduceLeDiff, Nat.lt_add_one, Nat.le_refl, Nat.zero_le, Nat.sub_zero, Int.reduceEq, Int.reduceNe, Int.reduceLT, Int.reduceLE, Int.reduceAdd, Int.reduceSub, Int.reduceMul, Int.reduceNeg, Int.reduceTDiv, Int.reduceTMod, ne_eq, reduceCtorEq, Nat.reduceEqDiff, Int.cast_ofNat_Int, true_or, or_true, false_or, or_false, lcq_0, lcq_2, lcq_3, lcq_4, lcq_5, wu_s, wu_1, wu_w, wu_lt, wu_ne, ar_s, ar_n, rr_s, rr_n, ob_n, nz_c, lt_T, lt_F, le_T, le_F, ie_T, ie_F, nt_T, nt_F, nl_T, nl_F, in_T, and_false, false_and, and_self, not_true_eq_false, Int.toNat_natCast, Int.reduceToNat, if_true, if_false, mi_213, i213_0, i213_1, i213_4, i213_7, i213_8, i213_9, i213_10, i213_13, i213_16, i213_17, i213_18, i213_19, i213_22, i213_23, i213_24, i213_26, i213_29, i213_32, i213_33, i213_36, i213_37, i213_38, i213_39, i213_42, i213_44, i213_45, i213_46, i213_47, i213_50, i213_51, i213_53, i213_54, i213_57, i213_58, i213_59, i213_60, i213_61, i213_64, i213_65, i213_66, i213_69, i213_72, i213_73, i213_76, i213_77, i213_78, i213_79, i213_82, i213_83, i213_84, i213_87, i213_88, i213_89, i213_90, i213_93, i213_94, k200, k203, k212, g12_21, p12_21, hD2, hs2, fu_eq, fu_fu, d1']
            exact e
        · have e4 := h4
          rw [rn_e cq] at e4
          rw [bi_n cq] at hD2
          have hf2 := fun {Q : AQ} => y_fails (W := W) (Q := Q) (g := fu g 21 (q : Int)) (s := s) (m := m) (o := o) (c := 1) (pl := (p : Int)) hR (by omega) (by decide)
          unfold nmV at hQ
          rw [← e4] at hQ
          generalize hor T p (min 5 (q - p)) = v at *
          rw [i213_25]
          by_cases d1 : 5 < q - p
          · have d1' : (5 : Int) < (q : Int) - (p : Int) := by omega
            rw [if_pos (Or.inl d1)] at hQ
            simp (disch := omega) only [s_1, s_2, s_3, s_4, s_76, s_5, s_6, s_7, s_8, s_9, s_10, s_11, s_12, s_13, s_14, s_15, s_16, s_17, s_18, s_19, s_20, s_21, s_22, s_23, s_24, s_25, s_26, s_27, s_28, s_29, s_30, s_31, s_32, s_33, s_34, s_35, s_36, s_37, s_38, s_39, s_40l, s_40i, s_40r, s_41, s_43, t_44, t_45, t_46, t_47, s_48, s_49, s_50, s_51, s_52, s_53, s_54, s_55, s_56, s_57, s_58, s_59, s_60, s_61, s_62_0, s_62_1, s_62_2, s_66, s_67, s_68, s_69, s_70, s_71, s_72, s_73, sws_n, sws_c, lget, lset, fget, fset, nolg, nolong, avc, stw, cnd, isobj_eo, GCi, GCn, retk, List.length_cons, List.length_nil, ↓reduceIte, and_true, true_and, not_true_eq_false, not_false_eq_true, forall_const, Nat.reduceAdd, Nat.reduceLT, Nat.reduceLeDiff, Nat.lt_add_one, Nat.le_refl, Nat.zero_le, Nat.sub_zero, Int.reduceEq, Int.reduceNe, Int.reduceLT, Int.reduceLE, Int.reduceAdd, Int.reduceSub, Int.reduceMul, Int.reduceNeg, Int.reduceTDiv, Int.reduceTMod, ne_eq, reduceCtorEq, Nat.reduceEqDiff, Int.cast_ofNat_Int, true_or, or_true, false_or, or_false, lcq_0, lcq_2, lcq_3, lcq_4, lcq_5, wu_s, wu_1, wu_w, wu_lt, wu_ne, ar_s, ar_n, rr_s, rr_n, ob_n, nz_c, lt_T, lt_F, le_T, le_F, ie_T, ie_F, nt_T, nt_F, nl_T, nl_F, in_T, and_false, false_and, and_self, not_true_eq_false, Int.toNat_natCast, Int.reduceToNat, if_true, if_false, mi_213, i213_0, i213_1, i213_4, i213_7, i213_8, i213_9, i213_10, i213_13, i213_16, i213_17, i213_18, i213_19, i213_22, i213_23, i213_24, i213_26, i213_29, i213_32, i213_33, i213_36, i213_37, i213_38, i213_39, i213_42, i213_44, i213_45, i213_46, i213_47, i213_50, i213_51, i213_53, i213_54, i213_57, i213_58, i213_59, i213_60, i213_61, i213_64, i213_65, i213_66, i213_69, i213_72, i213_73, i213_76, i213_77, i213_78, i213_79, i213_82, i213_83, i213_84, i213_87, i213_88, i213_89, i213_90, i213_93, i213_94, k200, k203, k212, g12_21, p12_21, hD2, fu_eq, d1', hf2]
            exact hQ
          · have d1' : ¬ (5 : Int) < (q : Int) - (p : Int) := by omega
            by_cases d2 : most < v
            · rw [if_pos (Or.inr d2)] at hQ
              simp (disch := omega) only [s_1, s_2, s_3, s_4, s_76, s_5, s_6, s_7, s_8, s_9, s_10, s_11, s_12, s_13, s_14, s_15, s_16, s_17, s_18, s_19, s_20, s_21, s_22, s_23, s_24, s_25, s_26, s_27, s_28, s_29, s_30, s_31, s_32, s_33, s_34, s_35, s_36, s_37, s_38, s_39, s_40l, s_40i, s_40r, s_41, s_43, t_44, t_45, t_46, t_47, s_48, s_49, s_50, s_51, s_52, s_53, s_54, s_55, s_56, s_57, s_58, s_59, s_60, s_61, s_62_0, s_62_1, s_62_2, s_66, s_67, s_68, s_69, s_70, s_71, s_72, s_73, sws_n, sws_c, lget, lset, fget, fset, nolg, nolong, avc, stw, cnd, isobj_eo, GCi, GCn, retk, List.length_cons, List.length_nil, ↓reduceIte, and_true, true_and, not_true_eq_false, not_false_eq_true, forall_const, Nat.reduceAdd, Nat.reduceLT, Nat.reduceLeDiff, Nat.lt_add_one, Nat.le_refl, Nat.zero_le, Nat.sub_zero, Int.reduceEq, Int.reduceNe, Int.reduceLT, Int.reduceLE, Int.reduceAdd, Int.reduceSub, Int.reduceMul, Int.reduceNeg, Int.reduceTDiv, Int.reduceTMod, ne_eq, reduceCtorEq, Nat.reduceEqDiff, Int.cast_ofNat_Int, true_or, or_true, false_or, or_false, lcq_0, lcq_2, lcq_3, lcq_4, lcq_5, wu_s, wu_1, wu_w, wu_lt, wu_ne, ar_s, ar_n, rr_s, rr_n, ob_n, nz_c, lt_T, lt_F, le_T, le_F, ie_T, ie_F, nt_T, nt_F, nl_T, nl_F, in_T, and_false, false_and, and_self, not_true_eq_false, Int.toNat_natCast, Int.reduceToNat, if_true, if_false, mi_213, i213_0, i213_1, i213_4, i213_7, i213_8, i213_9, i213_10, i213_13, i213_16, i213_17, i213_18, i213_19, i213_22, i213_23, i213_24, i213_26, i213_29, i213_32, i213_33, i213_36, i213_37, i213_38, i213_39, i213_42, i213_44, i213_45, i213_46, i213_47, i213_50, i213_51, i213_53, i213_54, i213_57, i213_58, i213_59, i213_60, i213_61, i213_64, i213_65, i213_66, i213_69, i213_72, i213_73, i213_76, i213_77, i213_78, i213_79, i213_82, i213_83, i213_84, i213_87, i213_88, i213_89, i213_90, i213_93, i213_94, k200, k203, k212, g12_21, p12_21, hD2, fu_eq, d1', d2, hf2]
              exact hQ
            · rw [if_neg (by omega)] at hQ
              simp (disch := omega) only [s_1, s_2, s_3, s_4, s_76, s_5, s_6, s_7, s_8, s_9, s_10, s_11, s_12, s_13, s_14, s_15, s_16, s_17, s_18, s_19, s_20, s_21, s_22, s_23, s_24, s_25, s_26, s_27, s_28, s_29, s_30, s_31, s_32, s_33, s_34, s_35, s_36, s_37, s_38, s_39, s_40l, s_40i, s_40r, s_41, s_43, t_44, t_45, t_46, t_47, s_48, s_49, s_50, s_51, s_52, s_53, s_54, s_55, s_56, s_57, s_58, s_59, s_60, s_61, s_62_0, s_62_1, s_62_2, s_66, s_67, s_68, s_69, s_70, s_71, s_72, s_73, sws_n, sws_c, lget, lset, fget, fset, nolg, nolong, avc, stw, cnd, isobj_eo, GCi, GCn, retk, List.length_cons, List.length_nil, ↓reduceIte, and_true, true_and, not_true_eq_false, not_false_eq_true, forall_const, Nat.reduceAdd, Nat.reduceLT, Nat.reduceLeDiff, Nat.lt_add_one, Nat.le_refl, Nat.zero_le, Nat.sub_zero, Int.reduceEq, Int.reduceNe, Int.reduceLT, Int.reduceLE, Int.reduceAdd, Int.reduceSub, Int.reduceMul, Int.reduceNeg, Int.reduceTDiv, Int.reduceTMod, ne_eq, reduceCtorEq, Nat.reduceEqDiff, Int.cast_ofNat_Int, true_or, or_true, false_or, or_false, lcq_0, lcq_2, lcq_3, lcq_4, lcq_5, wu_s, wu_1, wu_w, wu_lt, wu_ne, ar_s, ar_n, rr_s, rr_n, ob_n, nz_c, lt_T, lt_F, le_T, le_F, ie_T, ie_F, nt_T, nt_F, nl_T, nl_F, in_T, and_false, false_and, and_self, not_true_eq_false, Int.toNat_natCast, Int.reduceToNat, if_true, if_false, mi_213, i213_0, i213_1, i213_4, i213_7, i213_8, i213_9, i213_10, i213_13, i213_16, i213_17, i213_18, i213_19, i213_22, i213_23, i213_24, i213_26, i213_29, i213_32, i213_33, i213_36, i213_37, i213_38, i213_39, i213_42, i213_44, i213_45, i213_46, i213_47, i213_50, i213_51, i213_53, i213_54, i213_57, i213_58, i213_59, i213_60, i213_61, i213_64, i213_65, i213_66, i213_69, i213_72, i213_73, i213_76, i213_77, i213_78, i213_79, i213_82, i213_83, i213_84, i213_87, i213_88, i213_89, i213_90, i213_93, i213_94, k200, k203, k212, g12_21, p12_21, hD2, fu_eq, d1', d2]
              exact hQ
    have e := loop (n - p) p (Nat.le_refl _) (Nat.le_refl _) hb.1 rfl
    rw [fu_sf h21, show min 5 (p - p) = 0 by omega, show hor T p 0 = 0 from rfl] at e
    rw [bi_p c0] at hD
    simp (disch := omega) only [s_1, s_2, s_3, s_4, s_76, s_5, s_6, s_7, s_8, s_9, s_10, s_11, s_12, s_13, s_14, s_15, s_16, s_17, s_18, s_19, s_20, s_21, s_22, s_23, s_24, s_25, s_26, s_27, s_28, s_29, s_30, s_31, s_32, s_33, s_34, s_35, s_36, s_37, s_38, s_39, s_40l, s_40i, s_40r, s_41, s_43, t_44, t_45, t_46, t_47, s_48, s_49, s_50, s_51, s_52, s_53, s_54, s_55, s_56, s_57, s_58, s_59, s_60, s_61, s_62_0, s_62_1, s_62_2, s_66, s_67, s_68, s_69, s_70, s_71, s_72, s_73, sws_n, sws_c, lget, lset, fget, fset, nolg, nolong, avc, stw, cnd, isobj_eo, GCi, GCn, retk, List.length_cons, List.length_nil, ↓reduceIte, and_true, true_and, not_true_eq_false, not_false_eq_true, forall_const, Nat.reduceAdd, Nat.reduceLT, Nat.reduceLeDiff, Nat.lt_add_one, Nat.le_refl, Nat.zero_le, Nat.sub_zero, Int.reduceEq, Int.reduceNe, Int.reduceLT, Int.reduceLE, Int.reduceAdd, Int.reduceSub, Int.reduceMul, Int.reduceNeg, Int.reduceTDiv, Int.reduceTMod, ne_eq, reduceCtorEq, Nat.reduceEqDiff, Int.cast_ofNat_Int, true_or, or_true, false_or, or_false, lcq_0, lcq_2, lcq_3, lcq_4, lcq_5, wu_s, wu_1, wu_w, wu_lt, wu_ne, ar_s, ar_n, rr_s, rr_n, ob_n, nz_c, lt_T, lt_F, le_T, le_F, ie_T, ie_F, nt_T, nt_F, nl_T, nl_F, in_T, and_false, false_and, and_self, not_true_eq_false, Int.toNat_natCast, Int.reduceToNat, if_true, if_false, mi_213, i213_0, i213_1, i213_4, i213_7, i213_8, i213_9, i213_10, i213_13, i213_16, i213_17, i213_18, i213_19, i213_22, i213_23, i213_24, i213_26, i213_29, i213_32, i213_33, i213_36, i213_37, i213_38, i213_39, i213_42, i213_44, i213_45, i213_46, i213_47, i213_50, i213_51, i213_53, i213_54, i213_57, i213_58, i213_59, i213_60, i213_61, i213_64, i213_65, i213_66, i213_69, i213_72, i213_73, i213_76, i213_77, i213_78, i213_79, i213_82, i213_83, i213_84, i213_87, i213_88, i213_89, i213_90, i213_93, i213_94, k200, k203, k212, g12_21, p12_21, hD, h21]
    exact e
  · rw [if_neg c0, if_neg c0] at hQ
    rw [bi_n c0] at hD
    simp (disch := omega) only [s_1, s_2, s_3, s_4, s_76, s_5, s_6, s_7, s_8, s_9, s_10, s_11, s_12, s_13, s_14, s_15, s_16, s_17, s_18, s_19, s_20, s_21, s_22, s_23, s_24, s_25, s_26, s_27, s_28, s_29, s_30, s_31, s_32, s_33, s_34, s_35, s_36, s_37, s_38, s_39, s_40l, s_40i, s_40r, s_41, s_43, t_44, t_45, t_46, t_47, s_48, s_49, s_50, s_51, s_52, s_53, s_54, s_55, s_56, s_57, s_58, s_59, s_60, s_61, s_62_0, s_62_1, s_62_2, s_66, s_67, s_68, s_69, s_70, s_71, s_72, s_73, sws_n, sws_c, lget, lset, fget, fset, nolg, nolong, avc, stw, cnd, isobj_eo, GCi, GCn, retk, List.length_cons, List.length_nil, ↓reduceIte, and_true, true_and, not_true_eq_false, not_false_eq_true, forall_const, Nat.reduceAdd, Nat.reduceLT, Nat.reduceLeDiff, Nat.lt_add_one, Nat.le_refl, Nat.zero_le, Nat.sub_zero, Int.reduceEq, Int.reduceNe, Int.reduceLT, Int.reduceLE, Int.reduceAdd, Int.reduceSub, Int.reduceMul, Int.reduceNeg, Int.reduceTDiv, Int.reduceTMod, ne_eq, reduceCtorEq, Nat.reduceEqDiff, Int.cast_ofNat_Int, true_or, or_true, false_or, or_false, lcq_0, lcq_2, lcq_3, lcq_4, lcq_5, wu_s, wu_1, wu_w, wu_lt, wu_ne, ar_s, ar_n, rr_s, rr_n, ob_n, nz_c, lt_T, lt_F, le_T, le_F, ie_T, ie_F, nt_T, nt_F, nl_T, nl_F, in_T, and_false, false_and, and_self, not_true_eq_false, Int.toNat_natCast, Int.reduceToNat, if_true, if_false, mi_213, i213_0, i213_1, i213_4, i213_7, i213_8, i213_9, i213_10, i213_13, i213_16, i213_17, i213_18, i213_19, i213_22, i213_23, i213_24, i213_26, i213_29, i213_32, i213_33, i213_36, i213_37, i213_38, i213_39, i213_42, i213_44, i213_45, i213_46, i213_47, i213_50, i213_51, i213_53, i213_54, i213_57, i213_58, i213_59, i213_60, i213_61, i213_64, i213_65, i213_66, i213_69, i213_72, i213_73, i213_76, i213_77, i213_78, i213_79, i213_82, i213_83, i213_84, i213_87, i213_88, i213_89, i213_90, i213_93, i213_94, k200, k203, k212, g12_21, p12_21, hD, h21, hf]
    exact hQ
theorem y_wordOf {j : Nat} (hR : RS W) (h23 : 0 ≤ σ.1 23 ∧ σ.1 23 ≤ 15) (hj : j < (if σ.1 23 < 8 then 7 else 11)) : Gm 216 [vr 148, vi (j : Int)] (GW W σ o) Q ↔ Q (some (vr (6 + wdI (σ.1 23) j))) (GW W σ o) := by
  have hw : 192 ≤ W.1 := hR.1
  unfold wdI
  rw [e216]
  by_cases c0 : σ.1 23 < 8
  · rw [if_pos c0] at hj ⊢
    rcases (show j = 0 ∨ j = 1 ∨ j = 2 ∨ j = 3 ∨ j = 4 ∨ j = 5 ∨ j = 6 by omega) with rfl | rfl | rfl | rfl | rfl | rfl | rfl
    all_goals
      simp (disch := omega) only [s_1, s_2, s_3, s_4, s_76, s_5, s_6, s_7, s_8, s_9, s_10, s_11, s_12, s_13, s_14, s_15, s_16, s_17, s_18, s_19, s_20, s_21, s_22, s_23, s_24, s_25, s_26, s_27, s_28, s_29, s_30, s_31, s_32, s_33, s_34, s_35, s_36, s_37, s_38, s_39, s_40l, s_40i, s_40r, s_41, s_43, t_44, t_45, t_46, t_47, s_48, s_49, s_50, s_51, s_52, s_53, s_54, s_55, s_56, s_57, s_58, s_59, s_60, s_61, s_62_0, s_62_1, s_62_2, s_66, s_67, s_68, s_69, s_70, s_71, s_72, s_73, sws_n, sws_c, lget, lset, fget, fset, nolg, nolong, avc, stw, cnd, isobj_eo, GCi, GCn, retk, List.length_cons, List.length_nil, ↓reduceIte, and_true, true_and, not_true_eq_false, not_false_eq_true, forall_const, Nat.reduceAdd, Nat.reduceLT, Nat.reduceLeDiff, Nat.lt_add_one, Nat.le_refl, Nat.zero_le, Nat.sub_zero, Int.reduceEq, Int.reduceNe, Int.reduceLT, Int.reduceLE, Int.reduceAdd, Int.reduceSub, Int.reduceMul, Int.reduceNeg, Int.reduceTDiv, Int.reduceTMod, ne_eq, reduceCtorEq, Nat.reduceEqDiff, Int.cast_ofNat_Int, true_or, or_true, false_or, or_false, lcq_0, lcq_2, lcq_3, lcq_4, lcq_5, wu_s, wu_1, wu_w, wu_lt, wu_ne, ar_s, ar_n, rr_s, rr_n, ob_n, nz_c, lt_T, lt_F, le_T, le_F, ie_T, ie_F, nt_T, nt_F, nl_T, nl_F, in_T, and_false, false_and, and_self, not_true_eq_false, Int.toNat_natCast, Int.reduceToNat, if_true, if_false, mi_216, i216_0, i216_1, i216_4, i216_6, i216_9, i216_10, i216_13, i216_16, i216_17, i216_20, k217, k218, g12_23, c0, e217, mi_217, i217_0, i217_1, i217_40, i217_42, i217_43, i217_45, i217_46, i217_48, i217_49, i217_51, i217_52, i217_54, i217_55, i217_57, i217_58, i217_60, Int.natCast_zero, show ((1 : Nat) : Int) = 1 from rfl, show ((2 : Nat) : Int) = 2 from rfl, show ((3 : Nat) : Int) = 3 from rfl, show ((4 : Nat) : Int) = 4 from rfl, show ((5 : Nat) : Int) = 5 from rfl, show ((6 : Nat) : Int) = 6 from rfl]
      exact Iff.rfl
  · rw [if_neg c0] at hj ⊢
    rcases (show j = 0 ∨ j = 1 ∨ j = 2 ∨ j = 3 ∨ j = 4 ∨ j = 5 ∨ j = 6 ∨ j = 7 ∨ j = 8 ∨ j = 9 ∨ j = 10 by omega) with rfl | rfl | rfl | rfl | rfl | rfl | rfl | rfl | rfl | rfl | rfl
    all_goals
      simp (disch := omega) only [s_1, s_2, s_3, s_4, s_76, s_5, s_6, s_7, s_8, s_9, s_10, s_11, s_12, s_13, s_14, s_15, s_16, s_17, s_18, s_19, s_20, s_21, s_22, s_23, s_24, s_25, s_26, s_27, s_28, s_29, s_30, s_31, s_32, s_33, s_34, s_35, s_36, s_37, s_38, s_39, s_40l, s_40i, s_40r, s_41, s_43, t_44, t_45, t_46, t_47, s_48, s_49, s_50, s_51, s_52, s_53, s_54, s_55, s_56, s_57, s_58, s_59, s_60, s_61, s_62_0, s_62_1, s_62_2, s_66, s_67, s_68, s_69, s_70, s_71, s_72, s_73, sws_n, sws_c, lget, lset, fget, fset, nolg, nolong, avc, stw, cnd, isobj_eo, GCi, GCn, retk, List.length_cons, List.length_nil, ↓reduceIte, and_true, true_and, not_true_eq_false, not_false_eq_true, forall_const, Nat.reduceAdd, Nat.reduceLT, Nat.reduceLeDiff, Nat.lt_add_one, Nat.le_refl, Nat.zero_le, Nat.sub_zero, Int.reduceEq, Int.reduceNe, Int.reduceLT, Int.reduceLE, Int.reduceAdd, Int.reduceSub, Int.reduceMul, Int.reduceNeg, Int.reduceTDiv, Int.reduceTMod, ne_eq, reduceCtorEq, Nat.reduceEqDiff, Int.cast_ofNat_Int, true_or, or_true, false_or, or_false, lcq_0, lcq_2, lcq_3, lcq_4, lcq_5, wu_s, wu_1, wu_w, wu_lt, wu_ne, ar_s, ar_n, rr_s, rr_n, ob_n, nz_c, lt_T, lt_F, le_T, le_F, ie_T, ie_F, nt_T, nt_F, nl_T, nl_F, in_T, and_false, false_and, and_self, not_true_eq_false, Int.toNat_natCast, Int.reduceToNat, if_true, if_false, mi_216, i216_0, i216_1, i216_4, i216_6, i216_9, i216_10, i216_13, i216_16, i216_17, i216_20, k217, k218, g12_23, c0, e218, mi_218, i218_0, i218_1, i218_56, i218_58, i218_59, i218_61, i218_62, i218_64, i218_65, i218_67, i218_68, i218_70, i218_71, i218_73, i218_74, i218_76, i218_77, i218_79, i218_80, i218_83, i218_84, i218_87, i218_88, i218_90, Int.natCast_zero, show ((1 : Nat) : Int) = 1 from rfl, show ((2 : Nat) : Int) = 2 from rfl, show ((3 : Nat) : Int) = 3 from rfl, show ((4 : Nat) : Int) = 4 from rfl, show ((5 : Nat) : Int) = 5 from rfl, show ((6 : Nat) : Int) = 6 from rfl, show ((7 : Nat) : Int) = 7 from rfl, show ((8 : Nat) : Int) = 8 from rfl, show ((9 : Nat) : Int) = 9 from rfl, show ((10 : Nat) : Int) = 10 from rfl]
      exact Iff.rfl
end VAL
