-- TEXTS: letters, words, runs
def ru (P : Int → Bool) (T : Nat → Int) (n : Nat) : Nat → Nat → Nat
  | 0, p => p
  | f + 1, p => if p < n ∧ P (T p) = true then ru P T n f (p + 1) else p
/-- the end of a run -/
def rn (P : Int → Bool) (T : Nat → Int) (n p : Nat) : Nat := ru P T n (n - p) p
abbrev isB : Int → Bool := fun x => x == 32
abbrev isDg : Int → Bool := fun x => decide (48 ≤ x ∧ x ≤ 57)
abbrev isLt : Int → Bool := fun x => decide (97 ≤ x ∧ x ≤ 122)
section RU
variable {P : Int → Bool} {T : Nat → Int} {n p : Nat}
theorem rn_s (h : p < n) (hp : P (T p) = true) : rn P T n p = rn P T n (p + 1) := by
  unfold rn
  rw [show n - p = (n - (p + 1)) + 1 by omega]
  exact if_pos ⟨h, hp⟩
theorem rn_e (h : ¬ (p < n ∧ P (T p) = true)) : rn P T n p = p := by
  unfold rn
  cases hm : n - p with
  | zero => rfl
  | succ m => exact if_neg h
theorem ru_b : ∀ f p, p ≤ ru P T n f p ∧ (p ≤ n → ru P T n f p ≤ n)
  | 0, p => ⟨Nat.le_refl _, id⟩
  | f + 1, p => by
    have ih := ru_b f (p + 1)
    show p ≤ (if p < n ∧ P (T p) = true then ru P T n f (p + 1) else p) ∧ (p ≤ n → (if p < n ∧ P (T p) = true then ru P T n f (p + 1) else p) ≤ n)
    split
    · next h => exact ⟨by omega, fun _ => ih.2 (by omega)⟩
    · exact ⟨Nat.le_refl _, id⟩
theorem rn_b : p ≤ rn P T n p ∧ (p ≤ n → rn P T n p ≤ n) := ru_b _ p
end RU
abbrev wd (i : Nat) : List Int := fzb.getD i []
theorem wd_k : ∀ i, i < 30 → 1 ≤ (wd i).length ∧ (wd i).length ≤ 8 ∧ ∀ j, j < (wd i).length → 97 ≤ (wd i).getD j 0 ∧ (wd i).getD j 0 ≤ 122 := by decide +kernel
theorem sh_n : ∀ l, l < 9 → (Int32.ofInt ((l : Nat) : Int) >>> (Int32.ofInt 0 &&& 31)).toInt = ((l : Nat) : Int) := by decide +kernel
theorem ch_a : ∀ x, x < 128 → (Int32.ofInt ((x : Nat) : Int) &&& Int32.ofInt 255).toInt % 65536 = ((x : Nat) : Int) := by decide +kernel
theorem an_255 : ∀ x, x < 256 → (Int32.ofInt (((x : Nat) : Int) - 128) &&& Int32.ofInt 255).toInt = (((x : Nat) : Int) - 128) % 256 := by decide +kernel
theorem g13_0 {k : Nat} : fget [vr k, vi 0] 0 = some (vr k) := rfl
theorem g13_1 {k : Nat} : fget [vr k, vi 0] 1 = some (vi 0) := rfl
section STR
variable {W : AW} {Q : AQ} {i j : Nat}
theorem fz_s (h : FZ W) (hi : i < 30) : W.2 (6 + i) = eo 13 [vr (36 + i), vi 0] := by
  rw [h (6 + i) (by omega) (by omega), frz_s (by omega) (by omega), show 6 + i + 30 = 36 + i by omega]
theorem fz_b (h : FZ W) (hi : i < 30) : W.2 (36 + i) = ea 1 (wd i).length (fun j => (wd i).getD j 0) := by
  rw [h (36 + i) (by omega) (by omega), frz_b (by omega) (by omega), show 36 + i - 36 = i by omega]
theorem s_len (h : FZ W) (hw : 67 ≤ W.1) (hi : i < 30) : Gm 71 [vr (6 + i)] W Q ↔ Q (some (vi (((wd i).length : Nat) : Int))) W := by
  have h1 := fz_s h hi
  have h2 := fz_b h hi
  have hl := wd_k i hi
  have hs := sh_n (wd i).length (by omega)
  rw [e71]
  simp (disch := omega) only [s_1, s_2, s_3, s_4, s_76, s_5, s_6, s_7, s_8, s_9, s_10, s_11, s_12, s_13, s_14, s_15, s_16, s_17, s_18, s_19, s_20, s_21, s_22, s_23, s_24, s_25, s_26, s_27, s_28, s_29, s_30, s_31, s_32, s_33, s_34, s_35, s_36, s_37, s_38, s_39, s_40l, s_40i, s_40r, s_41, s_43, t_44, t_45, t_46, t_47, s_48, s_49, s_50, s_51, s_52, s_53, s_54, s_55, s_56, s_57, s_58, s_59, s_60, s_61, s_62_0, s_62_1, s_62_2, s_66, s_67, s_68, s_69, s_70, s_71, s_72, s_73, sws_n, sws_c, lget, lset, fget, fset, nolg, nolong, avc, stw, cnd, isobj_eo, GCi, GCn, retk, List.length_cons, List.length_nil, ↓reduceIte, and_true, true_and, not_true_eq_false, not_false_eq_true, forall_const, Nat.reduceAdd, Nat.reduceLT, Nat.reduceLeDiff, Nat.lt_add_one, Nat.le_refl, Nat.zero_le, Nat.sub_zero, Int.reduceEq, Int.reduceNe, Int.reduceLT, Int.reduceLE, Int.reduceAdd, Int.reduceSub, Int.reduceMul, Int.reduceNeg, Int.reduceTDiv, Int.reduceTMod, ne_eq, reduceCtorEq, Nat.reduceEqDiff, Int.cast_ofNat_Int, true_or, or_true, false_or, or_false, lcq_0, lcq_2, lcq_3, lcq_4, lcq_5, wu_s, wu_1, wu_w, wu_lt, wu_ne, ar_s, ar_n, rr_s, rr_n, ob_n, nz_c, lt_T, lt_F, le_T, le_F, ie_T, ie_F, nt_T, nt_F, nl_T, nl_F, in_T, and_false, false_and, and_self, not_true_eq_false, Int.toNat_natCast, Int.reduceToNat, if_true, if_false, mi_71, i71_0, i71_1, i71_4, i71_5, i71_6, i71_9, i71_10, k72, g13_0, h1, h2, e72, mi_72, i72_0, i72_3, i72_6, i72_7, i72_10, i72_13, i72_14, g13_1, hs]
theorem s_chr (h : FZ W) (hw : 67 ≤ W.1) (hi : i < 30) (hj : j < (wd i).length) : Gm 73 [vr (6 + i), vi (j : Int)] W Q ↔ Q (some (vi ((wd i).getD j 0))) W := by
  have h1 := fz_s h hi
  have h2 := fz_b h hi
  have hl := wd_k i hi
  have hc := hl.2.2 j hj
  obtain ⟨x, hx⟩ : ∃ x : Nat, (wd i).getD j 0 = (x : Int) := ⟨((wd i).getD j 0).toNat, by omega⟩
  have ha := ch_a x (by omega)
  rw [e73]
  simp (disch := omega) only [s_1, s_2, s_3, s_4, s_76, s_5, s_6, s_7, s_8, s_9, s_10, s_11, s_12, s_13, s_14, s_15, s_16, s_17, s_18, s_19, s_20, s_21, s_22, s_23, s_24, s_25, s_26, s_27, s_28, s_29, s_30, s_31, s_32, s_33, s_34, s_35, s_36, s_37, s_38, s_39, s_40l, s_40i, s_40r, s_41, s_43, t_44, t_45, t_46, t_47, s_48, s_49, s_50, s_51, s_52, s_53, s_54, s_55, s_56, s_57, s_58, s_59, s_60, s_61, s_62_0, s_62_1, s_62_2, s_66, s_67, s_68, s_69, s_70, s_71, s_72, s_73, sws_n, sws_c, lget, lset, fget, fset, nolg, nolong, avc, stw, cnd, isobj_eo, GCi, GCn, retk, List.length_cons, List.length_nil, ↓reduceIte, and_true, true_and, not_true_eq_false, not_false_eq_true, forall_const, Nat.reduceAdd, Nat.reduceLT, Nat.reduceLeDiff, Nat.lt_add_one, Nat.le_refl, Nat.zero_le, Nat.sub_zero, Int.reduceEq, Int.reduceNe, Int.reduceLT, Int.reduceLE, Int.reduceAdd, Int.reduceSub, Int.reduceMul, Int.reduceNeg, Int.reduceTDiv, Int.reduceTMod, ne_eq, reduceCtorEq, Nat.reduceEqDiff, Int.cast_ofNat_Int, true_or, or_true, false_or, or_false, lcq_0, lcq_2, lcq_3, lcq_4, lcq_5, wu_s, wu_1, wu_w, wu_lt, wu_ne, ar_s, ar_n, rr_s, rr_n, ob_n, nz_c, lt_T, lt_F, le_T, le_F, ie_T, ie_F, nt_T, nt_F, nl_T, nl_F, in_T, and_false, false_and, and_self, not_true_eq_false, Int.toNat_natCast, Int.reduceToNat, if_true, if_false, mi_73, i73_0, i73_1, i73_4, i73_7, i73_8, i73_11, i73_12, i73_15, i73_16, i73_17, i73_20, i73_21, i73_24, k74, k75, k78, g13_0, h1, h2, e74, mi_74, i74_0, i74_3, i74_6, i74_7, i74_10, i74_13, i74_14, i74_17, i74_18, g13_1, e75, mi_75, i75_0, i75_1, i75_2, i75_3, i75_6, i75_7, i75_8, i75_9, i75_12, i75_13, i75_14, k76, e76, mi_76, i76_0, i76_1, i76_2, i76_5, i76_8, i76_9, k77, e77, mi_77, i77_0, i77_1, i77_4, i77_5, i77_6, i77_9, i77_10, i77_11, i77_12, i77_15, i77_16, i77_17, hx, ha]
  exact ⟨fun z => z none (Or.inl rfl), fun z r _ => z⟩
end STR
-- THE REFERENCE'S TEXT WORLD: its object (148), sorts (168), numbers (169), what is open (176)
abbrev TW (W : AW) (g s m o : Nat → Int) : AW := wu (wu (wu (wu W 148 (o12 g)) 168 (ea 0 4800 s)) 169 (ea 0 4800 m)) 176 (ea 0 402 o)
/-- a byte as the reference reads it -/
def chr (T : Nat → Int) (n p : Nat) : Int := if p < n then T p % 256 else -1
def Ty (T : Nat → Int) : Prop := ∀ i, -128 ≤ T i ∧ T i < 128
theorem chr_b {T : Nat → Int} {n p : Nat} : -1 ≤ chr T n p ∧ chr T n p < 256 := by
  unfold chr
  split <;> omega
theorem chr_e {T : Nat → Int} {n p : Nat} {x : Int} (hT : Ty T) (hx : 0 ≤ x ∧ x < 128) : chr T n p = x ↔ (p < n ∧ T p = x) := by
  have := hT p
  unfold chr
  split <;> omega
section LEX
variable {W : AW} {Q : AQ} {g s m o T : Nat → Int} {n p i : Nat}
theorem TW_r (hR : RS W) : RS (TW W g s m o) := ru_176 (ru_169 (ru_168 (ru_148 hR)))
theorem TW_f (hF : FZ W) : FZ (TW W g s m o) := fun k h1 h2 => by
  show (wu (wu (wu (wu W 148 (o12 g)) 168 (ea 0 4800 s)) 169 (ea 0 4800 m)) 176 (ea 0 402 o)).2 k = _
  rw [wu_ne (by omega), wu_ne (by omega), wu_ne (by omega), wu_ne (by omega)]
  exact hF k h1 h2
theorem y_sign (hR : RS W) (hT : ar W 167 = T) (hTy : Ty T) (h20 : g 20 = (n : Int)) (h21 : g 21 = (p : Int)) (hn : n ≤ 400) : Gm 200 [vr 148] (TW W g s m o) Q ↔ Q (some (vi (chr T n p))) (TW W g s m o) := by
  have hw : 192 ≤ W.1 := hR.1
  have tb := hTy p
  rw [e200]
  by_cases c : p < n
  · have a := an_255 (T p + 128).toNat (by omega)
    rw [show (((T p + 128).toNat : Nat) : Int) - 128 = T p by omega] at a
    rw [show chr T n p = T p % 256 from if_pos c]
    simp (disch := omega) only [s_1, s_2, s_3, s_4, s_76, s_5, s_6, s_7, s_8, s_9, s_10, s_11, s_12, s_13, s_14, s_15, s_16, s_17, s_18, s_19, s_20, s_21, s_22, s_23, s_24, s_25, s_26, s_27, s_28, s_29, s_30, s_31, s_32, s_33, s_34, s_35, s_36, s_37, s_38, s_39, s_40l, s_40i, s_40r, s_41, s_43, t_44, t_45, t_46, t_47, s_48, s_49, s_50, s_51, s_52, s_53, s_54, s_55, s_56, s_57, s_58, s_59, s_60, s_61, s_62_0, s_62_1, s_62_2, s_66, s_67, s_68, s_69, s_70, s_71, s_72, s_73, sws_n, sws_c, lget, lset, fget, fset, nolg, nolong, avc, stw, cnd, isobj_eo, GCi, GCn, retk, List.length_cons, List.length_nil, ↓reduceIte, and_true, true_and, not_true_eq_false, not_false_eq_true, forall_const, Nat.reduceAdd, Nat.reduceLT, Nat.reduceLeDiff, Nat.lt_add_one, Nat.le_refl, Nat.zero_le, Nat.sub_zero, Int.reduceEq, Int.reduceNe, Int.reduceLT, Int.reduceLE, Int.reduceAdd, Int.reduceSub, Int.reduceMul, Int.reduceNeg, Int.reduceTDiv, Int.reduceTMod, ne_eq, reduceCtorEq, Nat.reduceEqDiff, Int.cast_ofNat_Int, true_or, or_true, false_or, or_false, lcq_0, lcq_2, lcq_3, lcq_4, lcq_5, wu_s, wu_1, wu_w, wu_lt, wu_ne, ar_s, ar_n, rr_s, rr_n, ob_n, nz_c, lt_T, lt_F, le_T, le_F, ie_T, ie_F, nt_T, nt_F, nl_T, nl_F, in_T, and_false, false_and, and_self, not_true_eq_false, Int.toNat_natCast, Int.reduceToNat, if_true, if_false, mi_200, i200_0, i200_1, i200_4, i200_5, i200_8, i200_11, i200_12, i200_15, i200_16, i200_19, i200_20, i200_23, i200_24, i200_27, i200_28, g12_20, g12_21, g12_31, ra_167 hR, hT, h20, h21, a]
  · rw [show chr T n p = -1 from if_neg c]
    simp (disch := omega) only [s_1, s_2, s_3, s_4, s_76, s_5, s_6, s_7, s_8, s_9, s_10, s_11, s_12, s_13, s_14, s_15, s_16, s_17, s_18, s_19, s_20, s_21, s_22, s_23, s_24, s_25, s_26, s_27, s_28, s_29, s_30, s_31, s_32, s_33, s_34, s_35, s_36, s_37, s_38, s_39, s_40l, s_40i, s_40r, s_41, s_43, t_44, t_45, t_46, t_47, s_48, s_49, s_50, s_51, s_52, s_53, s_54, s_55, s_56, s_57, s_58, s_59, s_60, s_61, s_62_0, s_62_1, s_62_2, s_66, s_67, s_68, s_69, s_70, s_71, s_72, s_73, sws_n, sws_c, lget, lset, fget, fset, nolg, nolong, avc, stw, cnd, isobj_eo, GCi, GCn, retk, List.length_cons, List.length_nil, ↓reduceIte, and_true, true_and, not_true_eq_false, not_false_eq_true, forall_const, Nat.reduceAdd, Nat.reduceLT, Nat.reduceLeDiff, Nat.lt_add_one, Nat.le_refl, Nat.zero_le, Nat.sub_zero, Int.reduceEq, Int.reduceNe, Int.reduceLT, Int.reduceLE, Int.reduceAdd, Int.reduceSub, Int.reduceMul, Int.reduceNeg, Int.reduceTDiv, Int.reduceTMod, ne_eq, reduceCtorEq, Nat.reduceEqDiff, Int.cast_ofNat_Int, true_or, or_true, false_or, or_false, lcq_0, lcq_2, lcq_3, lcq_4, lcq_5, wu_s, wu_1, wu_w, wu_lt, wu_ne, ar_s, ar_n, rr_s, rr_n, ob_n, nz_c, lt_T, lt_F, le_T, le_F, ie_T, ie_F, nt_T, nt_F, nl_T, nl_F, in_T, and_false, false_and, and_self, not_true_eq_false, Int.toNat_natCast, Int.reduceToNat, if_true, if_false, mi_200, i200_0, i200_1, i200_4, i200_5, i200_8, i200_11, i200_12, i200_15, i200_16, i200_19, i200_20, i200_23, i200_24, i200_27, i200_28, g12_20, g12_21, g12_31, ra_167 hR, hT, h20, h21]
theorem y_blanks (hR : RS W) (hT : ar W 167 = T) (hTy : Ty T) (h20 : g 20 = (n : Int)) (h21 : g 21 = (p : Int)) (hn : n ≤ 400) (hp : p ≤ 1000) (hQ : Q none (TW W (fu g 21 ((rn isB T n p : Nat) : Int)) s m o)) : Gm 199 [vr 148] (TW W g s m o) Q := by
  have hw : 192 ≤ W.1 := hR.1
  have key : ∀ (f q : Nat), n - q ≤ f → q ≤ 1000 → rn isB T n q = rn isB T n p → G 199 0 [some (vr 148)] [] (TW W (fu g 21 (q : Int)) s m o) 0 0 Q := by
    intro f
    induction f with
    | zero =>
      intro q h1 h2 h3
      have hs := fun {Q : AQ} => y_sign (W := W) (Q := Q) (g := fu g 21 (q : Int)) (s := s) (m := m) (o := o) hR hT hTy (by rw [fu_ne _ _ (by decide)]; exact h20) (fu_eq _ _ _) hn
      have c : chr T n q = -1 := if_neg (by omega)
      rw [c] at hs
      rw [← h3, rn_e (by omega)] at hQ
      rw [i199_0]
      simp (disch := omega) only [s_1, s_2, s_3, s_4, s_76, s_5, s_6, s_7, s_8, s_9, s_10, s_11, s_12, s_13, s_14, s_15, s_16, s_17, s_18, s_19, s_20, s_21, s_22, s_23, s_24, s_25, s_26, s_27, s_28, s_29, s_30, s_31, s_32, s_33, s_34, s_35, s_36, s_37, s_38, s_39, s_40l, s_40i, s_40r, s_41, s_43, t_44, t_45, t_46, t_47, s_48, s_49, s_50, s_51, s_52, s_53, s_54, s_55, s_56, s_57, s_58, s_59, s_60, s_61, s_62_0, s_62_1, s_62_2, s_66, s_67, s_68, s_69, s_70, s_71, s_72, s_73, sws_n, sws_c, lget, lset, fget, fset, nolg, nolong, avc, stw, cnd, isobj_eo, GCi, GCn, retk, List.length_cons, List.length_nil, ↓reduceIte, and_true, true_and, not_true_eq_false, not_false_eq_true, forall_const, Nat.reduceAdd, Nat.reduceLT, Nat.reduceLeDiff, Nat.lt_add_one, Nat.le_refl, Nat.zero_le, Nat.sub_zero, Int.reduceEq, Int.reduceNe, Int.reduceLT, Int.reduceLE, Int.reduceAdd, Int.reduceSub, Int.reduceMul, Int.reduceNeg, Int.reduceTDiv, Int.reduceTMod, ne_eq, reduceCtorEq, Nat.reduceEqDiff, Int.cast_ofNat_Int, true_or, or_true, false_or, or_false, lcq_0, lcq_2, lcq_3, lcq_4, lcq_5, wu_s, wu_1, wu_w, wu_lt, wu_ne, ar_s, ar_n, rr_s, rr_n, ob_n, nz_c, lt_T, lt_F, le_T, le_F, ie_T, ie_F, nt_T, nt_F, nl_T, nl_F, in_T, and_false, false_and, and_self, not_true_eq_false, Int.toNat_natCast, Int.reduceToNat, if_true, if_false, mi_199, i199_0, i199_1, i199_4, i199_6, i199_9, i199_10, i199_11, i199_14, i199_15, i199_16, i199_19, i199_22, k200, g12_21, p12_21, hs]
      exact hQ
    | succ f ih =>
      intro q h1 h2 h3
      have hs := fun {Q : AQ} => y_sign (W := W) (Q := Q) (g := fu g 21 (q : Int)) (s := s) (m := m) (o := o) hR hT hTy (by rw [fu_ne _ _ (by decide)]; exact h20) (fu_eq _ _ _) hn
      rw [i199_0]
      by_cases c : q < n ∧ T q = 32
      · have c2 : chr T n q = 32 := (chr_e hTy (by decide)).mpr c
        rw [c2] at hs
        have e := ih (q + 1) (by omega) (by omega) (by rw [← h3]; exact (rn_s c.1 (by rw [c.2]; decide)).symm)
        rw [nc1] at e
        simp (disch := omega) only [s_1, s_2, s_3, s_4, s_76, s_5, s_6, s_7, s_8, s_9, s_10, s_11, s_12, s_13, s_14, s_15, s_16, s_17, s_18, s_19, s_20, s_21, s_22, s_23, s_24, s_25, s_26, s_27, s_28, s_29, s_30, s_31, s_32, s_33, s_34, s_35, s_36, s_37, s_38, s_39, s_40l, s_40i, s_40r, s_41, s_43, t_44, t_45, t_46, t_47, s_48, s_49, s_50, s_51, s_52, s_53, s_54, s_55, s_56, s_57, s_58, s_59, s_60, s_61, s_62_0, s_62_1, s_62_2, s_66, s_67, s_68, s_69, s_70, s_71, s_72, s_73, sws_n, sws_c, lget, lset, fget, fset, nolg, nolong, avc, stw, cnd, isobj_eo, GCi, GCn, retk, List.length_cons, List.length_nil, ↓reduceIte, and_true, true_and, not_true_eq_false, not_false_eq_true, forall_const, Nat.reduceAdd, Nat.reduceLT, Nat.reduceLeDiff, Nat.lt_add_one, Nat.le_refl, Nat.zero_le, Nat.sub_zero, Int.reduceEq, Int.reduceNe, Int.reduceLT, Int.reduceLE, Int.reduceAdd, Int.reduceSub, Int.reduceMul, Int.reduceNeg, Int.reduceTDiv, Int.reduceTMod, ne_eq, reduceCtorEq, Nat.reduceEqDiff, Int.cast_ofNat_Int, true_or, or_true, false_or, or_false, lcq_0, lcq_2, lcq_3, lcq_4, lcq_5, wu_s, wu_1, wu_w, wu_lt, wu_ne, ar_s, ar_n, rr_s, rr_n, ob_n, nz_c, lt_T, lt_F, le_T, le_F, ie_T, ie_F, nt_T, nt_F, nl_T, nl_F, in_T, and_false, false_and, and_self, not_true_eq_false, Int.toNat_natCast, Int.reduceToNat, if_true, if_false, mi_199, i199_1, i199_4, i199_6, i199_9, i199_10, i199_11, i199_14, i199_15, i199_16, i199_19, i199_22, k200, g12_21, p12_21, hs, fu_eq, fu_fu]
        exact e
      · have c2 : ¬ chr T n q = 32 := fun z => c ((chr_e hTy (by decide)).mp z)
        rw [← h3, rn_e (fun z => c ⟨z.1, by have := z.2; rw [beq_iff_eq] at this; exact this⟩)] at hQ
        generalize chr T n q = x at *
        simp (disch := omega) only [s_1, s_2, s_3, s_4, s_76, s_5, s_6, s_7, s_8, s_9, s_10, s_11, s_12, s_13, s_14, s_15, s_16, s_17, s_18, s_19, s_20, s_21, s_22, s_23, s_24, s_25, s_26, s_27, s_28, s_29, s_30, s_31, s_32, s_33, s_34, s_35, s_36, s_37, s_38, s_39, s_40l, s_40i, s_40r, s_41, s_43, t_44, t_45, t_46, t_47, s_48, s_49, s_50, s_51, s_52, s_53, s_54, s_55, s_56, s_57, s_58, s_59, s_60, s_61, s_62_0, s_62_1, s_62_2, s_66, s_67, s_68, s_69, s_70, s_71, s_72, s_73, sws_n, sws_c, lget, lset, fget, fset, nolg, nolong, avc, stw, cnd, isobj_eo, GCi, GCn, retk, List.length_cons, List.length_nil, ↓reduceIte, and_true, true_and, not_true_eq_false, not_false_eq_true, forall_const, Nat.reduceAdd, Nat.reduceLT, Nat.reduceLeDiff, Nat.lt_add_one, Nat.le_refl, Nat.zero_le, Nat.sub_zero, Int.reduceEq, Int.reduceNe, Int.reduceLT, Int.reduceLE, Int.reduceAdd, Int.reduceSub, Int.reduceMul, Int.reduceNeg, Int.reduceTDiv, Int.reduceTMod, ne_eq, reduceCtorEq, Nat.reduceEqDiff, Int.cast_ofNat_Int, true_or, or_true, false_or, or_false, lcq_0, lcq_2, lcq_3, lcq_4, lcq_5, wu_s, wu_1, wu_w, wu_lt, wu_ne, ar_s, ar_n, rr_s, rr_n, ob_n, nz_c, lt_T, lt_F, le_T, le_F, ie_T, ie_F, nt_T, nt_F, nl_T, nl_F, in_T, and_false, false_and, and_self, not_true_eq_false, Int.toNat_natCast, Int.reduceToNat, if_true, if_false, mi_199, i199_1, i199_4, i199_6, i199_9, i199_10, i199_11, i199_14, i199_15, i199_16, i199_19, i199_22, k200, g12_21, p12_21, hs, c2]
        exact hQ
  have e := key (n - p) p (Nat.le_refl _) hp rfl
  rw [fu_sf h21] at e
  rw [e199]
  exact e
theorem y_isDigit (hR : RS W) (hT : ar W 167 = T) (hTy : Ty T) (h20 : g 20 = (n : Int)) (h21 : g 21 = (p : Int)) (hn : n ≤ 400) : Gm 212 [vr 148] (TW W g s m o) Q ↔ Q (some (vi (bi (p < n ∧ isDg (T p) = true)))) (TW W g s m o) := by
  have hw : 192 ≤ W.1 := hR.1
  have hs := fun {Q : AQ} => y_sign (W := W) (Q := Q) (g := g) (s := s) (m := m) (o := o) hR hT hTy h20 h21 hn
  have tb := hTy p
  have e : bi (p < n ∧ isDg (T p) = true) = bi (48 ≤ chr T n p ∧ chr T n p ≤ 57) := bi_c (by
    simp only [isDg, decide_eq_true_eq]
    unfold chr
    split <;> omega)
  rw [e, e212]
  generalize chr T n p = x at *
  simp (disch := omega) only [s_1, s_2, s_3, s_4, s_76, s_5, s_6, s_7, s_8, s_9, s_10, s_11, s_12, s_13, s_14, s_15, s_16, s_17, s_18, s_19, s_20, s_21, s_22, s_23, s_24, s_25, s_26, s_27, s_28, s_29, s_30, s_31, s_32, s_33, s_34, s_35, s_36, s_37, s_38, s_39, s_40l, s_40i, s_40r, s_41, s_43, t_44, t_45, t_46, t_47, s_48, s_49, s_50, s_51, s_52, s_53, s_54, s_55, s_56, s_57, s_58, s_59, s_60, s_61, s_62_0, s_62_1, s_62_2, s_66, s_67, s_68, s_69, s_70, s_71, s_72, s_73, sws_n, sws_c, lget, lset, fget, fset, nolg, nolong, avc, stw, cnd, isobj_eo, GCi, GCn, retk, List.length_cons, List.length_nil, ↓reduceIte, and_true, true_and, not_true_eq_false, not_false_eq_true, forall_const, Nat.reduceAdd, Nat.reduceLT, Nat.reduceLeDiff, Nat.lt_add_one, Nat.le_refl, Nat.zero_le, Nat.sub_zero, Int.reduceEq, Int.reduceNe, Int.reduceLT, Int.reduceLE, Int.reduceAdd, Int.reduceSub, Int.reduceMul, Int.reduceNeg, Int.reduceTDiv, Int.reduceTMod, ne_eq, reduceCtorEq, Nat.reduceEqDiff, Int.cast_ofNat_Int, true_or, or_true, false_or, or_false, lcq_0, lcq_2, lcq_3, lcq_4, lcq_5, wu_s, wu_1, wu_w, wu_lt, wu_ne, ar_s, ar_n, rr_s, rr_n, ob_n, nz_c, lt_T, lt_F, le_T, le_F, ie_T, ie_F, nt_T, nt_F, nl_T, nl_F, in_T, and_false, false_and, and_self, not_true_eq_false, Int.toNat_natCast, Int.reduceToNat, if_true, if_false, mi_212, i212_0, i212_1, i212_4, i212_5, i212_8, i212_11, i212_14, k179, k200, hs, m_in, bi_o]
def stP (T : Nat → Int) (n p i : Nat) : Prop := rn isLt T n p - p = (wd i).length ∧ ∀ j, j < (wd i).length → T (p + j) = (wd i).getD j 0
end LEX
