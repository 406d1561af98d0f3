-- ROOMS: cells that hang together; the class finds them
def ec1 (e : Nat) : Nat := (efc (e : Int)).toNat
def ec2 (e : Nat) : Nat := (eoc (e : Int)).toNat
theorem ec_b : ∀ e, e < 180 → ec1 e < 100 ∧ ec2 e < 100 ∧ ¬ ec1 e = ec2 e := by decide +kernel
theorem ec_1 {e : Int} (h0 : 0 ≤ e) (h1 : e < 180) : efc e = ((ec1 e.toNat : Nat) : Int) := by
  have := efc_b h0 h1
  unfold ec1
  rw [Int.toNat_of_nonneg h0]
  omega
theorem ec_2 {e : Int} (h0 : 0 ≤ e) (h1 : e < 180) : eoc e = ((ec2 e.toNat : Nat) : Int) := by
  have := eoc_b h0 h1
  unfold ec2
  rw [Int.toNat_of_nonneg h0]
  omega
/-- side by side, not torn apart -/
def Aj (t : Nat → Int) (x y : Nat) : Prop := ∃ e, e < 180 ∧ t e = -1 ∧ ((ec1 e = x ∧ ec2 e = y) ∨ (ec1 e = y ∧ ec2 e = x))
def Ck (t : Nat → Int) : Nat → Nat → Nat → Prop
  | 0, x, y => x = y
  | k + 1, x, y => ∃ z, Aj t x z ∧ Ck t k z y
def Cn (t : Nat → Int) (x y : Nat) : Prop := ∃ k, Ck t k x y
def LabOK (t L : Nat → Int) : Prop := (∀ x : Nat, x < 100 → 0 ≤ L x ∧ L x ≤ x ∧ Cn t x (L x).toNat) ∧ ∀ x y, Aj t x y → L x = L y
section LAB
variable {t L L' : Nat → Int} {x y z : Nat}
theorem Aj.sy (h : Aj t x y) : Aj t y x := by
  obtain ⟨e, h1, h2, h3⟩ := h
  exact ⟨e, h1, h2, h3.symm⟩
theorem Aj.bq (h : Aj t x y) : x < 100 ∧ y < 100 := by
  obtain ⟨e, h1, h2, h3⟩ := h
  have := ec_b e h1
  omega
theorem Cn.rf : Cn t x x := ⟨0, rfl⟩
theorem Cn.cs (h : Aj t x z) (g : Cn t z y) : Cn t x y := by
  obtain ⟨k, g⟩ := g
  exact ⟨k + 1, z, h, g⟩
theorem Cn.eq (hL : ∀ x y, Aj t x y → L x = L y) (h : Cn t x y) : L x = L y := by
  obtain ⟨k, h⟩ := h
  induction k generalizing x with
  | zero => have e : x = y := h; rw [e]
  | succ k ih =>
    obtain ⟨z, h1, h2⟩ := h
    exact (hL x z h1).trans (ih h2)
theorem LabOK.le (h : LabOK t L) (g : LabOK t L') (hx : x < 100) : L' x ≤ L x := by
  obtain ⟨a, b, c⟩ := h.1 x hx
  have e := Cn.eq g.2 c
  have := g.1 (L x).toNat (by omega)
  omega
theorem LabOK.un (h : LabOK t L) (g : LabOK t L') (hx : x < 100) : L x = L' x := by
  have := h.le g hx
  have := g.le h hx
  omega
end LAB
-- geometry of cells
def bes (x w : Nat) : Int := if w = 0 then (if x / 10 = 0 then -1 else 90 + (x : Int) - 10) else if w = 1 then (if x % 10 = 9 then -1 else 9 * ((x / 10 : Nat) : Int) + ((x % 10 : Nat) : Int)) else if w = 2 then (if x / 10 = 9 then -1 else 90 + (x : Int)) else (if x % 10 = 0 then -1 else 9 * ((x / 10 : Nat) : Int) + ((x % 10 : Nat) : Int) - 1)
def nb (x w : Nat) : Nat := if ec1 (bes x w).toNat = x then ec2 (bes x w).toNat else ec1 (bes x w).toNat
theorem bes_f : ∀ x, x < 100 → ∀ w, w < 4 → bes x w = -1 ∨ (0 ≤ bes x w ∧ bes x w < 180 ∧ (ec1 (bes x w).toNat = x ∨ ec2 (bes x w).toNat = x)) := by decide +kernel
theorem bes_o : ∀ e, e < 180 → (bes (ec1 e) 0 = e ∨ bes (ec1 e) 1 = e ∨ bes (ec1 e) 2 = e ∨ bes (ec1 e) 3 = e) ∧ (bes (ec2 e) 0 = e ∨ bes (ec2 e) 1 = e ∨ bes (ec2 e) 2 = e ∨ bes (ec2 e) 3 = e) := by decide +kernel
theorem nb_e : ∀ x, x < 100 → ∀ w, w < 4 → ¬ bes x w = -1 → (if efc (bes x w) = (x : Int) then eoc (bes x w) else efc (bes x w)) = ((nb x w : Nat) : Int) := by decide +kernel
theorem nb_aj {t : Nat → Int} {x w : Nat} (hx : x < 100) (hw : w < 4) (hb : ¬ bes x w = -1) (ht : t (bes x w).toNat = -1) : Aj t x (nb x w) := by
  rcases bes_f x hx w hw with h | ⟨h0, h1, h2⟩
  · exact absurd h hb
  · refine ⟨(bes x w).toNat, by omega, ht, ?_⟩
    unfold nb
    by_cases c : ec1 (bes x w).toNat = x
    · rw [if_pos c]; exact Or.inl ⟨c, rfl⟩
    · rw [if_neg c]; exact Or.inr ⟨rfl, h2.resolve_left c⟩
theorem aj_nb {t : Nat → Int} {x y : Nat} (h : Aj t x y) : ∃ w, w < 4 ∧ ¬ bes x w = -1 ∧ t (bes x w).toNat = -1 ∧ nb x w = y := by
  obtain ⟨e, h1, h2, h3⟩ := h
  have hb := ec_b e h1
  have ho := bes_o e h1
  have key : ∀ w, w < 4 → bes x w = (e : Int) → ∃ w, w < 4 ∧ ¬ bes x w = -1 ∧ t (bes x w).toNat = -1 ∧ nb x w = y := by
    intro w hw he
    refine ⟨w, hw, by omega, by rw [he]; exact h2, ?_⟩
    unfold nb
    rw [he, Int.toNat_natCast]
    rcases h3 with ⟨c1, c2⟩ | ⟨c1, c2⟩
    · rw [if_pos c1]; exact c2
    · rw [if_neg (by omega)]; exact c1
  rcases h3 with ⟨c1, c2⟩ | ⟨c1, c2⟩
  · have := ho.1
    rw [c1] at this
    rcases this with q | q | q | q
    · exact key 0 (by decide) q
    · exact key 1 (by decide) q
    · exact key 2 (by decide) q
    · exact key 3 (by decide) q
  · have := ho.2
    rw [c2] at this
    rcases this with q | q | q | q
    · exact key 0 (by decide) q
    · exact key 1 (by decide) q
    · exact key 2 (by decide) q
    · exact key 3 (by decide) q
def rm (x : Nat) : Prop := x % 10 = 0 ∨ x % 10 = 9 ∨ x < 10 ∨ 90 ≤ x
theorem tm10 {a : Nat} : Int.tmod (a : Int) 10 = ((a % 10 : Nat) : Int) := rfl
theorem td10 {a : Nat} : Int.tdiv (a : Int) 10 = ((a / 10 : Nat) : Int) := rfl
section GEO
variable {W : AW} {Q : AQ} {x w : Nat}
theorem x_isRim (hx : x < 100) : Gm 28 [vi (x : Int)] W Q ↔ Q (some (vi (bi (rm x)))) W := by
  rw [e28]
  by_cases c1 : x % 10 = 0
  · rw [bi_p (p := rm x) (Or.inl c1)]
    simp (disch := omega) only [s_1, s_2, s_3, s_4, s_76, s_5, s_6, s_7, s_8, s_9, s_10, s_11, s_12, s_13, s_14, s_15, s_16, s_17, s_18, s_19, s_20, s_21, s_22, s_23, s_24, s_25, s_26, s_27, s_28, s_29, s_30, s_31, s_32, s_33, s_34, s_35, s_36, s_37, s_38, s_39, s_40l, s_40i, s_40r, s_41, s_43, t_44, t_45, t_46, t_47, s_48, s_49, s_50, s_51, s_52, s_53, s_54, s_55, s_56, s_57, s_58, s_59, s_60, s_61, s_62_0, s_62_1, s_62_2, s_66, s_67, s_68, s_69, s_70, s_71, s_72, s_73, sws_n, sws_c, lget, lset, fget, fset, nolg, nolong, avc, stw, cnd, isobj_eo, GCi, GCn, retk, List.length_cons, List.length_nil, ↓reduceIte, and_true, true_and, not_true_eq_false, not_false_eq_true, forall_const, Nat.reduceAdd, Nat.reduceLT, Nat.reduceLeDiff, Nat.lt_add_one, Nat.le_refl, Nat.zero_le, Nat.sub_zero, Int.reduceEq, Int.reduceNe, Int.reduceLT, Int.reduceLE, Int.reduceAdd, Int.reduceSub, Int.reduceMul, Int.reduceNeg, Int.reduceTDiv, Int.reduceTMod, ne_eq, reduceCtorEq, Nat.reduceEqDiff, Int.cast_ofNat_Int, true_or, or_true, false_or, or_false, lcq_0, lcq_2, lcq_3, lcq_4, lcq_5, wu_s, wu_1, wu_w, wu_lt, wu_ne, ar_s, ar_n, rr_s, rr_n, ob_n, nz_c, lt_T, lt_F, le_T, le_F, ie_T, ie_F, nt_T, nt_F, nl_T, nl_F, in_T, and_false, false_and, and_self, not_true_eq_false, Int.toNat_natCast, Int.reduceToNat, if_true, if_false, mi_28, i28_0, i28_1, i28_3, i28_4, i28_5, i28_6, i28_8, i28_9, i28_10, i28_11, i28_14, i28_15, i28_17, i28_20, i28_21, i28_24, i28_25, i28_27, i28_30, i28_31, i28_34, i28_35, tm10, td10, show ((x % 10 : Nat) : Int) = 0 by omega]
  · by_cases c2 : x % 10 = 9
    · rw [bi_p (p := rm x) (Or.inr (Or.inl c2))]
      simp (disch := omega) only [s_1, s_2, s_3, s_4, s_76, s_5, s_6, s_7, s_8, s_9, s_10, s_11, s_12, s_13, s_14, s_15, s_16, s_17, s_18, s_19, s_20, s_21, s_22, s_23, s_24, s_25, s_26, s_27, s_28, s_29, s_30, s_31, s_32, s_33, s_34, s_35, s_36, s_37, s_38, s_39, s_40l, s_40i, s_40r, s_41, s_43, t_44, t_45, t_46, t_47, s_48, s_49, s_50, s_51, s_52, s_53, s_54, s_55, s_56, s_57, s_58, s_59, s_60, s_61, s_62_0, s_62_1, s_62_2, s_66, s_67, s_68, s_69, s_70, s_71, s_72, s_73, sws_n, sws_c, lget, lset, fget, fset, nolg, nolong, avc, stw, cnd, isobj_eo, GCi, GCn, retk, List.length_cons, List.length_nil, ↓reduceIte, and_true, true_and, not_true_eq_false, not_false_eq_true, forall_const, Nat.reduceAdd, Nat.reduceLT, Nat.reduceLeDiff, Nat.lt_add_one, Nat.le_refl, Nat.zero_le, Nat.sub_zero, Int.reduceEq, Int.reduceNe, Int.reduceLT, Int.reduceLE, Int.reduceAdd, Int.reduceSub, Int.reduceMul, Int.reduceNeg, Int.reduceTDiv, Int.reduceTMod, ne_eq, reduceCtorEq, Nat.reduceEqDiff, Int.cast_ofNat_Int, true_or, or_true, false_or, or_false, lcq_0, lcq_2, lcq_3, lcq_4, lcq_5, wu_s, wu_1, wu_w, wu_lt, wu_ne, ar_s, ar_n, rr_s, rr_n, ob_n, nz_c, lt_T, lt_F, le_T, le_F, ie_T, ie_F, nt_T, nt_F, nl_T, nl_F, in_T, and_false, false_and, and_self, not_true_eq_false, Int.toNat_natCast, Int.reduceToNat, if_true, if_false, mi_28, i28_0, i28_1, i28_3, i28_4, i28_5, i28_6, i28_8, i28_9, i28_10, i28_11, i28_14, i28_15, i28_17, i28_20, i28_21, i28_24, i28_25, i28_27, i28_30, i28_31, i28_34, i28_35, tm10, td10, show ((x % 10 : Nat) : Int) = 9 by omega]
    · have d1 : ¬ ((x % 10 : Nat) : Int) = 0 := by omega
      have d2 : ¬ ((x % 10 : Nat) : Int) = 9 := by omega
      by_cases c3 : x < 10
      · rw [bi_p (p := rm x) (Or.inr (Or.inr (Or.inl c3)))]
        simp (disch := omega) only [s_1, s_2, s_3, s_4, s_76, s_5, s_6, s_7, s_8, s_9, s_10, s_11, s_12, s_13, s_14, s_15, s_16, s_17, s_18, s_19, s_20, s_21, s_22, s_23, s_24, s_25, s_26, s_27, s_28, s_29, s_30, s_31, s_32, s_33, s_34, s_35, s_36, s_37, s_38, s_39, s_40l, s_40i, s_40r, s_41, s_43, t_44, t_45, t_46, t_47, s_48, s_49, s_50, s_51, s_52, s_53, s_54, s_55, s_56, s_57, s_58, s_59, s_60, s_61, s_62_0, s_62_1, s_62_2, s_66, s_67, s_68, s_69, s_70, s_71, s_72, s_73, sws_n, sws_c, lget, lset, fget, fset, nolg, nolong, avc, stw, cnd, isobj_eo, GCi, GCn, retk, List.length_cons, List.length_nil, ↓reduceIte, and_true, true_and, not_true_eq_false, not_false_eq_true, forall_const, Nat.reduceAdd, Nat.reduceLT, Nat.reduceLeDiff, Nat.lt_add_one, Nat.le_refl, Nat.zero_le, Nat.sub_zero, Int.reduceEq, Int.reduceNe, Int.reduceLT, Int.reduceLE, Int.reduceAdd, Int.reduceSub, Int.reduceMul, Int.reduceNeg, Int.reduceTDiv, Int.reduceTMod, ne_eq, reduceCtorEq, Nat.reduceEqDiff, Int.cast_ofNat_Int, true_or, or_true, false_or, or_false, lcq_0, lcq_2, lcq_3, lcq_4, lcq_5, wu_s, wu_1, wu_w, wu_lt, wu_ne, ar_s, ar_n, rr_s, rr_n, ob_n, nz_c, lt_T, lt_F, le_T, le_F, ie_T, ie_F, nt_T, nt_F, nl_T, nl_F, in_T, and_false, false_and, and_self, not_true_eq_false, Int.toNat_natCast, Int.reduceToNat, if_true, if_false, mi_28, i28_0, i28_1, i28_3, i28_4, i28_5, i28_6, i28_8, i28_9, i28_10, i28_11, i28_14, i28_15, i28_17, i28_20, i28_21, i28_24, i28_25, i28_27, i28_30, i28_31, i28_34, i28_35, tm10, td10, eq_false d1, eq_false d2, show ((x / 10 : Nat) : Int) = 0 by omega]
      · have d3 : ¬ ((x / 10 : Nat) : Int) = 0 := by omega
        by_cases c4 : 90 ≤ x
        · rw [bi_p (p := rm x) (Or.inr (Or.inr (Or.inr c4)))]
          simp (disch := omega) only [s_1, s_2, s_3, s_4, s_76, s_5, s_6, s_7, s_8, s_9, s_10, s_11, s_12, s_13, s_14, s_15, s_16, s_17, s_18, s_19, s_20, s_21, s_22, s_23, s_24, s_25, s_26, s_27, s_28, s_29, s_30, s_31, s_32, s_33, s_34, s_35, s_36, s_37, s_38, s_39, s_40l, s_40i, s_40r, s_41, s_43, t_44, t_45, t_46, t_47, s_48, s_49, s_50, s_51, s_52, s_53, s_54, s_55, s_56, s_57, s_58, s_59, s_60, s_61, s_62_0, s_62_1, s_62_2, s_66, s_67, s_68, s_69, s_70, s_71, s_72, s_73, sws_n, sws_c, lget, lset, fget, fset, nolg, nolong, avc, stw, cnd, isobj_eo, GCi, GCn, retk, List.length_cons, List.length_nil, ↓reduceIte, and_true, true_and, not_true_eq_false, not_false_eq_true, forall_const, Nat.reduceAdd, Nat.reduceLT, Nat.reduceLeDiff, Nat.lt_add_one, Nat.le_refl, Nat.zero_le, Nat.sub_zero, Int.reduceEq, Int.reduceNe, Int.reduceLT, Int.reduceLE, Int.reduceAdd, Int.reduceSub, Int.reduceMul, Int.reduceNeg, Int.reduceTDiv, Int.reduceTMod, ne_eq, reduceCtorEq, Nat.reduceEqDiff, Int.cast_ofNat_Int, true_or, or_true, false_or, or_false, lcq_0, lcq_2, lcq_3, lcq_4, lcq_5, wu_s, wu_1, wu_w, wu_lt, wu_ne, ar_s, ar_n, rr_s, rr_n, ob_n, nz_c, lt_T, lt_F, le_T, le_F, ie_T, ie_F, nt_T, nt_F, nl_T, nl_F, in_T, and_false, false_and, and_self, not_true_eq_false, Int.toNat_natCast, Int.reduceToNat, if_true, if_false, mi_28, i28_0, i28_1, i28_3, i28_4, i28_5, i28_6, i28_8, i28_9, i28_10, i28_11, i28_14, i28_15, i28_17, i28_20, i28_21, i28_24, i28_25, i28_27, i28_30, i28_31, i28_34, i28_35, tm10, td10, eq_false d1, eq_false d2, show ((x / 10 : Nat) : Int) = 9 by omega]
        · have d4 : ¬ ((x / 10 : Nat) : Int) = 9 := by omega
          rw [bi_n (p := rm x) (by unfold rm; omega)]
          simp (disch := omega) only [s_1, s_2, s_3, s_4, s_76, s_5, s_6, s_7, s_8, s_9, s_10, s_11, s_12, s_13, s_14, s_15, s_16, s_17, s_18, s_19, s_20, s_21, s_22, s_23, s_24, s_25, s_26, s_27, s_28, s_29, s_30, s_31, s_32, s_33, s_34, s_35, s_36, s_37, s_38, s_39, s_40l, s_40i, s_40r, s_41, s_43, t_44, t_45, t_46, t_47, s_48, s_49, s_50, s_51, s_52, s_53, s_54, s_55, s_56, s_57, s_58, s_59, s_60, s_61, s_62_0, s_62_1, s_62_2, s_66, s_67, s_68, s_69, s_70, s_71, s_72, s_73, sws_n, sws_c, lget, lset, fget, fset, nolg, nolong, avc, stw, cnd, isobj_eo, GCi, GCn, retk, List.length_cons, List.length_nil, ↓reduceIte, and_true, true_and, not_true_eq_false, not_false_eq_true, forall_const, Nat.reduceAdd, Nat.reduceLT, Nat.reduceLeDiff, Nat.lt_add_one, Nat.le_refl, Nat.zero_le, Nat.sub_zero, Int.reduceEq, Int.reduceNe, Int.reduceLT, Int.reduceLE, Int.reduceAdd, Int.reduceSub, Int.reduceMul, Int.reduceNeg, Int.reduceTDiv, Int.reduceTMod, ne_eq, reduceCtorEq, Nat.reduceEqDiff, Int.cast_ofNat_Int, true_or, or_true, false_or, or_false, lcq_0, lcq_2, lcq_3, lcq_4, lcq_5, wu_s, wu_1, wu_w, wu_lt, wu_ne, ar_s, ar_n, rr_s, rr_n, ob_n, nz_c, lt_T, lt_F, le_T, le_F, ie_T, ie_F, nt_T, nt_F, nl_T, nl_F, in_T, and_false, false_and, and_self, not_true_eq_false, Int.toNat_natCast, Int.reduceToNat, if_true, if_false, mi_28, i28_0, i28_1, i28_3, i28_4, i28_5, i28_6, i28_8, i28_9, i28_10, i28_11, i28_14, i28_15, i28_17, i28_20, i28_21, i28_24, i28_25, i28_27, i28_30, i28_31, i28_34, i28_35, tm10, td10, eq_false d1, eq_false d2, eq_false d3, eq_false d4]
theorem x_beside (hx : x < 100) (hw : w < 4) : Gm 29 [vi (x : Int), vi (w : Int)] W Q ↔ Q (some (vi (bes x w))) W := by
  rw [e29]
  rcases (show w = 0 ∨ w = 1 ∨ w = 2 ∨ w = 3 by omega) with rfl | rfl | rfl | rfl
  · by_cases c : x / 10 = 0
    · rw [show bes x 0 = -1 from if_pos c]
      simp (disch := omega) only [s_1, s_2, s_3, s_4, s_76, s_5, s_6, s_7, s_8, s_9, s_10, s_11, s_12, s_13, s_14, s_15, s_16, s_17, s_18, s_19, s_20, s_21, s_22, s_23, s_24, s_25, s_26, s_27, s_28, s_29, s_30, s_31, s_32, s_33, s_34, s_35, s_36, s_37, s_38, s_39, s_40l, s_40i, s_40r, s_41, s_43, t_44, t_45, t_46, t_47, s_48, s_49, s_50, s_51, s_52, s_53, s_54, s_55, s_56, s_57, s_58, s_59, s_60, s_61, s_62_0, s_62_1, s_62_2, s_66, s_67, s_68, s_69, s_70, s_71, s_72, s_73, sws_n, sws_c, lget, lset, fget, fset, nolg, nolong, avc, stw, cnd, isobj_eo, GCi, GCn, retk, List.length_cons, List.length_nil, ↓reduceIte, and_true, true_and, not_true_eq_false, not_false_eq_true, forall_const, Nat.reduceAdd, Nat.reduceLT, Nat.reduceLeDiff, Nat.lt_add_one, Nat.le_refl, Nat.zero_le, Nat.sub_zero, Int.reduceEq, Int.reduceNe, Int.reduceLT, Int.reduceLE, Int.reduceAdd, Int.reduceSub, Int.reduceMul, Int.reduceNeg, Int.reduceTDiv, Int.reduceTMod, ne_eq, reduceCtorEq, Nat.reduceEqDiff, Int.cast_ofNat_Int, true_or, or_true, false_or, or_false, lcq_0, lcq_2, lcq_3, lcq_4, lcq_5, wu_s, wu_1, wu_w, wu_lt, wu_ne, ar_s, ar_n, rr_s, rr_n, ob_n, nz_c, lt_T, lt_F, le_T, le_F, ie_T, ie_F, nt_T, nt_F, nl_T, nl_F, in_T, and_false, false_and, and_self, not_true_eq_false, Int.toNat_natCast, Int.reduceToNat, if_true, if_false, mi_29, i29_0, i29_1, i29_3, i29_4, i29_5, i29_6, i29_8, i29_9, i29_10, i29_11, i29_36, i29_37, i29_40, i29_42, i29_43, i29_44, i29_46, i29_47, i29_50, i29_51, i29_52, i29_53, i29_55, i29_58, i29_60, i29_61, i29_62, i29_63, i29_64, i29_67, i29_68, i29_69, i29_70, i29_72, i29_75, i29_77, i29_78, i29_79, i29_82, i29_83, i29_84, i29_85, i29_88, i29_90, i29_91, i29_92, i29_93, i29_94, i29_95, i29_96, i29_99, i29_100, tm10, td10, show ((0 : Nat) : Int) = 0 from rfl]
    · rw [show bes x 0 = 90 + (x : Int) - 10 from if_neg c]
      simp (disch := omega) only [s_1, s_2, s_3, s_4, s_76, s_5, s_6, s_7, s_8, s_9, s_10, s_11, s_12, s_13, s_14, s_15, s_16, s_17, s_18, s_19, s_20, s_21, s_22, s_23, s_24, s_25, s_26, s_27, s_28, s_29, s_30, s_31, s_32, s_33, s_34, s_35, s_36, s_37, s_38, s_39, s_40l, s_40i, s_40r, s_41, s_43, t_44, t_45, t_46, t_47, s_48, s_49, s_50, s_51, s_52, s_53, s_54, s_55, s_56, s_57, s_58, s_59, s_60, s_61, s_62_0, s_62_1, s_62_2, s_66, s_67, s_68, s_69, s_70, s_71, s_72, s_73, sws_n, sws_c, lget, lset, fget, fset, nolg, nolong, avc, stw, cnd, isobj_eo, GCi, GCn, retk, List.length_cons, List.length_nil, ↓reduceIte, and_true, true_and, not_true_eq_false, not_false_eq_true, forall_const, Nat.reduceAdd, Nat.reduceLT, Nat.reduceLeDiff, Nat.lt_add_one, Nat.le_refl, Nat.zero_le, Nat.sub_zero, Int.reduceEq, Int.reduceNe, Int.reduceLT, Int.reduceLE, Int.reduceAdd, Int.reduceSub, Int.reduceMul, Int.reduceNeg, Int.reduceTDiv, Int.reduceTMod, ne_eq, reduceCtorEq, Nat.reduceEqDiff, Int.cast_ofNat_Int, true_or, or_true, false_or, or_false, lcq_0, lcq_2, lcq_3, lcq_4, lcq_5, wu_s, wu_1, wu_w, wu_lt, wu_ne, ar_s, ar_n, rr_s, rr_n, ob_n, nz_c, lt_T, lt_F, le_T, le_F, ie_T, ie_F, nt_T, nt_F, nl_T, nl_F, in_T, and_false, false_and, and_self, not_true_eq_false, Int.toNat_natCast, Int.reduceToNat, if_true, if_false, mi_29, i29_0, i29_1, i29_3, i29_4, i29_5, i29_6, i29_8, i29_9, i29_10, i29_11, i29_36, i29_37, i29_40, i29_42, i29_43, i29_44, i29_46, i29_47, i29_50, i29_51, i29_52, i29_53, i29_55, i29_58, i29_60, i29_61, i29_62, i29_63, i29_64, i29_67, i29_68, i29_69, i29_70, i29_72, i29_75, i29_77, i29_78, i29_79, i29_82, i29_83, i29_84, i29_85, i29_88, i29_90, i29_91, i29_92, i29_93, i29_94, i29_95, i29_96, i29_99, i29_100, tm10, td10, show ((0 : Nat) : Int) = 0 from rfl]
  · by_cases c : x % 10 = 9
    · rw [show bes x 1 = -1 from if_pos c]
      simp (disch := omega) only [s_1, s_2, s_3, s_4, s_76, s_5, s_6, s_7, s_8, s_9, s_10, s_11, s_12, s_13, s_14, s_15, s_16, s_17, s_18, s_19, s_20, s_21, s_22, s_23, s_24, s_25, s_26, s_27, s_28, s_29, s_30, s_31, s_32, s_33, s_34, s_35, s_36, s_37, s_38, s_39, s_40l, s_40i, s_40r, s_41, s_43, t_44, t_45, t_46, t_47, s_48, s_49, s_50, s_51, s_52, s_53, s_54, s_55, s_56, s_57, s_58, s_59, s_60, s_61, s_62_0, s_62_1, s_62_2, s_66, s_67, s_68, s_69, s_70, s_71, s_72, s_73, sws_n, sws_c, lget, lset, fget, fset, nolg, nolong, avc, stw, cnd, isobj_eo, GCi, GCn, retk, List.length_cons, List.length_nil, ↓reduceIte, and_true, true_and, not_true_eq_false, not_false_eq_true, forall_const, Nat.reduceAdd, Nat.reduceLT, Nat.reduceLeDiff, Nat.lt_add_one, Nat.le_refl, Nat.zero_le, Nat.sub_zero, Int.reduceEq, Int.reduceNe, Int.reduceLT, Int.reduceLE, Int.reduceAdd, Int.reduceSub, Int.reduceMul, Int.reduceNeg, Int.reduceTDiv, Int.reduceTMod, ne_eq, reduceCtorEq, Nat.reduceEqDiff, Int.cast_ofNat_Int, true_or, or_true, false_or, or_false, lcq_0, lcq_2, lcq_3, lcq_4, lcq_5, wu_s, wu_1, wu_w, wu_lt, wu_ne, ar_s, ar_n, rr_s, rr_n, ob_n, nz_c, lt_T, lt_F, le_T, le_F, ie_T, ie_F, nt_T, nt_F, nl_T, nl_F, in_T, and_false, false_and, and_self, not_true_eq_false, Int.toNat_natCast, Int.reduceToNat, if_true, if_false, mi_29, i29_0, i29_1, i29_3, i29_4, i29_5, i29_6, i29_8, i29_9, i29_10, i29_11, i29_36, i29_37, i29_40, i29_42, i29_43, i29_44, i29_46, i29_47, i29_50, i29_51, i29_52, i29_53, i29_55, i29_58, i29_60, i29_61, i29_62, i29_63, i29_64, i29_67, i29_68, i29_69, i29_70, i29_72, i29_75, i29_77, i29_78, i29_79, i29_82, i29_83, i29_84, i29_85, i29_88, i29_90, i29_91, i29_92, i29_93, i29_94, i29_95, i29_96, i29_99, i29_100, tm10, td10, show ((1 : Nat) : Int) = 1 from rfl]
    · rw [show bes x 1 = 9 * ((x / 10 : Nat) : Int) + ((x % 10 : Nat) : Int) from if_neg c]
      simp (disch := omega) only [s_1, s_2, s_3, s_4, s_76, s_5, s_6, s_7, s_8, s_9, s_10, s_11, s_12, s_13, s_14, s_15, s_16, s_17, s_18, s_19, s_20, s_21, s_22, s_23, s_24, s_25, s_26, s_27, s_28, s_29, s_30, s_31, s_32, s_33, s_34, s_35, s_36, s_37, s_38, s_39, s_40l, s_40i, s_40r, s_41, s_43, t_44, t_45, t_46, t_47, s_48, s_49, s_50, s_51, s_52, s_53, s_54, s_55, s_56, s_57, s_58, s_59, s_60, s_61, s_62_0, s_62_1, s_62_2, s_66, s_67, s_68, s_69, s_70, s_71, s_72, s_73, sws_n, sws_c, lget, lset, fget, fset, nolg, nolong, avc, stw, cnd, isobj_eo, GCi, GCn, retk, List.length_cons, List.length_nil, ↓reduceIte, and_true, true_and, not_true_eq_false, not_false_eq_true, forall_const, Nat.reduceAdd, Nat.reduceLT, Nat.reduceLeDiff, Nat.lt_add_one, Nat.le_refl, Nat.zero_le, Nat.sub_zero, Int.reduceEq, Int.reduceNe, Int.reduceLT, Int.reduceLE, Int.reduceAdd, Int.reduceSub, Int.reduceMul, Int.reduceNeg, Int.reduceTDiv, Int.reduceTMod, ne_eq, reduceCtorEq, Nat.reduceEqDiff, Int.cast_ofNat_Int, true_or, or_true, false_or, or_false, lcq_0, lcq_2, lcq_3, lcq_4, lcq_5, wu_s, wu_1, wu_w, wu_lt, wu_ne, ar_s, ar_n, rr_s, rr_n, ob_n, nz_c, lt_T, lt_F, le_T, le_F, ie_T, ie_F, nt_T, nt_F, nl_T, nl_F, in_T, and_false, false_and, and_self, not_true_eq_false, Int.toNat_natCast, Int.reduceToNat, if_true, if_false, mi_29, i29_0, i29_1, i29_3, i29_4, i29_5, i29_6, i29_8, i29_9, i29_10, i29_11, i29_36, i29_37, i29_40, i29_42, i29_43, i29_44, i29_46, i29_47, i29_50, i29_51, i29_52, i29_53, i29_55, i29_58, i29_60, i29_61, i29_62, i29_63, i29_64, i29_67, i29_68, i29_69, i29_70, i29_72, i29_75, i29_77, i29_78, i29_79, i29_82, i29_83, i29_84, i29_85, i29_88, i29_90, i29_91, i29_92, i29_93, i29_94, i29_95, i29_96, i29_99, i29_100, tm10, td10, show ((1 : Nat) : Int) = 1 from rfl]
  · by_cases c : x / 10 = 9
    · rw [show bes x 2 = -1 from if_pos c]
      simp (disch := omega) only [s_1, s_2, s_3, s_4, s_76, s_5, s_6, s_7, s_8, s_9, s_10, s_11, s_12, s_13, s_14, s_15, s_16, s_17, s_18, s_19, s_20, s_21, s_22, s_23, s_24, s_25, s_26, s_27, s_28, s_29, s_30, s_31, s_32, s_33, s_34, s_35, s_36, s_37, s_38, s_39, s_40l, s_40i, s_40r, s_41, s_43, t_44, t_45, t_46, t_47, s_48, s_49, s_50, s_51, s_52, s_53, s_54, s_55, s_56, s_57, s_58, s_59, s_60, s_61, s_62_0, s_62_1, s_62_2, s_66, s_67, s_68, s_69, s_70, s_71, s_72, s_73, sws_n, sws_c, lget, lset, fget, fset, nolg, nolong, avc, stw, cnd, isobj_eo, GCi, GCn, retk, List.length_cons, List.length_nil, ↓reduceIte, and_true, true_and, not_true_eq_false, not_false_eq_true, forall_const, Nat.reduceAdd, Nat.reduceLT, Nat.reduceLeDiff, Nat.lt_add_one, Nat.le_refl, Nat.zero_le, Nat.sub_zero, Int.reduceEq, Int.reduceNe, Int.reduceLT, Int.reduceLE, Int.reduceAdd, Int.reduceSub, Int.reduceMul, Int.reduceNeg, Int.reduceTDiv, Int.reduceTMod, ne_eq, reduceCtorEq, Nat.reduceEqDiff, Int.cast_ofNat_Int, true_or, or_true, false_or, or_false, lcq_0, lcq_2, lcq_3, lcq_4, lcq_5, wu_s, wu_1, wu_w, wu_lt, wu_ne, ar_s, ar_n, rr_s, rr_n, ob_n, nz_c, lt_T, lt_F, le_T, le_F, ie_T, ie_F, nt_T, nt_F, nl_T, nl_F, in_T, and_false, false_and, and_self, not_true_eq_false, Int.toNat_natCast, Int.reduceToNat, if_true, if_false, mi_29, i29_0, i29_1, i29_3, i29_4, i29_5, i29_6, i29_8, i29_9, i29_10, i29_11, i29_36, i29_37, i29_40, i29_42, i29_43, i29_44, i29_46, i29_47, i29_50, i29_51, i29_52, i29_53, i29_55, i29_58, i29_60, i29_61, i29_62, i29_63, i29_64, i29_67, i29_68, i29_69, i29_70, i29_72, i29_75, i29_77, i29_78, i29_79, i29_82, i29_83, i29_84, i29_85, i29_88, i29_90, i29_91, i29_92, i29_93, i29_94, i29_95, i29_96, i29_99, i29_100, tm10, td10, show ((2 : Nat) : Int) = 2 from rfl]
    · rw [show bes x 2 = 90 + (x : Int) from if_neg c]
      simp (disch := omega) only [s_1, s_2, s_3, s_4, s_76, s_5, s_6, s_7, s_8, s_9, s_10, s_11, s_12, s_13, s_14, s_15, s_16, s_17, s_18, s_19, s_20, s_21, s_22, s_23, s_24, s_25, s_26, s_27, s_28, s_29, s_30, s_31, s_32, s_33, s_34, s_35, s_36, s_37, s_38, s_39, s_40l, s_40i, s_40r, s_41, s_43, t_44, t_45, t_46, t_47, s_48, s_49, s_50, s_51, s_52, s_53, s_54, s_55, s_56, s_57, s_58, s_59, s_60, s_61, s_62_0, s_62_1, s_62_2, s_66, s_67, s_68, s_69, s_70, s_71, s_72, s_73, sws_n, sws_c, lget, lset, fget, fset, nolg, nolong, avc, stw, cnd, isobj_eo, GCi, GCn, retk, List.length_cons, List.length_nil, ↓reduceIte, and_true, true_and, not_true_eq_false, not_false_eq_true, forall_const, Nat.reduceAdd, Nat.reduceLT, Nat.reduceLeDiff, Nat.lt_add_one, Nat.le_refl, Nat.zero_le, Nat.sub_zero, Int.reduceEq, Int.reduceNe, Int.reduceLT, Int.reduceLE, Int.reduceAdd, Int.reduceSub, Int.reduceMul, Int.reduceNeg, Int.reduceTDiv, Int.reduceTMod, ne_eq, reduceCtorEq, Nat.reduceEqDiff, Int.cast_ofNat_Int, true_or, or_true, false_or, or_false, lcq_0, lcq_2, lcq_3, lcq_4, lcq_5, wu_s, wu_1, wu_w, wu_lt, wu_ne, ar_s, ar_n, rr_s, rr_n, ob_n, nz_c, lt_T, lt_F, le_T, le_F, ie_T, ie_F, nt_T, nt_F, nl_T, nl_F, in_T, and_false, false_and, and_self, not_true_eq_false, Int.toNat_natCast, Int.reduceToNat, if_true, if_false, mi_29, i29_0, i29_1, i29_3, i29_4, i29_5, i29_6, i29_8, i29_9, i29_10, i29_11, i29_36, i29_37, i29_40, i29_42, i29_43, i29_44, i29_46, i29_47, i29_50, i29_51, i29_52, i29_53, i29_55, i29_58, i29_60, i29_61, i29_62, i29_63, i29_64, i29_67, i29_68, i29_69, i29_70, i29_72, i29_75, i29_77, i29_78, i29_79, i29_82, i29_83, i29_84, i29_85, i29_88, i29_90, i29_91, i29_92, i29_93, i29_94, i29_95, i29_96, i29_99, i29_100, tm10, td10, show ((2 : Nat) : Int) = 2 from rfl]
  · by_cases c : x % 10 = 0
    · rw [show bes x 3 = -1 from if_pos c]
      simp (disch := omega) only [s_1, s_2, s_3, s_4, s_76, s_5, s_6, s_7, s_8, s_9, s_10, s_11, s_12, s_13, s_14, s_15, s_16, s_17, s_18, s_19, s_20, s_21, s_22, s_23, s_24, s_25, s_26, s_27, s_28, s_29, s_30, s_31, s_32, s_33, s_34, s_35, s_36, s_37, s_38, s_39, s_40l, s_40i, s_40r, s_41, s_43, t_44, t_45, t_46, t_47, s_48, s_49, s_50, s_51, s_52, s_53, s_54, s_55, s_56, s_57, s_58, s_59, s_60, s_61, s_62_0, s_62_1, s_62_2, s_66, s_67, s_68, s_69, s_70, s_71, s_72, s_73, sws_n, sws_c, lget, lset, fget, fset, nolg, nolong, avc, stw, cnd, isobj_eo, GCi, GCn, retk, List.length_cons, List.length_nil, ↓reduceIte, and_true, true_and, not_true_eq_false, not_false_eq_true, forall_const, Nat.reduceAdd, Nat.reduceLT, Nat.reduceLeDiff, Nat.lt_add_one, Nat.le_refl, Nat.zero_le, Nat.sub_zero, Int.reduceEq, Int.reduceNe, Int.reduceLT, Int.reduceLE, Int.reduceAdd, Int.reduceSub, Int.reduceMul, Int.reduceNeg, Int.reduceTDiv, Int.reduceTMod, ne_eq, reduceCtorEq, Nat.reduceEqDiff, Int.cast_ofNat_Int, true_or, or_true, false_or, or_false, lcq_0, lcq_2, lcq_3, lcq_4, lcq_5, wu_s, wu_1, wu_w, wu_lt, wu_ne, ar_s, ar_n, rr_s, rr_n, ob_n, nz_c, lt_T, lt_F, le_T, le_F, ie_T, ie_F, nt_T, nt_F, nl_T, nl_F, in_T, and_false, false_and, and_self, not_true_eq_false, Int.toNat_natCast, Int.reduceToNat, if_true, if_false, mi_29, i29_0, i29_1, i29_3, i29_4, i29_5, i29_6, i29_8, i29_9, i29_10, i29_11, i29_36, i29_37, i29_40, i29_42, i29_43, i29_44, i29_46, i29_47, i29_50, i29_51, i29_52, i29_53, i29_55, i29_58, i29_60, i29_61, i29_62, i29_63, i29_64, i29_67, i29_68, i29_69, i29_70, i29_72, i29_75, i29_77, i29_78, i29_79, i29_82, i29_83, i29_84, i29_85, i29_88, i29_90, i29_91, i29_92, i29_93, i29_94, i29_95, i29_96, i29_99, i29_100, tm10, td10, show ((3 : Nat) : Int) = 3 from rfl]
    · rw [show bes x 3 = 9 * ((x / 10 : Nat) : Int) + ((x % 10 : Nat) : Int) - 1 from if_neg c]
      simp (disch := omega) only [s_1, s_2, s_3, s_4, s_76, s_5, s_6, s_7, s_8, s_9, s_10, s_11, s_12, s_13, s_14, s_15, s_16, s_17, s_18, s_19, s_20, s_21, s_22, s_23, s_24, s_25, s_26, s_27, s_28, s_29, s_30, s_31, s_32, s_33, s_34, s_35, s_36, s_37, s_38, s_39, s_40l, s_40i, s_40r, s_41, s_43, t_44, t_45, t_46, t_47, s_48, s_49, s_50, s_51, s_52, s_53, s_54, s_55, s_56, s_57, s_58, s_59, s_60, s_61, s_62_0, s_62_1, s_62_2, s_66, s_67, s_68, s_69, s_70, s_71, s_72, s_73, sws_n, sws_c, lget, lset, fget, fset, nolg, nolong, avc, stw, cnd, isobj_eo, GCi, GCn, retk, List.length_cons, List.length_nil, ↓reduceIte, and_true, true_and, not_true_eq_false, not_false_eq_true, forall_const, Nat.reduceAdd, Nat.reduceLT, Nat.reduceLeDiff, Nat.lt_add_one, Nat.le_refl, Nat.zero_le, Nat.sub_zero, Int.reduceEq, Int.reduceNe, Int.reduceLT, Int.reduceLE, Int.reduceAdd, Int.reduceSub, Int.reduceMul, Int.reduceNeg, Int.reduceTDiv, Int.reduceTMod, ne_eq, reduceCtorEq, Nat.reduceEqDiff, Int.cast_ofNat_Int, true_or, or_true, false_or, or_false, lcq_0, lcq_2, lcq_3, lcq_4, lcq_5, wu_s, wu_1, wu_w, wu_lt, wu_ne, ar_s, ar_n, rr_s, rr_n, ob_n, nz_c, lt_T, lt_F, le_T, le_F, ie_T, ie_F, nt_T, nt_F, nl_T, nl_F, in_T, and_false, false_and, and_self, not_true_eq_false, Int.toNat_natCast, Int.reduceToNat, if_true, if_false, mi_29, i29_0, i29_1, i29_3, i29_4, i29_5, i29_6, i29_8, i29_9, i29_10, i29_11, i29_36, i29_37, i29_40, i29_42, i29_43, i29_44, i29_46, i29_47, i29_50, i29_51, i29_52, i29_53, i29_55, i29_58, i29_60, i29_61, i29_62, i29_63, i29_64, i29_67, i29_68, i29_69, i29_70, i29_72, i29_75, i29_77, i29_78, i29_79, i29_82, i29_83, i29_84, i29_85, i29_88, i29_90, i29_91, i29_92, i29_93, i29_94, i29_95, i29_96, i29_99, i29_100, tm10, td10, show ((3 : Nat) : Int) = 3 from rfl]
theorem x_otherC {e c : Int} (hC : CS W) (h0 : 0 ≤ e) (h1 : e < 180) : Gm 31 [vr 68, vi e, vi c] W Q ↔ Q (some (vi (if efc e = c then eoc e else efc e))) W := by
  have hw : 192 ≤ W.1 := hC.1
  rw [e31]
  by_cases c1 : efc e = c
  · rw [if_pos c1]
    simp (disch := omega) only [s_1, s_2, s_3, s_4, s_76, s_5, s_6, s_7, s_8, s_9, s_10, s_11, s_12, s_13, s_14, s_15, s_16, s_17, s_18, s_19, s_20, s_21, s_22, s_23, s_24, s_25, s_26, s_27, s_28, s_29, s_30, s_31, s_32, s_33, s_34, s_35, s_36, s_37, s_38, s_39, s_40l, s_40i, s_40r, s_41, s_43, t_44, t_45, t_46, t_47, s_48, s_49, s_50, s_51, s_52, s_53, s_54, s_55, s_56, s_57, s_58, s_59, s_60, s_61, s_62_0, s_62_1, s_62_2, s_66, s_67, s_68, s_69, s_70, s_71, s_72, s_73, sws_n, sws_c, lget, lset, fget, fset, nolg, nolong, avc, stw, cnd, isobj_eo, GCi, GCn, retk, List.length_cons, List.length_nil, ↓reduceIte, and_true, true_and, not_true_eq_false, not_false_eq_true, forall_const, Nat.reduceAdd, Nat.reduceLT, Nat.reduceLeDiff, Nat.lt_add_one, Nat.le_refl, Nat.zero_le, Nat.sub_zero, Int.reduceEq, Int.reduceNe, Int.reduceLT, Int.reduceLE, Int.reduceAdd, Int.reduceSub, Int.reduceMul, Int.reduceNeg, Int.reduceTDiv, Int.reduceTMod, ne_eq, reduceCtorEq, Nat.reduceEqDiff, Int.cast_ofNat_Int, true_or, or_true, false_or, or_false, lcq_0, lcq_2, lcq_3, lcq_4, lcq_5, wu_s, wu_1, wu_w, wu_lt, wu_ne, ar_s, ar_n, rr_s, rr_n, ob_n, nz_c, lt_T, lt_F, le_T, le_F, ie_T, ie_F, nt_T, nt_F, nl_T, nl_F, in_T, and_false, false_and, and_self, not_true_eq_false, Int.toNat_natCast, Int.reduceToNat, if_true, if_false, mi_31, i31_0, i31_1, i31_4, i31_5, i31_6, i31_7, i31_10, i31_11, i31_14, i31_15, i31_16, i31_19, i31_20, i31_23, i31_24, i31_25, g1_0, g1_1, ca_68 hC, ca_69 hC, ca_70 hC, tg_fi h0 h1, tg_se h0 h1, eq_true c1]
  · rw [if_neg c1]
    simp (disch := omega) only [s_1, s_2, s_3, s_4, s_76, s_5, s_6, s_7, s_8, s_9, s_10, s_11, s_12, s_13, s_14, s_15, s_16, s_17, s_18, s_19, s_20, s_21, s_22, s_23, s_24, s_25, s_26, s_27, s_28, s_29, s_30, s_31, s_32, s_33, s_34, s_35, s_36, s_37, s_38, s_39, s_40l, s_40i, s_40r, s_41, s_43, t_44, t_45, t_46, t_47, s_48, s_49, s_50, s_51, s_52, s_53, s_54, s_55, s_56, s_57, s_58, s_59, s_60, s_61, s_62_0, s_62_1, s_62_2, s_66, s_67, s_68, s_69, s_70, s_71, s_72, s_73, sws_n, sws_c, lget, lset, fget, fset, nolg, nolong, avc, stw, cnd, isobj_eo, GCi, GCn, retk, List.length_cons, List.length_nil, ↓reduceIte, and_true, true_and, not_true_eq_false, not_false_eq_true, forall_const, Nat.reduceAdd, Nat.reduceLT, Nat.reduceLeDiff, Nat.lt_add_one, Nat.le_refl, Nat.zero_le, Nat.sub_zero, Int.reduceEq, Int.reduceNe, Int.reduceLT, Int.reduceLE, Int.reduceAdd, Int.reduceSub, Int.reduceMul, Int.reduceNeg, Int.reduceTDiv, Int.reduceTMod, ne_eq, reduceCtorEq, Nat.reduceEqDiff, Int.cast_ofNat_Int, true_or, or_true, false_or, or_false, lcq_0, lcq_2, lcq_3, lcq_4, lcq_5, wu_s, wu_1, wu_w, wu_lt, wu_ne, ar_s, ar_n, rr_s, rr_n, ob_n, nz_c, lt_T, lt_F, le_T, le_F, ie_T, ie_F, nt_T, nt_F, nl_T, nl_F, in_T, and_false, false_and, and_self, not_true_eq_false, Int.toNat_natCast, Int.reduceToNat, if_true, if_false, mi_31, i31_0, i31_1, i31_4, i31_5, i31_6, i31_7, i31_10, i31_11, i31_14, i31_15, i31_16, i31_19, i31_20, i31_23, i31_24, i31_25, g1_0, g1_1, ca_68 hC, ca_69 hC, ca_70 hC, tg_fi h0 h1, tg_se h0 h1, eq_false c1]
end GEO
-- one room
theorem sm_1N : ∀ N : Nat, sm (fun _ => 1) N = N
  | 0 => rfl
  | N + 1 => by
    show sm (fun _ => 1) N + 1 = _
    rw [sm_1N N]
    omega
theorem sm_u1N {f : Nat → Int} {a N : Nat} (hf : ∀ i, f i ≤ 1) (ha : a < N) (fa : f a ≤ 0) : sm f N ≤ (N : Int) - 1 := by
  have h := sm_lt (f := f) (g := fun _ => 1) (i := a) N (fun i _ => hf i) ha (by show f a < 1; omega)
  rw [sm_1N] at h
  omega
noncomputable def siz (L : Nat → Int) (r : Nat) : Int := sm (fun x => bi (L x = (r : Int))) 100
def rimP (L : Nat → Int) (r : Nat) : Prop := ∃ x, x < 100 ∧ L x = (r : Int) ∧ rm x
/-- rooms of the cells below c are found -/
def SuI (t : Nat → Int) (c : Nat) (L : Nat → Int) : Prop := (∀ x : Nat, x < 100 → L x = -1 ∨ (0 ≤ L x ∧ L x ≤ x ∧ L x < c ∧ Cn t x (L x).toNat)) ∧ (∀ x y, Aj t x y → ¬ L x = -1 → L y = L x) ∧ (∀ x, x < c → ¬ L x = -1)
/-- one room: n cells found, k of them, and b ways of the next, looked at -/
def FiI (t L0 : Nat → Int) (c k b n : Nat) (L q : Nat → Int) : Prop := (∀ x : Nat, x < 100 → (¬ L0 x = -1 → L x = L0 x) ∧ (L0 x = -1 → L x = -1 ∨ (L x = (c : Int) ∧ Cn t x c ∧ ∃ j, j < n ∧ q j = (x : Int)))) ∧ (1 ≤ n ∧ q 0 = (c : Int)) ∧ (∀ j, j < n → ∃ y : Nat, q j = (y : Int) ∧ y < 100 ∧ L0 y = -1 ∧ L y = (c : Int)) ∧ ((n : Int) = siz L c) ∧ (∀ j y w : Nat, j < n → q j = (y : Int) → w < 4 → (j < k ∨ (j = k ∧ w < b)) → ¬ bes y w = -1 → t (bes y w).toNat = -1 → L (nb y w) = (c : Int))
section FII
variable {t L0 L q : Nat → Int} {c k b n y o : Nat}
theorem FiI.nub (h : FiI t L0 c k b n L q) : n ≤ 100 := by
  have := sm_bi (p := fun x => L x = (c : Int)) 100
  have e := h.2.2.2.1
  unfold siz at e
  omega
theorem FiI.nub2 (h : FiI t L0 c k b n L q) (ho : o < 100) (hL : L o = -1) : n < 100 := by
  have := sm_u1N (f := fun x => bi (L x = (c : Int))) (a := o) (N := 100) (fun i => bi_b.2) ho (by show bi (L o = (c : Int)) ≤ 0; rw [bi_n (by omega)]; decide)
  have e := h.2.2.2.1
  unfold siz at e
  omega
theorem FiI.skq (h : FiI t L0 c k b n L q) (hy : q k = (y : Int)) (hn : ¬ bes y b = -1 → t (bes y b).toNat = -1 → L (nb y b) = (c : Int)) : FiI t L0 c k (b + 1) n L q := by
  obtain ⟨a1, a2, a3, a4, a5⟩ := h
  refine ⟨a1, a2, a3, a4, fun j y' w hj hr hw hq hb ht => ?_⟩
  by_cases c0 : j = k ∧ w = b
  · obtain ⟨c1, c2⟩ := c0
    have e : y' = y := by rw [c1] at hr; omega
    rw [e, c2] at hb ht ⊢
    exact hn hb ht
  · exact a5 j y' w hj hr hw (by omega) hb ht
/-- a neighbour that has a room has this one -/
theorem FiI.old (h : FiI t L0 c k b n L q) (hS : SuI t c L0) (hk : k < n) (hb : b < 4) (hy : q k = (y : Int)) (h1 : ¬ bes y b = -1) (h2 : t (bes y b).toNat = -1) (h3 : ¬ L (nb y b) = -1) : L (nb y b) = (c : Int) := by
  obtain ⟨a1, a2, a3, a4, a5⟩ := h
  obtain ⟨y', e1, e2, e3, e4⟩ := a3 k hk
  have e : y' = y := by omega
  subst e
  have hA := nb_aj e2 hb h1 h2
  obtain ⟨b1, b2⟩ := a1 (nb y' b) hA.bq.2
  by_cases c0 : L0 (nb y' b) = -1
  · rcases b2 c0 with q | q
    · exact absurd q h3
    · exact q.1
  · have := hS.2.1 _ _ hA.sy c0
    omega
theorem FiI.psh (h : FiI t L0 c k b n L q) (hk : k < n) (hb : b < 4) (hy : q k = (y : Int)) (h1 : ¬ bes y b = -1) (h2 : t (bes y b).toNat = -1) (ho : nb y b = o) (h3 : L o = -1) : FiI t L0 c k (b + 1) (n + 1) (fu L o (c : Int)) (fu q n (o : Int)) := by
  obtain ⟨a1, a2, a3, a4, a5⟩ := h
  obtain ⟨y', e1, e2, e3, e4⟩ := a3 k hk
  have e : y' = y := by omega
  subst e
  have hA := nb_aj e2 hb h1 h2
  rw [ho] at hA
  have ho1 := hA.bq.2
  have l0 : L0 o = -1 := Classical.byContradiction (fun z => by
    have := (a1 o ho1).1 z
    omega)
  have f1 : ∀ x, x ≠ o → fu L o (c : Int) x = L x := fun x hx => fu_ne _ _ hx
  have f2 : ∀ j, j < n → fu q n (o : Int) j = q j := fun j hj => fu_ne _ _ (by omega)
  have cy : Cn t y' c := by
    rcases (a1 y' e2).2 e3 with z | z
    · omega
    · exact z.2.1
  refine ⟨fun x hx => ⟨fun z => ?_, fun z => ?_⟩, ⟨by omega, by rw [f2 0 (by omega)]; exact a2.2⟩, fun j hj => ?_, ?_, fun j y2 w hj hr hw hq hb2 ht => ?_⟩
  · by_cases c0 : x = o
    · rw [c0] at z; exact absurd l0 z
    · rw [f1 x c0]; exact (a1 x hx).1 z
  · by_cases c0 : x = o
    · rw [c0, fu_eq]
      exact Or.inr ⟨rfl, Cn.cs hA.sy cy, n, by omega, fu_eq _ _ _⟩
    · rw [f1 x c0]
      rcases (a1 x hx).2 z with z1 | ⟨z1, z2, j, z3, z4⟩
      · exact Or.inl z1
      · exact Or.inr ⟨z1, z2, j, by omega, by rw [f2 j z3]; exact z4⟩
  · by_cases c0 : j = n
    · rw [c0, fu_eq]
      exact ⟨o, rfl, ho1, l0, fu_eq _ _ _⟩
    · rw [f2 j (by omega)]
      obtain ⟨y2, z1, z2, z3, z4⟩ := a3 j (by omega)
      refine ⟨y2, z1, z2, z3, ?_⟩
      rw [f1 y2 (fun z => by rw [z] at z4; omega)]
      exact z4
  · have hs := sm_up (f := fun x => bi (L x = (c : Int))) (g := fun x => bi (fu L o (c : Int) x = (c : Int))) (o := o) 100 (fun x _ z => by
      show bi (fu L o (c : Int) x = (c : Int)) = bi (L x = (c : Int))
      rw [f1 x z])
    rw [if_pos ho1] at hs
    have g1 : bi (fu L o (c : Int) o = (c : Int)) = 1 := bi_p (fu_eq _ _ _)
    have g2 : bi (L o = (c : Int)) = 0 := bi_n (by omega)
    rw [g1, g2] at hs
    unfold siz at a4 ⊢
    rw [hs]
    omega
  · by_cases c1 : nb y2 w = o
    · rw [c1, fu_eq]
    · rw [f1 _ c1]
      by_cases c2 : j = n
      · omega
      · rw [f2 j (by omega)] at hr
        by_cases c3 : j = k ∧ w = b
        · obtain ⟨d1, d2⟩ := c3
          have e : y2 = y' := by rw [d1] at hr; omega
          rw [e, d2] at c1
          exact absurd ho c1
        · exact a5 j y2 w (by omega) hr hw (by omega) hb2 ht
theorem FiI.row (h : FiI t L0 c k 4 n L q) : FiI t L0 c (k + 1) 0 n L q := by
  obtain ⟨a1, a2, a3, a4, a5⟩ := h
  exact ⟨a1, a2, a3, a4, fun j y w hj hr hw hq => a5 j y w hj hr hw (by omega)⟩
theorem FiI.q0 (hc : c < 100) (hS : SuI t c L0) (h0 : L0 c = -1) : FiI t L0 c 0 0 1 (fu L0 c (c : Int)) (fu q 0 (c : Int)) := by
  have f1 : ∀ x, x ≠ c → fu L0 c (c : Int) x = L0 x := fun x hx => fu_ne _ _ hx
  refine ⟨fun x hx => ⟨fun z => ?_, fun z => ?_⟩, ⟨by decide, fu_eq _ _ _⟩, fun j hj => ⟨c, by rw [show j = 0 by omega, fu_eq], hc, h0, fu_eq _ _ _⟩, ?_, fun j y w hj hr hw hq => by omega⟩
  · by_cases c0 : x = c
    · rw [c0] at z; exact absurd h0 z
    · exact f1 x c0
  · by_cases c0 : x = c
    · rw [c0, fu_eq]; exact Or.inr ⟨rfl, Cn.rf, 0, by decide, fu_eq _ _ _⟩
    · rw [f1 x c0]; exact Or.inl z
  · have hs := sm_up (f := fun _ => 0) (g := fun x => bi (fu L0 c (c : Int) x = (c : Int))) (o := c) 100 (fun x hx z => by
      show bi (fu L0 c (c : Int) x = (c : Int)) = 0
      rw [f1 x z]
      exact bi_n (fun w => by
        rcases hS.1 x hx with q | q <;> omega))
    have g1 : bi (fu L0 c (c : Int) c = (c : Int)) = 1 := bi_p (fu_eq _ _ _)
    rw [if_pos hc, g1, sm_z] at hs
    unfold siz
    rw [hs]
    rfl
theorem FiI.fnq (h : FiI t L0 c n 0 n L q) (hS : SuI t c L0) (hc : c < 100) : SuI t (c + 1) L ∧ (∀ r, r < c → siz L r = siz L0 r ∧ (rimP L r ↔ rimP L0 r)) ∧ ((∃ j, j < n ∧ ∃ y : Nat, q j = (y : Int) ∧ rm y) ↔ rimP L c) ∧ (∀ r, r < c → (L r = (r : Int) ↔ L0 r = (r : Int))) := by
  obtain ⟨a1, a2, a3, a4, a5⟩ := h
  have same : ∀ (x r : Nat), x < 100 → r < c → (L x = (r : Int) ↔ L0 x = (r : Int)) := fun x r hx hr => by
    by_cases c0 : L0 x = -1
    · have := (a1 x hx).2 c0
      constructor
      · intro z; rcases this with w | w <;> omega
      · intro z; omega
    · rw [(a1 x hx).1 c0]
  refine ⟨⟨fun x hx => ?_, fun x y hA hx => ?_, fun x hx => ?_⟩, fun r hr => ⟨sm_c 100 (fun x hx => bi_c (same x r hx hr)), ?_⟩, ?_, fun r hr => same r r (by omega) hr⟩
  · by_cases c0 : L0 x = -1
    · rcases (a1 x hx).2 c0 with z | z
      · exact Or.inl z
      · refine Or.inr ?_
        have hcx : c ≤ x := Classical.byContradiction (fun w => hS.2.2 x (by omega) c0)
        rw [z.1, Int.toNat_natCast]
        exact ⟨by omega, by omega, by omega, z.2.1⟩
    · rw [(a1 x hx).1 c0]
      rcases hS.1 x hx with z | z
      · exact absurd z c0
      · exact Or.inr ⟨z.1, z.2.1, by omega, z.2.2.2⟩
  · have hb := hA.bq
    by_cases c0 : L0 x = -1
    · rcases (a1 x hb.1).2 c0 with z | ⟨z1, z2, j, z3, z4⟩
      · exact absurd z hx
      · obtain ⟨w, w1, w2, w3, w4⟩ := aj_nb hA
        have := a5 j x w z3 z4 w1 (Or.inl z3) w2 w3
        rw [w4] at this
        rw [this, z1]
    · have e := hS.2.1 x y hA c0
      rw [(a1 x hb.1).1 c0, (a1 y hb.2).1 (by rw [e]; exact c0), e]
  · by_cases c0 : x = c
    · obtain ⟨y, z1, z2, z3, z4⟩ := a3 0 (by omega)
      have e : y = c := by omega
      rw [c0, ← e, z4]
      omega
    · have := hS.2.2 x (by omega)
      rw [(a1 x (by omega)).1 this]
      exact this
  · exact ⟨fun ⟨x, h1, h2, h3⟩ => ⟨x, h1, (same x r h1 hr).mp h2, h3⟩, fun ⟨x, h1, h2, h3⟩ => ⟨x, h1, (same x r h1 hr).mpr h2, h3⟩⟩
  · constructor
    · intro ⟨j, hj, y, h1, h2⟩
      obtain ⟨y', z1, z2, z3, z4⟩ := a3 j hj
      have e : y' = y := by omega
      rw [e] at z2 z4
      exact ⟨y, z2, z4, h2⟩
    · intro ⟨x, h1, h2, h3⟩
      by_cases c0 : L0 x = -1
      · rcases (a1 x h1).2 c0 with z | ⟨z1, z2, j, z3, z4⟩
        · omega
        · exact ⟨j, z3, x, z4, h3⟩
      · rw [(a1 x h1).1 c0] at h2
        rcases hS.1 x h1 with z | z <;> omega
end FII
