-- CLAUSE of the reference
def cuI (sl : Int) (k : Nat) : Nat := if sl < 8 then [6, 7, 0, 1, 2, 3, 4, 5].getD k 5 else [8, 9].getD k 9
theorem cuI_b (sl : Int) (k : Nat) : cuI sl k < 30 := by
  unfold cuI
  split
  · by_cases c : k < 8
    · exact (show ∀ k, k < 8 → [6, 7, 0, 1, 2, 3, 4, 5].getD k 5 < 30 by decide) k c
    · rw [List.getD_eq_getElem?_getD, List.getElem?_eq_none (by show 8 ≤ k; omega)]
      decide
  · by_cases c : k < 2
    · exact (show ∀ k, k < 2 → [8, 9].getD k 9 < 30 by decide) k c
    · rw [List.getD_eq_getElem?_getD, List.getElem?_eq_none (by show 2 ≤ k; omega)]
      decide
section CLA
variable {W : AW} {Q : AQ} {o T : Nat → Int} {σ : GS} {n : Nat} {K D : Int}
theorem y_clauseOf {j : Nat} (hR : RS W) (h23 : 0 ≤ σ.1 23 ∧ σ.1 23 ≤ 15) (hj : j < (if σ.1 23 < 8 then 8 else 2)) : Gm 201 [vr 148, vi (j : Int)] (GW W σ o) Q ↔ Q (some (vr (6 + cuI (σ.1 23) j))) (GW W σ o) := by
  have hw : 192 ≤ W.1 := hR.1
  unfold cuI
  rw [e201]
  by_cases c0 : σ.1 23 < 8
  · rw [if_pos c0] at hj ⊢
    rcases (show j = 0 ∨ j = 1 ∨ j = 2 ∨ j = 3 ∨ j = 4 ∨ j = 5 ∨ j = 6 ∨ j = 7 by omega) with rfl | rfl | rfl | rfl | rfl | rfl | rfl | rfl
    all_goals
      simp (disch := omega) only [s_1, s_2, s_3, s_4, s_76, s_5, s_6, s_7, s_8, s_9, s_10, s_11, s_12, s_13, s_14, s_15, s_16, s_17, s_18, s_19, s_20, s_21, s_22, s_23, s_24, s_25, s_26, s_27, s_28, s_29, s_30, s_31, s_32, s_33, s_34, s_35, s_36, s_37, s_38, s_39, s_40l, s_40i, s_40r, s_41, s_43, t_44, t_45, t_46, t_47, s_48, s_49, s_50, s_51, s_52, s_53, s_54, s_55, s_56, s_57, s_58, s_59, s_60, s_61, s_62_0, s_62_1, s_62_2, s_66, s_67, s_68, s_69, s_70, s_71, s_72, s_73, sws_n, sws_c, lget, lset, fget, fset, nolg, nolong, avc, stw, cnd, isobj_eo, GCi, GCn, retk, List.length_cons, List.length_nil, ↓reduceIte, and_true, true_and, not_true_eq_false, not_false_eq_true, forall_const, Nat.reduceAdd, Nat.reduceLT, Nat.reduceLeDiff, Nat.lt_add_one, Nat.le_refl, Nat.zero_le, Nat.sub_zero, Int.reduceEq, Int.reduceNe, Int.reduceLT, Int.reduceLE, Int.reduceAdd, Int.reduceSub, Int.reduceMul, Int.reduceNeg, Int.reduceTDiv, Int.reduceTMod, ne_eq, reduceCtorEq, Nat.reduceEqDiff, Int.cast_ofNat_Int, true_or, or_true, false_or, or_false, lcq_0, lcq_2, lcq_3, lcq_4, lcq_5, wu_s, wu_1, wu_w, wu_lt, wu_ne, ar_s, ar_n, rr_s, rr_n, ob_n, nz_c, lt_T, lt_F, le_T, le_F, ie_T, ie_F, nt_T, nt_F, nl_T, nl_F, in_T, and_false, false_and, and_self, not_true_eq_false, Int.toNat_natCast, Int.reduceToNat, if_true, if_false, mi_201, i201_0, i201_1, i201_4, i201_6, i201_9, i201_10, i201_13, i201_16, i201_19, i201_22, i201_23, i201_24, i201_68, i201_71, i201_72, i201_75, i201_76, i201_79, i201_80, i201_83, i201_84, i201_87, i201_88, i201_91, i201_92, i201_95, i201_96, i201_99, g12_23, c0, Int.natCast_zero, show ((1 : Nat) : Int) = 1 from rfl, show ((2 : Nat) : Int) = 2 from rfl, show ((3 : Nat) : Int) = 3 from rfl, show ((4 : Nat) : Int) = 4 from rfl, show ((5 : Nat) : Int) = 5 from rfl, show ((6 : Nat) : Int) = 6 from rfl, show ((7 : Nat) : Int) = 7 from rfl]
      exact Iff.rfl
  · rw [if_neg c0] at hj ⊢
    rcases (show j = 0 ∨ j = 1 by omega) with rfl | rfl
    all_goals
      simp (disch := omega) only [s_1, s_2, s_3, s_4, s_76, s_5, s_6, s_7, s_8, s_9, s_10, s_11, s_12, s_13, s_14, s_15, s_16, s_17, s_18, s_19, s_20, s_21, s_22, s_23, s_24, s_25, s_26, s_27, s_28, s_29, s_30, s_31, s_32, s_33, s_34, s_35, s_36, s_37, s_38, s_39, s_40l, s_40i, s_40r, s_41, s_43, t_44, t_45, t_46, t_47, s_48, s_49, s_50, s_51, s_52, s_53, s_54, s_55, s_56, s_57, s_58, s_59, s_60, s_61, s_62_0, s_62_1, s_62_2, s_66, s_67, s_68, s_69, s_70, s_71, s_72, s_73, sws_n, sws_c, lget, lset, fget, fset, nolg, nolong, avc, stw, cnd, isobj_eo, GCi, GCn, retk, List.length_cons, List.length_nil, ↓reduceIte, and_true, true_and, not_true_eq_false, not_false_eq_true, forall_const, Nat.reduceAdd, Nat.reduceLT, Nat.reduceLeDiff, Nat.lt_add_one, Nat.le_refl, Nat.zero_le, Nat.sub_zero, Int.reduceEq, Int.reduceNe, Int.reduceLT, Int.reduceLE, Int.reduceAdd, Int.reduceSub, Int.reduceMul, Int.reduceNeg, Int.reduceTDiv, Int.reduceTMod, ne_eq, reduceCtorEq, Nat.reduceEqDiff, Int.cast_ofNat_Int, true_or, or_true, false_or, or_false, lcq_0, lcq_2, lcq_3, lcq_4, lcq_5, wu_s, wu_1, wu_w, wu_lt, wu_ne, ar_s, ar_n, rr_s, rr_n, ob_n, nz_c, lt_T, lt_F, le_T, le_F, ie_T, ie_F, nt_T, nt_F, nl_T, nl_F, in_T, and_false, false_and, and_self, not_true_eq_false, Int.toNat_natCast, Int.reduceToNat, if_true, if_false, mi_201, i201_0, i201_1, i201_4, i201_6, i201_9, i201_10, i201_13, i201_16, i201_19, i201_22, i201_23, i201_24, i201_68, i201_71, i201_72, i201_75, i201_76, i201_79, i201_80, i201_83, i201_84, i201_87, i201_88, i201_91, i201_92, i201_95, i201_96, i201_99, g12_23, c0, Int.natCast_zero, show ((1 : Nat) : Int) = 1 from rfl]
      exact Iff.rfl
theorem GW_171 {d : AE} : wu (GW W σ o) 171 d = GW (wu W 171 d) σ o := by
  show wu (wu (wu (wu (wu W 148 (o12 σ.1)) 168 (ea 0 4800 σ.2.1)) 169 (ea 0 4800 σ.2.2)) 176 (ea 0 402 o)) 171 d = wu (wu (wu (wu (wu W 171 d) 148 (o12 σ.1)) 168 (ea 0 4800 σ.2.1)) 169 (ea 0 4800 σ.2.2)) 176 (ea 0 402 o)
  rw [wu_lt (j := 176) (k := 171) (by decide), wu_lt (j := 171) (k := 148) (by decide), wu_lt (j := 171) (k := 168) (by decide), wu_lt (j := 171) (k := 169) (by decide)]
theorem GW_k {d : AE} {k : Nat} (h : 169 < k ∧ k < 176) : wu (GW W σ o) k d = GW (wu W k d) σ o := by
  show wu (wu (wu (wu (wu W 148 (o12 σ.1)) 168 (ea 0 4800 σ.2.1)) 169 (ea 0 4800 σ.2.2)) 176 (ea 0 402 o)) k d = wu (wu (wu (wu (wu W k d) 148 (o12 σ.1)) 168 (ea 0 4800 σ.2.1)) 169 (ea 0 4800 σ.2.2)) 176 (ea 0 402 o)
  rw [wu_lt (j := 176) (k := k) (by omega), wu_lt (j := k) (k := 148) (by omega), wu_lt (j := k) (k := 168) (by omega), wu_lt (j := k) (k := 169) (by omega)]
theorem TX.up {k l : Nat} {f : Nat → Int} (hx : TX W T n) (hk : 170 ≤ k ∧ k < 176) (hr : RS (wu W k (ea 0 l f))) : TX (wu W k (ea 0 l f)) T n := by
  refine ⟨hr, fun j a b => ?_, ?_, hx.2.2.2⟩
  · rw [wu_ne (by omega)]
    exact hx.2.1 j a b
  · rw [← hx.2.2.1]
    unfold ar
    rw [wu_ne (by omega)]
end CLA
