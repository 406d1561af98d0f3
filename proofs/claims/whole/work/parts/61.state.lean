-- FLOORS AS NUMBERS (draft, not built yet)
-- a floor: numbers (0 layers, 1 seed, 2 least, 3 greatest, 4 born, 5 ticks, 6 tears made), rows (0 wet, 1 shade, 2 salt, 3 grain, 4 scratch, 5 owner, 6 depth, 7 scar, 8 starts, 9 lengths, 10 since, 11 bends, 12 tipEnds, 13 tipNodes, 14 tipWays)
abbrev FLR : Type := (Nat → Int) × (Nat → Nat → Int)
def MudOf (W : AW) (m : Nat) (σ : FLR) : Prop := MudAt W m (σ.1 0) (σ.1 1) (σ.1 2) (σ.1 3) (σ.1 4) (σ.1 5) (σ.2 0) (σ.2 1) (σ.2 2) (σ.2 3) (σ.2 4) (σ.2 5) (σ.2 6) (σ.2 7) ∧ TearsAt W (m + 9) (σ.1 6) (σ.2 8) (σ.2 9) (σ.2 10) (σ.2 11) (σ.2 12) (σ.2 13) (σ.2 14)
theorem MudOf.cg {W W' : AW} {m : Nat} {σ : FLR} (h : MudOf W m σ) (hk : ∀ k, m ≤ k → k ≤ m + 16 → W'.2 k = W.2 k) : MudOf W' m σ := ⟨h.1.cg (fun k a b => hk k a (by omega)), h.2.cg (fun k a b => hk k (by omega) (by omega))⟩
section MUD
variable {W : AW} {m : Nat} {σ : FLR} {Q : AQ}
theorem m_isTorn (h : MudOf W m σ) (hW : m + 16 < W.1) {e : Int} (h0 : 0 ≤ e) (h1 : e < 180) : Gm 30 [vr m, vi e] W Q ↔ Q (some (vi (bi (σ.2 5 e.toNat ≠ -1)))) W := by
  obtain ⟨⟨a0, a1, a2, a3, a4, a5, a6, a7, a8⟩, -⟩ := h
  have w0 : m < W.1 := by omega
  have w6 : m + 6 < W.1 := by omega
  rw [e30]
  simp only [s_1, s_2, s_3, s_4, s_76, s_5, s_6, s_7, s_8, s_9, s_10, s_11, s_12, s_13, s_14, s_15, s_16, s_17, s_18, s_19, s_20, s_21, s_22, s_23, s_24, s_25, s_26, s_27, s_28, s_29, s_30, s_31, s_32, s_33, s_34, s_35, s_36, s_37, s_38, s_39, s_40l, s_40i, s_40r, s_41, s_43, t_44, t_45, t_46, t_47, s_48, s_49, s_50, s_51, s_52, s_53, s_54, s_55, s_56, s_57, s_58, s_59, s_60, s_61, s_62_0, s_62_1, s_62_2, s_66, s_67, s_68, s_69, s_70, s_71, s_72, s_73, sws_n, sws_c, lget, lset, fget, fset, nolg, nolong, avc, stw, cnd, isobj_eo, GCi, GCn, retk, List.length_cons, List.length_nil, ↓reduceIte, and_true, true_and, not_true_eq_false, not_false_eq_true, forall_const, Nat.reduceAdd, Nat.reduceLT, Nat.reduceLeDiff, Nat.lt_add_one, Nat.le_refl, Nat.zero_le, Nat.sub_zero, Int.reduceEq, Int.reduceNe, Int.reduceLT, Int.reduceLE, Int.reduceAdd, Int.reduceSub, Int.reduceMul, Int.reduceNeg, Int.reduceTDiv, Int.reduceTMod, ne_eq, reduceCtorEq, Nat.reduceEqDiff, Int.cast_ofNat_Int, true_or, or_true, false_or, or_false, lcq_0, lcq_2, lcq_3, lcq_4, lcq_5, mi_30, i30_0, i30_1, i30_4, i30_5, i30_6, i30_7, i30_10, i30_11, i30_14, i30_15, a0, a6, w0, w6, h0, h1]
  by_cases c : σ.2 5 e.toNat = -1
  · rw [if_pos c, bi_n (by simpa using c)]
  · rw [if_neg c, bi_p c]
end MUD
section CLS
variable {W : AW} {σ : FLR} {lc wc tl fb : Int} {Q : AQ}
theorem m_noFloor (hx : W.2 67 = cmo lc wc tl fb) (h : MudOf W 76 σ) (hW : 148 ≤ W.1) : Gm 21 [vr 67] W Q ↔ Q (some (vi (bi (σ.1 0 = 0)))) W := by
  have a0 := h.1.1
  have w0 : 67 < W.1 := by omega
  have w1 : 76 < W.1 := by omega
  rw [e21]
  simp only [s_1, s_2, s_3, s_4, s_76, s_5, s_6, s_7, s_8, s_9, s_10, s_11, s_12, s_13, s_14, s_15, s_16, s_17, s_18, s_19, s_20, s_21, s_22, s_23, s_24, s_25, s_26, s_27, s_28, s_29, s_30, s_31, s_32, s_33, s_34, s_35, s_36, s_37, s_38, s_39, s_40l, s_40i, s_40r, s_41, s_43, t_44, t_45, t_46, t_47, s_48, s_49, s_50, s_51, s_52, s_53, s_54, s_55, s_56, s_57, s_58, s_59, s_60, s_61, s_62_0, s_62_1, s_62_2, s_66, s_67, s_68, s_69, s_70, s_71, s_72, s_73, sws_n, sws_c, lget, lset, fget, fset, nolg, nolong, avc, stw, cnd, isobj_eo, GCi, GCn, retk, List.length_cons, List.length_nil, ↓reduceIte, and_true, true_and, not_true_eq_false, not_false_eq_true, forall_const, Nat.reduceAdd, Nat.reduceLT, Nat.reduceLeDiff, Nat.lt_add_one, Nat.le_refl, Nat.zero_le, Nat.sub_zero, Int.reduceEq, Int.reduceNe, Int.reduceLT, Int.reduceLE, Int.reduceAdd, Int.reduceSub, Int.reduceMul, Int.reduceNeg, Int.reduceTDiv, Int.reduceTMod, ne_eq, reduceCtorEq, Nat.reduceEqDiff, Int.cast_ofNat_Int, true_or, or_true, false_or, or_false, lcq_0, lcq_2, lcq_3, lcq_4, lcq_5, mi_21, i21_0, i21_1, i21_4, i21_7, i21_10, i21_11, i21_14, i21_15, hx, a0, w0, w1]
  by_cases c : σ.1 0 = 0
  · rw [if_neg (by simpa using c), bi_p c]
  · rw [if_pos c, bi_n c]
theorem m_isTear (hx : W.2 67 = cmo lc wc tl fb) (h : MudOf W 76 σ) (hW : 148 ≤ W.1) (hm : 0 ≤ σ.1 6 ∧ σ.1 6 ≤ 200) {t : Int} : Gm 125 [vr 67, vi t] W Q ↔ Q (some (vi (bi (0 ≤ t ∧ t ≤ σ.1 6 - 1)))) W := by
  have a0 := h.1.1
  have t0 := h.2.1
  have w0 : 67 < W.1 := by omega
  have w1 : 76 < W.1 := by omega
  have w2 : 85 < W.1 := by omega
  have hi : in32 (σ.1 6 - 1) := by unfold in32; omega
  rw [e125]
  simp only [s_1, s_2, s_3, s_4, s_76, s_5, s_6, s_7, s_8, s_9, s_10, s_11, s_12, s_13, s_14, s_15, s_16, s_17, s_18, s_19, s_20, s_21, s_22, s_23, s_24, s_25, s_26, s_27, s_28, s_29, s_30, s_31, s_32, s_33, s_34, s_35, s_36, s_37, s_38, s_39, s_40l, s_40i, s_40r, s_41, s_43, t_44, t_45, t_46, t_47, s_48, s_49, s_50, s_51, s_52, s_53, s_54, s_55, s_56, s_57, s_58, s_59, s_60, s_61, s_62_0, s_62_1, s_62_2, s_66, s_67, s_68, s_69, s_70, s_71, s_72, s_73, sws_n, sws_c, lget, lset, fget, fset, nolg, nolong, avc, stw, cnd, isobj_eo, GCi, GCn, retk, List.length_cons, List.length_nil, ↓reduceIte, and_true, true_and, not_true_eq_false, not_false_eq_true, forall_const, Nat.reduceAdd, Nat.reduceLT, Nat.reduceLeDiff, Nat.lt_add_one, Nat.le_refl, Nat.zero_le, Nat.sub_zero, Int.reduceEq, Int.reduceNe, Int.reduceLT, Int.reduceLE, Int.reduceAdd, Int.reduceSub, Int.reduceMul, Int.reduceNeg, Int.reduceTDiv, Int.reduceTMod, ne_eq, reduceCtorEq, Nat.reduceEqDiff, Int.cast_ofNat_Int, true_or, or_true, false_or, or_false, lcq_0, lcq_2, lcq_3, lcq_4, lcq_5, mi_125, i125_0, i125_1, i125_2, i125_3, i125_6, i125_9, i125_12, i125_13, i125_14, i125_17, k14, hx, a0, t0, w0, w1, w2, hi, m_within, bi_z, bi_r]
theorem m_lawAt (hx : W.2 67 = cmo lc wc tl fb) (hW : 148 ≤ W.1) {ls : Nat → Option Nat} (hl : W.2 116 = er 6 8 ls) (hc : 0 ≤ lc ∧ lc ≤ 8) {k : Int} : Gm 46 [vr 67, vi k] W Q ↔ Q (some (vo (@ite (Option Nat) (0 ≤ k ∧ k ≤ lc - 1) (Classical.propDecidable _) (ls k.toNat) none))) W := by
  have w0 : 67 < W.1 := by omega
  have w1 : 116 < W.1 := by omega
  have hi : in32 (lc - 1) := by unfold in32; omega
  rw [e46]
  simp only [s_1, s_2, s_3, s_4, s_76, s_5, s_6, s_7, s_8, s_9, s_10, s_11, s_12, s_13, s_14, s_15, s_16, s_17, s_18, s_19, s_20, s_21, s_22, s_23, s_24, s_25, s_26, s_27, s_28, s_29, s_30, s_31, s_32, s_33, s_34, s_35, s_36, s_37, s_38, s_39, s_40l, s_40i, s_40r, s_41, s_43, t_44, t_45, t_46, t_47, s_48, s_49, s_50, s_51, s_52, s_53, s_54, s_55, s_56, s_57, s_58, s_59, s_60, s_61, s_62_0, s_62_1, s_62_2, s_66, s_67, s_68, s_69, s_70, s_71, s_72, s_73, sws_n, sws_c, lget, lset, fget, fset, nolg, nolong, avc, stw, cnd, isobj_eo, GCi, GCn, retk, List.length_cons, List.length_nil, ↓reduceIte, and_true, true_and, not_true_eq_false, not_false_eq_true, forall_const, Nat.reduceAdd, Nat.reduceLT, Nat.reduceLeDiff, Nat.lt_add_one, Nat.le_refl, Nat.zero_le, Nat.sub_zero, Int.reduceEq, Int.reduceNe, Int.reduceLT, Int.reduceLE, Int.reduceAdd, Int.reduceSub, Int.reduceMul, Int.reduceNeg, Int.reduceTDiv, Int.reduceTMod, ne_eq, reduceCtorEq, Nat.reduceEqDiff, Int.cast_ofNat_Int, true_or, or_true, false_or, or_false, lcq_0, lcq_2, lcq_3, lcq_4, lcq_5, mi_46, i46_0, i46_1, i46_2, i46_3, i46_6, i46_7, i46_8, i46_11, i46_14, i46_15, i46_18, i46_19, i46_20, i46_23, i46_24, k14, hx, hl, w0, w1, hi, m_within, bi_z]
  by_cases c : 0 ≤ k ∧ k ≤ lc - 1
  · rw [if_neg (by simpa using c), if_pos c]
    exact ⟨fun q => q.2.2, fun q => ⟨by omega, by omega, q⟩⟩
  · rw [if_pos c, if_neg c]
end CLS
