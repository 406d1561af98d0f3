-- LAWS AS FUNCTIONS; what an edge holds, by the reference
abbrev LW : Type := (Nat → (Nat → Int) → Int) × (Nat → Int)
def w7 (x y tk wt sh sa wy : Int) : Nat → Int := fun k => match k with
  | 0 => x
  | 1 => y
  | 2 => tk
  | 3 => wt
  | 4 => sh
  | 5 => sa
  | 6 => wy
  | _ => 0
def LwOk (lw : LW) : Prop := (0 ≤ lw.2 2 ∧ lw.2 2 ≤ 1000) ∧ (0 ≤ lw.2 3 ∧ lw.2 3 ≤ 1000) ∧ (0 ≤ lw.2 4 ∧ lw.2 4 ≤ 1000) ∧ (1 ≤ lw.2 5 ∧ lw.2 5 ≤ 9) ∧ (0 ≤ lw.2 6 ∧ lw.2 6 ≤ 9) ∧ (0 ≤ lw.2 7 ∧ lw.2 7 ≤ 1000)
def cut7 (f : Nat → Int) : Nat → Int := w7 (f 0) (f 1) (f 2) (f 3) (f 4) (f 5) (f 6)
/-- the slot of a text is the same in both -/
def SlR (r : Int) (W W0 : AW) : Prop := (∀ i : Nat, 300 * r.toNat ≤ i → i < 300 * r.toNat + 300 → ar W 168 i = ar W0 168 i ∧ ar W 169 i = ar W0 169 i) ∧ ar W 170 r.toNat = ar W0 170 r.toNat ∧ ∀ i : Nat, 12 * r.toNat ≤ i → i < 12 * r.toNat + 12 → ar W 171 i = ar W0 171 i ∧ ar W 172 i = ar W0 172 i ∧ ar W 173 i = ar W0 173 i ∧ ar W 174 i = ar W0 174 i ∧ ar W 175 i = ar W0 175 i
theorem SlR.rf {r : Int} {W : AW} : SlR r W W := ⟨fun _ _ _ => ⟨rfl, rfl⟩, rfl, fun _ _ _ => ⟨rfl, rfl, rfl, rfl, rfl⟩⟩
theorem SlR.tr {r : Int} {W W1 W2 : AW} (h : SlR r W W1) (g : SlR r W1 W2) : SlR r W W2 := by
  refine ⟨fun i a b => ⟨(h.1 i a b).1.trans (g.1 i a b).1, (h.1 i a b).2.trans (g.1 i a b).2⟩, h.2.1.trans g.2.1, fun i a b => ?_⟩
  obtain ⟨x1, x2, x3, x4, x5⟩ := h.2.2 i a b
  obtain ⟨y1, y2, y3, y4, y5⟩ := g.2.2 i a b
  exact ⟨x1.trans y1, x2.trans y2, x3.trans y3, x4.trans y4, x5.trans y5⟩
theorem SlR.cs {r : Int} {W W1 : AW} (hk : ∀ k, 168 ≤ k → k ≤ 175 → W.2 k = W1.2 k) : SlR r W W1 := by
  have e := fun k a b => ar_c (hk k a b)
  refine ⟨fun i _ _ => ⟨?_, ?_⟩, ?_, fun i _ _ => ⟨?_, ?_, ?_, ?_, ?_⟩⟩
  · rw [e 168 (by decide) (by decide)]
  · rw [e 169 (by decide) (by decide)]
  · rw [e 170 (by decide) (by decide)]
  · rw [e 171 (by decide) (by decide)]
  · rw [e 172 (by decide) (by decide)]
  · rw [e 173 (by decide) (by decide)]
  · rw [e 174 (by decide) (by decide)]
  · rw [e 175 (by decide) (by decide)]
def LawR (W0 : AW) (r : Int) (lw : LW) : Prop := ∀ W, RS W → SlR r W W0 →
  (∀ Q, Gm 232 [vr 148, vi r, vi 2, vi 1000] W Q ↔ Q (some (vi (lw.2 2))) W) ∧
  (∀ Q, Gm 232 [vr 148, vi r, vi 3, vi 1000] W Q ↔ Q (some (vi (lw.2 3))) W) ∧
  (∀ Q, Gm 232 [vr 148, vi r, vi 4, vi 1000] W Q ↔ Q (some (vi (lw.2 4))) W) ∧
  (∀ Q, Gm 232 [vr 148, vi r, vi 5, vi 3] W Q ↔ Q (some (vi (lw.2 5))) W) ∧
  (∀ Q, Gm 232 [vr 148, vi r, vi 6, vi 1] W Q ↔ Q (some (vi (lw.2 6))) W) ∧
  (∀ Q, Gm 232 [vr 148, vi r, vi 7, vi 0] W Q ↔ Q (some (vi (lw.2 7))) W) ∧
  (∀ Q : AQ, (∀ g, Q (some (vl (lw.1 0 (cut7 (ar W 177))))) (wu W 178 (ea 3 300 g))) → Gm 227 [vr 148, vi r, vi 0] W Q) ∧
  (∀ Q : AQ, (∀ g, Q (some (vl (lw.1 1 (cut7 (ar W 177))))) (wu W 178 (ea 3 300 g))) → Gm 227 [vr 148, vi r, vi 1] W Q)
theorem LawR.sl {W0 W1 : AW} {r : Int} {lw : LW} (h : LawR W0 r lw) (hk : SlR r W1 W0) : LawR W1 r lw := fun W hW ha => h W hW (ha.tr hk)
theorem LawR.cg {W0 W1 : AW} {r : Int} {lw : LW} (h : LawR W0 r lw) (hk : ∀ k, 168 ≤ k → k ≤ 175 → W1.2 k = W0.2 k) : LawR W1 r lw := h.sl (SlR.cs hk)
theorem LawR.ot {W0 : AW} {r : Int} {lw : LW} (h : LawR W0 r lw) {j : Nat} {e : AE} (hj : j < 168 ∨ 175 < j) : LawR (wu W0 j e) r lw := h.cg (fun k a b => wu_ne (by omega))
section R3
variable {W : AW} {Q : AQ} {e r : Int} {lw : LW}
theorem LawR.s2 (h : LawR W r lw) (hR : RS W) : Gm 232 [vr 148, vi r, vi 2, vi 1000] W Q ↔ Q (some (vi (lw.2 2))) W := (h W hR SlR.rf).1 Q
theorem LawR.s3 (h : LawR W r lw) (hR : RS W) : Gm 232 [vr 148, vi r, vi 3, vi 1000] W Q ↔ Q (some (vi (lw.2 3))) W := (h W hR SlR.rf).2.1 Q
theorem LawR.s4 (h : LawR W r lw) (hR : RS W) : Gm 232 [vr 148, vi r, vi 4, vi 1000] W Q ↔ Q (some (vi (lw.2 4))) W := (h W hR SlR.rf).2.2.1 Q
theorem LawR.s5 (h : LawR W r lw) (hR : RS W) : Gm 232 [vr 148, vi r, vi 5, vi 3] W Q ↔ Q (some (vi (lw.2 5))) W := (h W hR SlR.rf).2.2.2.1 Q
theorem LawR.s6 (h : LawR W r lw) (hR : RS W) : Gm 232 [vr 148, vi r, vi 6, vi 1] W Q ↔ Q (some (vi (lw.2 6))) W := (h W hR SlR.rf).2.2.2.2.1 Q
theorem LawR.s7 (h : LawR W r lw) (hR : RS W) : Gm 232 [vr 148, vi r, vi 7, vi 0] W Q ↔ Q (some (vi (lw.2 7))) W := (h W hR SlR.rf).2.2.2.2.2.1 Q
theorem LawR.dr (h : LawR W r lw) (hR : RS W) (hQ : ∀ g, Q (some (vl (lw.1 0 (cut7 (ar W 177))))) (wu W 178 (ea 3 300 g))) : Gm 227 [vr 148, vi r, vi 0] W Q := (h W hR SlR.rf).2.2.2.2.2.2.1 Q hQ
theorem LawR.te (h : LawR W r lw) (hR : RS W) (hQ : ∀ g, Q (some (vl (lw.1 1 (cut7 (ar W 177))))) (wu W 178 (ea 3 300 g))) : Gm 227 [vr 148, vi r, vi 1] W Q := (h W hR SlR.rf).2.2.2.2.2.2.2 Q hQ
theorem r_pull (hR : RS W) (hL : LawR W r lw) (hk : LwOk lw) (hw : ∀ k, 0 ≤ ar W 150 k ∧ ar W 150 k ≤ 1000) (h0 : 0 ≤ e) (h1 : e < 180) : Gm 234 [vr 148, vi r, vi e] W Q ↔ Q (some (vl (pul (ar W 155) (ar W 150) (lw.2 5) e))) W := by
  have h5 := hk.2.2.2.1
  have b1 := efc_b h0 h1
  have b2 := eoc_b h0 h1
  have w1 := hw (efc e).toNat
  have w2 := hw (eoc e).toNat
  have q1 := rcB_b (t := ar W 155) (e := e) (l := lw.2 5) (f := 9) (n := 1)
  have q2 := rcF_b (t := ar W 155) (e := e) (l := lw.2 5) (f := 9) (n := 1)
  rw [e234]
  simp (disch := omega) only [s_1, s_2, s_3, s_4, s_76, s_5, s_6, s_7, s_8, s_9, s_10, s_11, s_12, s_13, s_14, s_15, s_16, s_17, s_18, s_19, s_20, s_21, s_22, s_23, s_24, s_25, s_26, s_27, s_28, s_29, s_30, s_31, s_32, s_33, s_34, s_35, s_36, s_37, s_38, s_39, s_40l, s_40i, s_40r, s_41, s_43, t_44, t_45, t_46, t_47, s_48, s_49, s_50, s_51, s_52, s_53, s_54, s_55, s_56, s_57, s_58, s_59, s_60, s_61, s_62_0, s_62_1, s_62_2, s_66, s_67, s_68, s_69, s_70, s_71, s_72, s_73, sws_n, sws_c, lget, lset, fget, fset, nolg, nolong, avc, stw, cnd, isobj_eo, GCi, GCn, retk, List.length_cons, List.length_nil, ↓reduceIte, and_true, true_and, not_true_eq_false, not_false_eq_true, forall_const, Nat.reduceAdd, Nat.reduceLT, Nat.reduceLeDiff, Nat.lt_add_one, Nat.le_refl, Nat.zero_le, Nat.sub_zero, Int.reduceEq, Int.reduceNe, Int.reduceLT, Int.reduceLE, Int.reduceAdd, Int.reduceSub, Int.reduceMul, Int.reduceNeg, Int.reduceTDiv, Int.reduceTMod, ne_eq, reduceCtorEq, Nat.reduceEqDiff, Int.cast_ofNat_Int, true_or, or_true, false_or, or_false, lcq_0, lcq_2, lcq_3, lcq_4, lcq_5, wu_s, wu_1, wu_w, wu_lt, wu_ne, ar_s, ar_n, rr_s, rr_n, ob_n, nz_c, lt_T, lt_F, le_T, le_F, ie_T, ie_F, nt_T, nt_F, nl_T, nl_F, in_T, and_false, false_and, and_self, not_true_eq_false, Int.toNat_natCast, Int.reduceToNat, if_true, if_false, mi_234, i234_0, i234_1, i234_2, i234_3, i234_4, i234_7, i234_8, i234_11, i234_12, i234_15, i234_16, i234_19, i234_20, i234_21, i234_22, i234_25, i234_26, i234_29, i234_30, i234_31, i234_33, i234_35, i234_36, i234_37, i234_38, i234_39, i234_40, i234_43, i234_44, i234_45, i234_46, i234_47, i234_50, i234_51, i234_52, i234_53, i234_56, i234_57, i234_58, i234_59, i234_60, k186, k189, k232, k235, g12_3, ra_148 hR, ra_150 hR, hR.w, hL.s5 hR, r_firstCell h0 h1, r_otherCell h0 h1, r_reachB hR h0 h1 h5, r_reachF hR h0 h1 h5]
  unfold pul
  generalize rcB (ar W 155) e (lw.2 5) 9 1 = x1 at q1 ⊢
  generalize rcF (ar W 155) e (lw.2 5) 9 1 = x2 at q2 ⊢
  generalize hd : 2000 - ar W 150 (efc e).toNat - ar W 150 (eoc e).toNat = dd
  have m1 : 0 ≤ dd * (x1 + x2) := Int.mul_nonneg (by omega) (by omega)
  have m2 : dd * (x1 + x2) ≤ 2000 * 20 := Int.mul_le_mul (by omega) (by omega) (by omega) (by omega)
  have m3 : 0 ≤ (dd * (x1 + x2)).tdiv (2 * lw.2 5) ∧ (dd * (x1 + x2)).tdiv (2 * lw.2 5) ≤ 40000 := by
    rw [Int.tdiv_eq_ediv_of_nonneg m1]
    exact ⟨Int.ediv_nonneg m1 (by omega), Int.le_trans (Int.ediv_le_self _ m1) m2⟩
  rw [w64_d (z := dd * (x1 + x2)) (by omega), w64_d (z := 2 * lw.2 5) (by omega), w64_d (by omega), eq_true (show ¬ 2 * lw.2 5 = 0 by omega), true_and]
theorem r_between {v a b : Int} (h : a ≤ b) : Gm 231 [vl v, vl a, vl b] W Q ↔ Q (some (vl (max a (min b v)))) W := by
  rw [e231]
  by_cases c1 : v < a
  · simp (disch := omega) only [s_1, s_2, s_3, s_4, s_76, s_5, s_6, s_7, s_8, s_9, s_10, s_11, s_12, s_13, s_14, s_15, s_16, s_17, s_18, s_19, s_20, s_21, s_22, s_23, s_24, s_25, s_26, s_27, s_28, s_29, s_30, s_31, s_32, s_33, s_34, s_35, s_36, s_37, s_38, s_39, s_40l, s_40i, s_40r, s_41, s_43, t_44, t_45, t_46, t_47, s_48, s_49, s_50, s_51, s_52, s_53, s_54, s_55, s_56, s_57, s_58, s_59, s_60, s_61, s_62_0, s_62_1, s_62_2, s_66, s_67, s_68, s_69, s_70, s_71, s_72, s_73, sws_n, sws_c, lget, lset, fget, fset, nolg, nolong, avc, stw, cnd, isobj_eo, GCi, GCn, retk, List.length_cons, List.length_nil, ↓reduceIte, and_true, true_and, not_true_eq_false, not_false_eq_true, forall_const, Nat.reduceAdd, Nat.reduceLT, Nat.reduceLeDiff, Nat.lt_add_one, Nat.le_refl, Nat.zero_le, Nat.sub_zero, Int.reduceEq, Int.reduceNe, Int.reduceLT, Int.reduceLE, Int.reduceAdd, Int.reduceSub, Int.reduceMul, Int.reduceNeg, Int.reduceTDiv, Int.reduceTMod, ne_eq, reduceCtorEq, Nat.reduceEqDiff, Int.cast_ofNat_Int, true_or, or_true, false_or, or_false, lcq_0, lcq_2, lcq_3, lcq_4, lcq_5, wu_s, wu_1, wu_w, wu_lt, wu_ne, ar_s, ar_n, rr_s, rr_n, ob_n, nz_c, lt_T, lt_F, le_T, le_F, ie_T, ie_F, nt_T, nt_F, nl_T, nl_F, in_T, and_false, false_and, and_self, not_true_eq_false, Int.toNat_natCast, Int.reduceToNat, if_true, if_false, mi_231, i231_0, i231_1, i231_2, i231_3, i231_6, i231_7, i231_10, i231_11, i231_13, i231_14, i231_17, i231_19, i231_22, i231_23]
    rw [show max a (min b v) = a by omega]
  · by_cases c2 : b < v
    · simp (disch := omega) only [s_1, s_2, s_3, s_4, s_76, s_5, s_6, s_7, s_8, s_9, s_10, s_11, s_12, s_13, s_14, s_15, s_16, s_17, s_18, s_19, s_20, s_21, s_22, s_23, s_24, s_25, s_26, s_27, s_28, s_29, s_30, s_31, s_32, s_33, s_34, s_35, s_36, s_37, s_38, s_39, s_40l, s_40i, s_40r, s_41, s_43, t_44, t_45, t_46, t_47, s_48, s_49, s_50, s_51, s_52, s_53, s_54, s_55, s_56, s_57, s_58, s_59, s_60, s_61, s_62_0, s_62_1, s_62_2, s_66, s_67, s_68, s_69, s_70, s_71, s_72, s_73, sws_n, sws_c, lget, lset, fget, fset, nolg, nolong, avc, stw, cnd, isobj_eo, GCi, GCn, retk, List.length_cons, List.length_nil, ↓reduceIte, and_true, true_and, not_true_eq_false, not_false_eq_true, forall_const, Nat.reduceAdd, Nat.reduceLT, Nat.reduceLeDiff, Nat.lt_add_one, Nat.le_refl, Nat.zero_le, Nat.sub_zero, Int.reduceEq, Int.reduceNe, Int.reduceLT, Int.reduceLE, Int.reduceAdd, Int.reduceSub, Int.reduceMul, Int.reduceNeg, Int.reduceTDiv, Int.reduceTMod, ne_eq, reduceCtorEq, Nat.reduceEqDiff, Int.cast_ofNat_Int, true_or, or_true, false_or, or_false, lcq_0, lcq_2, lcq_3, lcq_4, lcq_5, wu_s, wu_1, wu_w, wu_lt, wu_ne, ar_s, ar_n, rr_s, rr_n, ob_n, nz_c, lt_T, lt_F, le_T, le_F, ie_T, ie_F, nt_T, nt_F, nl_T, nl_F, in_T, and_false, false_and, and_self, not_true_eq_false, Int.toNat_natCast, Int.reduceToNat, if_true, if_false, mi_231, i231_0, i231_1, i231_2, i231_3, i231_6, i231_7, i231_10, i231_11, i231_13, i231_14, i231_17, i231_19, i231_22, i231_23]
      rw [show max a (min b v) = b by omega]
    · simp (disch := omega) only [s_1, s_2, s_3, s_4, s_76, s_5, s_6, s_7, s_8, s_9, s_10, s_11, s_12, s_13, s_14, s_15, s_16, s_17, s_18, s_19, s_20, s_21, s_22, s_23, s_24, s_25, s_26, s_27, s_28, s_29, s_30, s_31, s_32, s_33, s_34, s_35, s_36, s_37, s_38, s_39, s_40l, s_40i, s_40r, s_41, s_43, t_44, t_45, t_46, t_47, s_48, s_49, s_50, s_51, s_52, s_53, s_54, s_55, s_56, s_57, s_58, s_59, s_60, s_61, s_62_0, s_62_1, s_62_2, s_66, s_67, s_68, s_69, s_70, s_71, s_72, s_73, sws_n, sws_c, lget, lset, fget, fset, nolg, nolong, avc, stw, cnd, isobj_eo, GCi, GCn, retk, List.length_cons, List.length_nil, ↓reduceIte, and_true, true_and, not_true_eq_false, not_false_eq_true, forall_const, Nat.reduceAdd, Nat.reduceLT, Nat.reduceLeDiff, Nat.lt_add_one, Nat.le_refl, Nat.zero_le, Nat.sub_zero, Int.reduceEq, Int.reduceNe, Int.reduceLT, Int.reduceLE, Int.reduceAdd, Int.reduceSub, Int.reduceMul, Int.reduceNeg, Int.reduceTDiv, Int.reduceTMod, ne_eq, reduceCtorEq, Nat.reduceEqDiff, Int.cast_ofNat_Int, true_or, or_true, false_or, or_false, lcq_0, lcq_2, lcq_3, lcq_4, lcq_5, wu_s, wu_1, wu_w, wu_lt, wu_ne, ar_s, ar_n, rr_s, rr_n, ob_n, nz_c, lt_T, lt_F, le_T, le_F, ie_T, ie_F, nt_T, nt_F, nl_T, nl_F, in_T, and_false, false_and, and_self, not_true_eq_false, Int.toNat_natCast, Int.reduceToNat, if_true, if_false, mi_231, i231_0, i231_1, i231_2, i231_3, i231_6, i231_7, i231_10, i231_11, i231_13, i231_14, i231_17, i231_19, i231_22, i231_23]
      rw [show max a (min b v) = v by omega]
theorem r_floor {v : Int} (h : -1000000000 ≤ v ∧ v ≤ 1000000000) : Gm 233 [vl v, vl 1000] W Q ↔ Q (some (vl (v / 1000))) W := by
  rw [e233]
  have e1 : v.tmod 1000 < 0 ↔ v < 0 ∧ v % 1000 ≠ 0 := by
    by_cases c : 0 ≤ v
    · rw [Int.tmod_eq_emod_of_nonneg c]; omega
    · have := Int.tmod_add_mul_tdiv v 1000
      have := Int.neg_tdiv (-v) 1000
      rw [Int.neg_neg, Int.tdiv_eq_ediv_of_nonneg (a := -v) (by omega)] at this
      omega
  have e2 : v.tdiv 1000 = if 0 ≤ v then v / 1000 else - ((-v) / 1000) := by
    by_cases c : 0 ≤ v
    · rw [if_pos c, Int.tdiv_eq_ediv_of_nonneg c]
    · have := Int.neg_tdiv (-v) 1000
      rw [Int.neg_neg, Int.tdiv_eq_ediv_of_nonneg (a := -v) (by omega)] at this
      rw [if_neg c, this]
  by_cases c : v.tmod 1000 < 0
  · have c2 := e1.mp c
    rw [if_neg (by omega)] at e2
    simp (disch := omega) only [s_1, s_2, s_3, s_4, s_76, s_5, s_6, s_7, s_8, s_9, s_10, s_11, s_12, s_13, s_14, s_15, s_16, s_17, s_18, s_19, s_20, s_21, s_22, s_23, s_24, s_25, s_26, s_27, s_28, s_29, s_30, s_31, s_32, s_33, s_34, s_35, s_36, s_37, s_38, s_39, s_40l, s_40i, s_40r, s_41, s_43, t_44, t_45, t_46, t_47, s_48, s_49, s_50, s_51, s_52, s_53, s_54, s_55, s_56, s_57, s_58, s_59, s_60, s_61, s_62_0, s_62_1, s_62_2, s_66, s_67, s_68, s_69, s_70, s_71, s_72, s_73, sws_n, sws_c, lget, lset, fget, fset, nolg, nolong, avc, stw, cnd, isobj_eo, GCi, GCn, retk, List.length_cons, List.length_nil, ↓reduceIte, and_true, true_and, not_true_eq_false, not_false_eq_true, forall_const, Nat.reduceAdd, Nat.reduceLT, Nat.reduceLeDiff, Nat.lt_add_one, Nat.le_refl, Nat.zero_le, Nat.sub_zero, Int.reduceEq, Int.reduceNe, Int.reduceLT, Int.reduceLE, Int.reduceAdd, Int.reduceSub, Int.reduceMul, Int.reduceNeg, Int.reduceTDiv, Int.reduceTMod, ne_eq, reduceCtorEq, Nat.reduceEqDiff, Int.cast_ofNat_Int, true_or, or_true, false_or, or_false, lcq_0, lcq_2, lcq_3, lcq_4, lcq_5, wu_s, wu_1, wu_w, wu_lt, wu_ne, ar_s, ar_n, rr_s, rr_n, ob_n, nz_c, lt_T, lt_F, le_T, le_F, ie_T, ie_F, nt_T, nt_F, nl_T, nl_F, in_T, and_false, false_and, and_self, not_true_eq_false, Int.toNat_natCast, Int.reduceToNat, if_true, if_false, mi_233, i233_0, i233_1, i233_2, i233_3, i233_4, i233_5, i233_8, i233_9, i233_10, i233_11, i233_12, i233_13, i233_16, i233_17, i233_18, i233_19, c, e2, w64_d]
    rw [show -(-v / 1000) - 1 = v / 1000 by omega]
  · have c2 : ¬ (v < 0 ∧ v % 1000 ≠ 0) := fun q => c (e1.mpr q)
    simp (disch := omega) only [s_1, s_2, s_3, s_4, s_76, s_5, s_6, s_7, s_8, s_9, s_10, s_11, s_12, s_13, s_14, s_15, s_16, s_17, s_18, s_19, s_20, s_21, s_22, s_23, s_24, s_25, s_26, s_27, s_28, s_29, s_30, s_31, s_32, s_33, s_34, s_35, s_36, s_37, s_38, s_39, s_40l, s_40i, s_40r, s_41, s_43, t_44, t_45, t_46, t_47, s_48, s_49, s_50, s_51, s_52, s_53, s_54, s_55, s_56, s_57, s_58, s_59, s_60, s_61, s_62_0, s_62_1, s_62_2, s_66, s_67, s_68, s_69, s_70, s_71, s_72, s_73, sws_n, sws_c, lget, lset, fget, fset, nolg, nolong, avc, stw, cnd, isobj_eo, GCi, GCn, retk, List.length_cons, List.length_nil, ↓reduceIte, and_true, true_and, not_true_eq_false, not_false_eq_true, forall_const, Nat.reduceAdd, Nat.reduceLT, Nat.reduceLeDiff, Nat.lt_add_one, Nat.le_refl, Nat.zero_le, Nat.sub_zero, Int.reduceEq, Int.reduceNe, Int.reduceLT, Int.reduceLE, Int.reduceAdd, Int.reduceSub, Int.reduceMul, Int.reduceNeg, Int.reduceTDiv, Int.reduceTMod, ne_eq, reduceCtorEq, Nat.reduceEqDiff, Int.cast_ofNat_Int, true_or, or_true, false_or, or_false, lcq_0, lcq_2, lcq_3, lcq_4, lcq_5, wu_s, wu_1, wu_w, wu_lt, wu_ne, ar_s, ar_n, rr_s, rr_n, ob_n, nz_c, lt_T, lt_F, le_T, le_F, ie_T, ie_F, nt_T, nt_F, nl_T, nl_F, in_T, and_false, false_and, and_self, not_true_eq_false, Int.toNat_natCast, Int.reduceToNat, if_true, if_false, mi_233, i233_0, i233_1, i233_2, i233_3, i233_4, i233_5, i233_8, i233_9, i233_10, i233_11, i233_12, i233_13, i233_16, i233_17, i233_18, i233_19, c, e2, w64_d]
    by_cases c3 : 0 ≤ v
    · rw [if_pos c3]
    · rw [if_neg c3, show -(-v / 1000) = v / 1000 by omega]
/-- what an edge holds -/
def hol (lw : LW) (tk : Int) (w sh sa gr sc sr : Nat → Int) (e : Int) : Int :=
  let v := gr e.toNat - sc e.toNat + max (-9999) (min 9999 (lw.1 1 (w7 (exo e) (eyo e) tk (w (efc e).toNat + w (eoc e).toNat) (sh (efc e).toNat + sh (eoc e).toNat) (sa (efc e).toNat + sa (eoc e).toNat) (if e < 90 then 0 else 1))))
  max 1 (if sr e.toNat = 1 then v * lw.2 4 / 1000 else v)
def Nine (f : Nat → Int) : Prop := ∀ k, 0 ≤ f k ∧ f k ≤ 9
def Thou (f : Nat → Int) : Prop := ∀ k, 0 ≤ f k ∧ f k ≤ 1000
def Four (f : Nat → Int) : Prop := ∀ k, 0 ≤ f k ∧ f k ≤ 9999
theorem mul_bd {v s : Int} (h1 : -19998 ≤ v) (h2 : v ≤ 19998) (h3 : 0 ≤ s) (h4 : s ≤ 1000) : -19998000 ≤ v * s ∧ v * s ≤ 19998000 := by
  by_cases c : 0 ≤ v
  · have a1 : v * s ≤ 19998 * 1000 := Int.mul_le_mul h2 h4 h3 (by omega)
    have a2 : 0 ≤ v * s := Int.mul_nonneg c h3
    omega
  · have a1 : -v * s ≤ 19998 * 1000 := Int.mul_le_mul (by omega) h4 h3 (by omega)
    have a2 : 0 ≤ -v * s := Int.mul_nonneg (by omega) h3
    rw [Int.neg_mul] at a1 a2
    omega
theorem hol_b {lw : LW} {tk : Int} {w sh sa gr sc sr : Nat → Int} {e : Int} (hk : LwOk lw) (hg : Four gr) (hs : Four sc) : 1 ≤ hol lw tk w sh sa gr sc sr e ∧ hol lw tk w sh sa gr sc sr e ≤ 19998 := by
  have h1 := hg e.toNat
  have h2 := hs e.toNat
  have h4 := hk.2.2.1
  unfold hol
  dsimp only
  generalize lw.1 1 _ = x
  generalize hv : gr e.toNat - sc e.toNat + max (-9999) (min 9999 x) = v
  have h5 := mul_bd (v := v) (s := lw.2 4) (by omega) (by omega) h4.1 h4.2
  split <;> omega
set_option maxRecDepth 10000 in
set_option maxHeartbeats 1000000 in
theorem r_holds (hR : RS W) (hL : LawR W r lw) (hk : LwOk lw) (hw : Thou (ar W 150)) (hsh : Nine (ar W 151)) (hsa : Nine (ar W 152)) (hg : Four (ar W 153)) (hs : Four (ar W 154)) (h0 : 0 ≤ e) (h1 : e < 180)
    (hQ : ∀ f g, Q (some (vi (hol lw (ar W 149 4) (ar W 150) (ar W 151) (ar W 152) (ar W 153) (ar W 154) (ar W 157) e))) (wu (wu W 177 (ea 3 11 f)) 178 (ea 3 300 g))) : Gm 226 [vr 148, vi r, vi e] W Q := by
  have hq : ∀ z, z = hol lw (ar W 149 4) (ar W 150) (ar W 151) (ar W 152) (ar W 153) (ar W 154) (ar W 157) e → ∀ f g, Q (some (vi z)) (wu (wu W 177 (ea 3 11 f)) 178 (ea 3 300 g)) := fun z hz f g => hz ▸ hQ f g
  have b1 := efc_b h0 h1
  have b2 := eoc_b h0 h1
  have w1 := hw (efc e).toNat
  have w2 := hw (eoc e).toNat
  have s1 := hsh (efc e).toNat
  have s2 := hsh (eoc e).toNat
  have t1 := hsa (efc e).toNat
  have t2 := hsa (eoc e).toNat
  have g1 := hg e.toNat
  have g2 := hs e.toNat
  have h4 := hk.2.2.1
  rw [e226]
  by_cases h90 : e < 90
  all_goals
    simp (disch := omega) only [s_1, s_2, s_3, s_4, s_76, s_5, s_6, s_7, s_8, s_9, s_10, s_11, s_12, s_13, s_14, s_15, s_16, s_17, s_18, s_19, s_20, s_21, s_22, s_23, s_24, s_25, s_26, s_27, s_28, s_29, s_30, s_31, s_32, s_33, s_34, s_35, s_36, s_37, s_38, s_39, s_40l, s_40i, s_40r, s_41, s_43, t_44, t_45, t_46, t_47, s_48, s_49, s_50, s_51, s_52, s_53, s_54, s_55, s_56, s_57, s_58, s_59, s_60, s_61, s_62_0, s_62_1, s_62_2, s_66, s_67, s_68, s_69, s_70, s_71, s_72, s_73, sws_n, sws_c, lget, lset, fget, fset, nolg, nolong, avc, stw, cnd, isobj_eo, GCi, GCn, retk, List.length_cons, List.length_nil, ↓reduceIte, and_true, true_and, not_true_eq_false, not_false_eq_true, forall_const, Nat.reduceAdd, Nat.reduceLT, Nat.reduceLeDiff, Nat.lt_add_one, Nat.le_refl, Nat.zero_le, Nat.sub_zero, Int.reduceEq, Int.reduceNe, Int.reduceLT, Int.reduceLE, Int.reduceAdd, Int.reduceSub, Int.reduceMul, Int.reduceNeg, Int.reduceTDiv, Int.reduceTMod, ne_eq, reduceCtorEq, Nat.reduceEqDiff, Int.cast_ofNat_Int, true_or, or_true, false_or, or_false, lcq_0, lcq_2, lcq_3, lcq_4, lcq_5, wu_s, wu_1, wu_w, wu_lt, wu_ne, ar_s, ar_n, rr_s, rr_n, ob_n, nz_c, lt_T, lt_F, le_T, le_F, ie_T, ie_F, nt_T, nt_F, nl_T, nl_F, in_T, and_false, false_and, and_self, not_true_eq_false, Int.toNat_natCast, Int.reduceToNat, if_true, if_false, mi_226, i226_0, i226_1, i226_4, i226_5, i226_6, i226_9, i226_11, i226_12, i226_15, i226_16, i226_17, i226_20, i226_21, i226_22, i226_23, i226_26, i226_27, i226_28, i226_31, i226_32, i226_33, i226_34, i226_37, i226_38, i226_39, i226_42, i226_43, i226_44, i226_45, i226_46, i226_47, i226_50, i226_51, i226_52, i226_55, i226_56, i226_57, i226_58, i226_61, i226_63, i226_64, i226_65, i226_66, i226_67, i226_68, i226_71, i226_72, i226_73, i226_76, i226_77, i226_78, i226_79, i226_82, i226_84, i226_85, i226_86, i226_87, i226_88, i226_89, i226_92, i226_93, i226_94, i226_97, i226_98, i226_99, i226_100, i226_103, i226_105, i226_106, i226_107, i226_108, i226_109, i226_110, i226_113, i226_115, i226_116, i226_118, i226_121, i226_122, i226_125, i226_126, i226_127, i226_128, i226_131, i226_132, i226_133, i226_134, i226_137, i226_138, i226_139, i226_140, i226_141, i226_142, i226_143, i226_144, i226_147, i226_150, i226_153, i226_156, i226_157, i226_159, i226_160, i226_163, i226_164, i226_165, i226_166, i226_169, i226_171, i226_172, i226_173, i226_174, i226_177, i226_180, i226_181, i226_182, i226_185, i226_188, i226_190, i226_192, i226_193, i226_196, i226_199, i226_200, k186, k187, k188, k189, k227, k231, k232, k233, g12_10, g12_2, g12_3, g12_4, g12_41, g12_5, g12_6, g12_7, ra_148 hR, ra_149 hR, ra_150 hR, ra_151 hR, ra_152 hR, ra_153 hR, ra_154 hR, ra_157 hR, ra_177 hR, hR.w, r_firstCell h0 h1, r_otherCell h0 h1, r_xOf h0 h1, r_yOf h0 h1]
    refine LawR.te (hL.ot (by omega)) (ru_177 hR) (fun g => ?_)
    rw [ar_s]
    simp only [cut7, fu_3, Nat.reduceEqDiff, if_true, if_false, ↓reduceIte]
    unfold hol at hq
    dsimp only at hq
    first
    | rw [if_pos h90] at hq
    | rw [if_neg h90] at hq
    generalize lw.1 1 _ = x at hq ⊢
    generalize hv : ar W 153 e.toNat - ar W 154 e.toNat + max (-9999) (min 9999 x) = v at hq ⊢
    have hs4 : ∀ (f : Nat → Int) (Q : AQ), Gm 232 [vr 148, vi r, vi 4, vi 1000] (wu (wu W 177 (ea 3 11 f)) 178 (ea 3 300 g)) Q ↔ Q (some (vi (lw.2 4))) (wu (wu W 177 (ea 3 11 f)) 178 (ea 3 300 g)) := fun f Q => LawR.s4 ((hL.ot (by omega)).ot (by omega)) (ru_178 (ru_177 hR))
    have h5 := mul_bd (v := v) (s := lw.2 4) (by omega) (by omega) h4.1 h4.2
    by_cases c : ar W 157 e.toNat = 1
    · rw [if_pos c] at hq
      simp (disch := omega) only [s_1, s_2, s_3, s_4, s_76, s_5, s_6, s_7, s_8, s_9, s_10, s_11, s_12, s_13, s_14, s_15, s_16, s_17, s_18, s_19, s_20, s_21, s_22, s_23, s_24, s_25, s_26, s_27, s_28, s_29, s_30, s_31, s_32, s_33, s_34, s_35, s_36, s_37, s_38, s_39, s_40l, s_40i, s_40r, s_41, s_43, t_44, t_45, t_46, t_47, s_48, s_49, s_50, s_51, s_52, s_53, s_54, s_55, s_56, s_57, s_58, s_59, s_60, s_61, s_62_0, s_62_1, s_62_2, s_66, s_67, s_68, s_69, s_70, s_71, s_72, s_73, sws_n, sws_c, lget, lset, fget, fset, nolg, nolong, avc, stw, cnd, isobj_eo, GCi, GCn, retk, List.length_cons, List.length_nil, ↓reduceIte, and_true, true_and, not_true_eq_false, not_false_eq_true, forall_const, Nat.reduceAdd, Nat.reduceLT, Nat.reduceLeDiff, Nat.lt_add_one, Nat.le_refl, Nat.zero_le, Nat.sub_zero, Int.reduceEq, Int.reduceNe, Int.reduceLT, Int.reduceLE, Int.reduceAdd, Int.reduceSub, Int.reduceMul, Int.reduceNeg, Int.reduceTDiv, Int.reduceTMod, ne_eq, reduceCtorEq, Nat.reduceEqDiff, Int.cast_ofNat_Int, true_or, or_true, false_or, or_false, lcq_0, lcq_2, lcq_3, lcq_4, lcq_5, wu_s, wu_1, wu_w, wu_lt, wu_ne, ar_s, ar_n, rr_s, rr_n, ob_n, nz_c, lt_T, lt_F, le_T, le_F, ie_T, ie_F, nt_T, nt_F, nl_T, nl_F, in_T, and_false, false_and, and_self, not_true_eq_false, Int.toNat_natCast, Int.reduceToNat, if_true, if_false, mi_226, i226_0, i226_1, i226_4, i226_5, i226_6, i226_9, i226_11, i226_12, i226_15, i226_16, i226_17, i226_20, i226_21, i226_22, i226_23, i226_26, i226_27, i226_28, i226_31, i226_32, i226_33, i226_34, i226_37, i226_38, i226_39, i226_42, i226_43, i226_44, i226_45, i226_46, i226_47, i226_50, i226_51, i226_52, i226_55, i226_56, i226_57, i226_58, i226_61, i226_63, i226_64, i226_65, i226_66, i226_67, i226_68, i226_71, i226_72, i226_73, i226_76, i226_77, i226_78, i226_79, i226_82, i226_84, i226_85, i226_86, i226_87, i226_88, i226_89, i226_92, i226_93, i226_94, i226_97, i226_98, i226_99, i226_100, i226_103, i226_105, i226_106, i226_107, i226_108, i226_109, i226_110, i226_113, i226_115, i226_116, i226_118, i226_121, i226_122, i226_125, i226_126, i226_127, i226_128, i226_131, i226_132, i226_133, i226_134, i226_137, i226_138, i226_139, i226_140, i226_141, i226_142, i226_143, i226_144, i226_147, i226_150, i226_153, i226_156, i226_157, i226_159, i226_160, i226_163, i226_164, i226_165, i226_166, i226_169, i226_171, i226_172, i226_173, i226_174, i226_177, i226_180, i226_181, i226_182, i226_185, i226_188, i226_190, i226_192, i226_193, i226_196, i226_199, i226_200, k186, k187, k188, k189, k227, k231, k232, k233, g12_10, g12_2, g12_3, g12_4, g12_41, g12_5, g12_6, g12_7, ra_148 hR, ra_149 hR, ra_150 hR, ra_157 hR, hR.w, r_between, c, w64_d, hv, hs4, r_floor]
      refine hq _ ?_ _ _
      rw [w32_d] <;> omega
    · rw [if_neg c] at hq
      simp (disch := omega) only [s_1, s_2, s_3, s_4, s_76, s_5, s_6, s_7, s_8, s_9, s_10, s_11, s_12, s_13, s_14, s_15, s_16, s_17, s_18, s_19, s_20, s_21, s_22, s_23, s_24, s_25, s_26, s_27, s_28, s_29, s_30, s_31, s_32, s_33, s_34, s_35, s_36, s_37, s_38, s_39, s_40l, s_40i, s_40r, s_41, s_43, t_44, t_45, t_46, t_47, s_48, s_49, s_50, s_51, s_52, s_53, s_54, s_55, s_56, s_57, s_58, s_59, s_60, s_61, s_62_0, s_62_1, s_62_2, s_66, s_67, s_68, s_69, s_70, s_71, s_72, s_73, sws_n, sws_c, lget, lset, fget, fset, nolg, nolong, avc, stw, cnd, isobj_eo, GCi, GCn, retk, List.length_cons, List.length_nil, ↓reduceIte, and_true, true_and, not_true_eq_false, not_false_eq_true, forall_const, Nat.reduceAdd, Nat.reduceLT, Nat.reduceLeDiff, Nat.lt_add_one, Nat.le_refl, Nat.zero_le, Nat.sub_zero, Int.reduceEq, Int.reduceNe, Int.reduceLT, Int.reduceLE, Int.reduceAdd, Int.reduceSub, Int.reduceMul, Int.reduceNeg, Int.reduceTDiv, Int.reduceTMod, ne_eq, reduceCtorEq, Nat.reduceEqDiff, Int.cast_ofNat_Int, true_or, or_true, false_or, or_false, lcq_0, lcq_2, lcq_3, lcq_4, lcq_5, wu_s, wu_1, wu_w, wu_lt, wu_ne, ar_s, ar_n, rr_s, rr_n, ob_n, nz_c, lt_T, lt_F, le_T, le_F, ie_T, ie_F, nt_T, nt_F, nl_T, nl_F, in_T, and_false, false_and, and_self, not_true_eq_false, Int.toNat_natCast, Int.reduceToNat, if_true, if_false, mi_226, i226_0, i226_1, i226_4, i226_5, i226_6, i226_9, i226_11, i226_12, i226_15, i226_16, i226_17, i226_20, i226_21, i226_22, i226_23, i226_26, i226_27, i226_28, i226_31, i226_32, i226_33, i226_34, i226_37, i226_38, i226_39, i226_42, i226_43, i226_44, i226_45, i226_46, i226_47, i226_50, i226_51, i226_52, i226_55, i226_56, i226_57, i226_58, i226_61, i226_63, i226_64, i226_65, i226_66, i226_67, i226_68, i226_71, i226_72, i226_73, i226_76, i226_77, i226_78, i226_79, i226_82, i226_84, i226_85, i226_86, i226_87, i226_88, i226_89, i226_92, i226_93, i226_94, i226_97, i226_98, i226_99, i226_100, i226_103, i226_105, i226_106, i226_107, i226_108, i226_109, i226_110, i226_113, i226_115, i226_116, i226_118, i226_121, i226_122, i226_125, i226_126, i226_127, i226_128, i226_131, i226_132, i226_133, i226_134, i226_137, i226_138, i226_139, i226_140, i226_141, i226_142, i226_143, i226_144, i226_147, i226_150, i226_153, i226_156, i226_157, i226_159, i226_160, i226_163, i226_164, i226_165, i226_166, i226_169, i226_171, i226_172, i226_173, i226_174, i226_177, i226_180, i226_181, i226_182, i226_185, i226_188, i226_190, i226_192, i226_193, i226_196, i226_199, i226_200, k186, k187, k188, k189, k227, k231, k232, k233, g12_10, g12_2, g12_3, g12_4, g12_41, g12_5, g12_6, g12_7, ra_148 hR, ra_149 hR, ra_150 hR, ra_157 hR, hR.w, r_between, c, w64_d, hv]
      refine hq _ ?_ _ _
      rw [w32_d] <;> omega
end R3
