-- SETS OF CANDIDATES
def tst (t : Int) (k : Nat) (b : Bool) : Int := if b = true then (Int32.ofInt t ||| Int32.ofInt (Int32.ofInt 1 <<< (Int32.ofInt ((k : Nat) : Int) &&& 31)).toInt).toInt else t
def tld (b : Nat → Bool) : Nat → Int
  | 0 => 0
  | k + 1 => tst (tld b k) k (b k)
def tbv (b0 b1 b2 b3 b4 b5 : Bool) : Int := tst (tst (tst (tst (tst (tst 0 0 b0) 1 b1) 2 b2) 3 b3) 4 b4) 5 b5
theorem tld_6 {b : Nat → Bool} : tld b 6 = tbv (b 0) (b 1) (b 2) (b 3) (b 4) (b 5) := rfl
theorem in32_o (z : Int32) : in32 z.toInt := by
  have h1 := z.toInt_lt
  have h2 := z.le_toInt
  unfold in32
  omega
theorem tld_i {b : Nat → Bool} : ∀ k, in32 (tld b k)
  | 0 => by unfold in32 tld; decide
  | k + 1 => by
    show in32 (tst (tld b k) k (b k))
    unfold tst
    split
    · exact in32_o _
    · exact tld_i k
theorem or_z {t : Int} (h : in32 t) : (Int32.ofInt t ||| Int32.ofInt 0).toInt = t := by
  unfold in32 at h
  show (BitVec.ofInt 32 t ||| BitVec.ofInt 32 0).toInt = t
  rw [show BitVec.ofInt 32 0 = 0#32 from rfl, BitVec.or_zero, BitVec.toInt_ofInt]
  unfold Int.bmod
  simp only [Nat.reducePow]
  split <;> omega
/-- the set lies within the told ones -/
def subS (T : Int) (m : Nat) : Bool := (Int32.ofInt ((m : Nat) : Int) &&& Int32.ofInt (Int32.ofInt T ^^^ Int32.ofInt (-1)).toInt).toInt == 0
def bm (b0 b1 b2 b3 b4 b5 : Bool) (m : Nat) : Bool := (!m.testBit 0 || b0) && (!m.testBit 1 || b1) && (!m.testBit 2 || b2) && (!m.testBit 3 || b3) && (!m.testBit 4 || b4) && (!m.testBit 5 || b5)
theorem subS_k : ∀ b0 b1 b2 b3 b4 b5 : Bool, ∀ m, m < 64 → subS (tbv b0 b1 b2 b3 b4 b5) m = bm b0 b1 b2 b3 b4 b5 m := by decide +kernel
theorem subS_t {b : Nat → Bool} {m : Nat} (hm : m < 64) (h : subS (tld b 6) m = true) : ∀ k, k < 6 → m.testBit k = true → b k = true := by
  rw [tld_6, subS_k _ _ _ _ _ _ m hm] at h
  unfold bm at h
  simp only [Bool.and_eq_true, Bool.or_eq_true, Bool.not_eq_true'] at h
  obtain ⟨⟨⟨⟨⟨h0, h1⟩, h2⟩, h3⟩, h4⟩, h5⟩ := h
  intro k hk ht
  rcases (show k = 0 ∨ k = 1 ∨ k = 2 ∨ k = 3 ∨ k = 4 ∨ k = 5 by omega) with rfl | rfl | rfl | rfl | rfl | rfl
  · exact h0.resolve_left (by rw [ht]; decide)
  · exact h1.resolve_left (by rw [ht]; decide)
  · exact h2.resolve_left (by rw [ht]; decide)
  · exact h3.resolve_left (by rw [ht]; decide)
  · exact h4.resolve_left (by rw [ht]; decide)
  · exact h5.resolve_left (by rw [ht]; decide)
theorem bit_k : ∀ m, m < 64 → ∀ k, k < 6 → (Int32.ofInt (Int32.ofInt ((m : Nat) : Int) >>> (Int32.ofInt ((k : Nat) : Int) &&& 31)).toInt &&& Int32.ofInt 1).toInt = if m.testBit k = true then 1 else 0 := by decide +kernel
-- how many
def pc6 (m : Nat) : Nat := (m.testBit 0).toNat + (m.testBit 1).toNat + (m.testBit 2).toNat + (m.testBit 3).toNat + (m.testBit 4).toNat + (m.testBit 5).toNat
def jA (n : Nat) : Nat := n - (n / 2 &&& 1431655765)
def jB (n : Nat) : Nat := (n &&& 858993459) + (n / 4 &&& 858993459)
def jC (n : Nat) : Nat := (n + n / 16) &&& 252645135
theorem j_1 : ∀ n, n < 64 → (Int32.ofInt ((Int32.ofInt ((n : Nat) : Int)).toUInt32 >>> ((Int32.ofInt 1).toUInt32 &&& Int32.toUInt32 31)).toInt32.toInt &&& Int32.ofInt 1431655765).toInt = ((n / 2 &&& 1431655765 : Nat) : Int) := by decide +kernel
theorem j_2 : ∀ n, n < 64 → (Int32.ofInt ((n : Nat) : Int) &&& Int32.ofInt 858993459).toInt = ((n &&& 858993459 : Nat) : Int) := by decide +kernel
theorem j_3 : ∀ n, n < 64 → (Int32.ofInt ((Int32.ofInt ((n : Nat) : Int)).toUInt32 >>> ((Int32.ofInt 2).toUInt32 &&& Int32.toUInt32 31)).toInt32.toInt &&& Int32.ofInt 858993459).toInt = ((n / 4 &&& 858993459 : Nat) : Int) := by decide +kernel
theorem j_4 : ∀ n, n < 64 → ((Int32.ofInt ((n : Nat) : Int)).toUInt32 >>> ((Int32.ofInt 4).toUInt32 &&& Int32.toUInt32 31)).toInt32.toInt = ((n / 16 : Nat) : Int) := by decide +kernel
theorem j_5 : ∀ n, n < 80 → (Int32.ofInt ((n : Nat) : Int) &&& Int32.ofInt 252645135).toInt = ((n &&& 252645135 : Nat) : Int) := by decide +kernel
theorem j_6 : ∀ n, n < 64 → ((Int32.ofInt ((n : Nat) : Int)).toUInt32 >>> ((Int32.ofInt 8).toUInt32 &&& Int32.toUInt32 31)).toInt32.toInt = 0 ∧ ((Int32.ofInt ((n : Nat) : Int)).toUInt32 >>> ((Int32.ofInt 16).toUInt32 &&& Int32.toUInt32 31)).toInt32.toInt = 0 ∧ (Int32.ofInt ((n : Nat) : Int) &&& Int32.ofInt 63).toInt = ((n : Nat) : Int) := by decide +kernel
theorem j_b : ∀ n, n < 64 → (n / 2 &&& 1431655765 ≤ n) ∧ jA n < 64 ∧ jB (jA n) < 64 ∧ (jB (jA n) + jB (jA n) / 16 < 80) ∧ jC (jB (jA n)) < 64 ∧ jC (jB (jA n)) = pc6 n := by decide +kernel
theorem j_d : ∀ v, v < 64 → ¬ v = 0 → (Int32.ofInt ((v : Nat) : Int) &&& Int32.ofInt (((v : Nat) : Int) - 1)).toInt = ((v &&& (v - 1) : Nat) : Int) ∧ (v &&& (v - 1)) < v ∧ pc6 v = pc6 (v &&& (v - 1)) + 1 := by decide +kernel
theorem pc6_b (m : Nat) : pc6 m ≤ 6 := by
  have h : ∀ b : Bool, b.toNat ≤ 1 := by decide
  have h0 := h (m.testBit 0)
  have h1 := h (m.testBit 1)
  have h2 := h (m.testBit 2)
  have h3 := h (m.testBit 3)
  have h4 := h (m.testBit 4)
  have h5 := h (m.testBit 5)
  unfold pc6
  omega
section SB
variable {W : AW} {Q : AQ}
theorem x_ibits {m : Nat} (hm : m < 64) : Gm 165 [vi (m : Int)] W Q ↔ Q (some (vi ((pc6 m : Nat) : Int))) W := by
  obtain ⟨b1, b2, b3, b4, b5, b6⟩ := j_b m hm
  have s1 : (m : Int) - ((m / 2 &&& 1431655765 : Nat) : Int) = ((jA m : Nat) : Int) := by unfold jA; omega
  have s2 : ((jA m &&& 858993459 : Nat) : Int) + ((jA m / 4 &&& 858993459 : Nat) : Int) = ((jB (jA m) : Nat) : Int) := by unfold jB; omega
  have s3 : ((jB (jA m) : Nat) : Int) + ((jB (jA m) / 16 : Nat) : Int) = ((jB (jA m) + jB (jA m) / 16 : Nat) : Int) := by omega
  have s4 := j_5 _ b4
  rw [show jB (jA m) + jB (jA m) / 16 &&& 252645135 = jC (jB (jA m)) from rfl] at s4
  obtain ⟨k6, k7, k8⟩ := j_6 _ b5
  rw [← b6, e165]
  simp (disch := omega) only [s_1, s_2, s_3, s_4, s_76, s_5, s_6, s_7, s_8, s_9, s_10, s_11, s_12, s_13, s_14, s_15, s_16, s_17, s_18, s_19, s_20, s_21, s_22, s_23, s_24, s_25, s_26, s_27, s_28, s_29, s_30, s_31, s_32, s_33, s_34, s_35, s_36, s_37, s_38, s_39, s_40l, s_40i, s_40r, s_41, s_43, t_44, t_45, t_46, t_47, s_48, s_49, s_50, s_51, s_52, s_53, s_54, s_55, s_56, s_57, s_58, s_59, s_60, s_61, s_62_0, s_62_1, s_62_2, s_66, s_67, s_68, s_69, s_70, s_71, s_72, s_73, sws_n, sws_c, lget, lset, fget, fset, nolg, nolong, avc, stw, cnd, isobj_eo, GCi, GCn, retk, List.length_cons, List.length_nil, ↓reduceIte, and_true, true_and, not_true_eq_false, not_false_eq_true, forall_const, Nat.reduceAdd, Nat.reduceLT, Nat.reduceLeDiff, Nat.lt_add_one, Nat.le_refl, Nat.zero_le, Nat.sub_zero, Int.reduceEq, Int.reduceNe, Int.reduceLT, Int.reduceLE, Int.reduceAdd, Int.reduceSub, Int.reduceMul, Int.reduceNeg, Int.reduceTDiv, Int.reduceTMod, ne_eq, reduceCtorEq, Nat.reduceEqDiff, Int.cast_ofNat_Int, true_or, or_true, false_or, or_false, lcq_0, lcq_2, lcq_3, lcq_4, lcq_5, wu_s, wu_1, wu_w, wu_lt, wu_ne, ar_s, ar_n, rr_s, rr_n, ob_n, nz_c, lt_T, lt_F, le_T, le_F, ie_T, ie_F, nt_T, nt_F, nl_T, nl_F, in_T, and_false, false_and, and_self, not_true_eq_false, Int.toNat_natCast, Int.reduceToNat, if_true, if_false, mi_165, i165_0, i165_1, i165_2, i165_3, i165_4, i165_7, i165_8, i165_9, i165_11, i165_14, i165_15, i165_16, i165_17, i165_18, i165_21, i165_22, i165_23, i165_24, i165_25, i165_26, i165_27, i165_28, i165_29, i165_32, i165_33, i165_34, i165_35, i165_36, i165_38, i165_39, i165_40, i165_41, i165_42, i165_43, i165_45, i165_46, i165_47, i165_48, i165_49, i165_51, i165_52, j_1 m hm, s1]
  rw [i165_10]
  simp (disch := omega) only [s_1, s_2, s_3, s_4, s_76, s_5, s_6, s_7, s_8, s_9, s_10, s_11, s_12, s_13, s_14, s_15, s_16, s_17, s_18, s_19, s_20, s_21, s_22, s_23, s_24, s_25, s_26, s_27, s_28, s_29, s_30, s_31, s_32, s_33, s_34, s_35, s_36, s_37, s_38, s_39, s_40l, s_40i, s_40r, s_41, s_43, t_44, t_45, t_46, t_47, s_48, s_49, s_50, s_51, s_52, s_53, s_54, s_55, s_56, s_57, s_58, s_59, s_60, s_61, s_62_0, s_62_1, s_62_2, s_66, s_67, s_68, s_69, s_70, s_71, s_72, s_73, sws_n, sws_c, lget, lset, fget, fset, nolg, nolong, avc, stw, cnd, isobj_eo, GCi, GCn, retk, List.length_cons, List.length_nil, ↓reduceIte, and_true, true_and, not_true_eq_false, not_false_eq_true, forall_const, Nat.reduceAdd, Nat.reduceLT, Nat.reduceLeDiff, Nat.lt_add_one, Nat.le_refl, Nat.zero_le, Nat.sub_zero, Int.reduceEq, Int.reduceNe, Int.reduceLT, Int.reduceLE, Int.reduceAdd, Int.reduceSub, Int.reduceMul, Int.reduceNeg, Int.reduceTDiv, Int.reduceTMod, ne_eq, reduceCtorEq, Nat.reduceEqDiff, Int.cast_ofNat_Int, true_or, or_true, false_or, or_false, lcq_0, lcq_2, lcq_3, lcq_4, lcq_5, wu_s, wu_1, wu_w, wu_lt, wu_ne, ar_s, ar_n, rr_s, rr_n, ob_n, nz_c, lt_T, lt_F, le_T, le_F, ie_T, ie_F, nt_T, nt_F, nl_T, nl_F, in_T, and_false, false_and, and_self, not_true_eq_false, Int.toNat_natCast, Int.reduceToNat, if_true, if_false, mi_165, i165_0, i165_1, i165_2, i165_3, i165_4, i165_7, i165_8, i165_9, i165_10, i165_11, i165_14, i165_15, i165_16, i165_17, i165_18, i165_21, i165_22, i165_23, i165_25, i165_26, i165_27, i165_28, i165_29, i165_32, i165_33, i165_34, i165_35, i165_36, i165_38, i165_39, i165_40, i165_41, i165_42, i165_43, i165_45, i165_46, i165_47, i165_48, i165_49, i165_51, i165_52, j_2 _ b2, j_3 _ b2, s2]
  rw [i165_24]
  simp (disch := omega) only [s_1, s_2, s_3, s_4, s_76, s_5, s_6, s_7, s_8, s_9, s_10, s_11, s_12, s_13, s_14, s_15, s_16, s_17, s_18, s_19, s_20, s_21, s_22, s_23, s_24, s_25, s_26, s_27, s_28, s_29, s_30, s_31, s_32, s_33, s_34, s_35, s_36, s_37, s_38, s_39, s_40l, s_40i, s_40r, s_41, s_43, t_44, t_45, t_46, t_47, s_48, s_49, s_50, s_51, s_52, s_53, s_54, s_55, s_56, s_57, s_58, s_59, s_60, s_61, s_62_0, s_62_1, s_62_2, s_66, s_67, s_68, s_69, s_70, s_71, s_72, s_73, sws_n, sws_c, lget, lset, fget, fset, nolg, nolong, avc, stw, cnd, isobj_eo, GCi, GCn, retk, List.length_cons, List.length_nil, ↓reduceIte, and_true, true_and, not_true_eq_false, not_false_eq_true, forall_const, Nat.reduceAdd, Nat.reduceLT, Nat.reduceLeDiff, Nat.lt_add_one, Nat.le_refl, Nat.zero_le, Nat.sub_zero, Int.reduceEq, Int.reduceNe, Int.reduceLT, Int.reduceLE, Int.reduceAdd, Int.reduceSub, Int.reduceMul, Int.reduceNeg, Int.reduceTDiv, Int.reduceTMod, ne_eq, reduceCtorEq, Nat.reduceEqDiff, Int.cast_ofNat_Int, true_or, or_true, false_or, or_false, lcq_0, lcq_2, lcq_3, lcq_4, lcq_5, wu_s, wu_1, wu_w, wu_lt, wu_ne, ar_s, ar_n, rr_s, rr_n, ob_n, nz_c, lt_T, lt_F, le_T, le_F, ie_T, ie_F, nt_T, nt_F, nl_T, nl_F, in_T, and_false, false_and, and_self, not_true_eq_false, Int.toNat_natCast, Int.reduceToNat, if_true, if_false, mi_165, i165_0, i165_1, i165_2, i165_3, i165_4, i165_7, i165_8, i165_9, i165_10, i165_11, i165_14, i165_15, i165_16, i165_17, i165_18, i165_21, i165_22, i165_23, i165_24, i165_25, i165_26, i165_27, i165_28, i165_29, i165_32, i165_33, i165_35, i165_36, i165_38, i165_39, i165_40, i165_41, i165_42, i165_43, i165_45, i165_46, i165_47, i165_48, i165_49, i165_51, i165_52, j_4 _ b3, s3, s4]
  rw [i165_34]
  simp (disch := omega) only [s_1, s_2, s_3, s_4, s_76, s_5, s_6, s_7, s_8, s_9, s_10, s_11, s_12, s_13, s_14, s_15, s_16, s_17, s_18, s_19, s_20, s_21, s_22, s_23, s_24, s_25, s_26, s_27, s_28, s_29, s_30, s_31, s_32, s_33, s_34, s_35, s_36, s_37, s_38, s_39, s_40l, s_40i, s_40r, s_41, s_43, t_44, t_45, t_46, t_47, s_48, s_49, s_50, s_51, s_52, s_53, s_54, s_55, s_56, s_57, s_58, s_59, s_60, s_61, s_62_0, s_62_1, s_62_2, s_66, s_67, s_68, s_69, s_70, s_71, s_72, s_73, sws_n, sws_c, lget, lset, fget, fset, nolg, nolong, avc, stw, cnd, isobj_eo, GCi, GCn, retk, List.length_cons, List.length_nil, ↓reduceIte, and_true, true_and, not_true_eq_false, not_false_eq_true, forall_const, Nat.reduceAdd, Nat.reduceLT, Nat.reduceLeDiff, Nat.lt_add_one, Nat.le_refl, Nat.zero_le, Nat.sub_zero, Int.reduceEq, Int.reduceNe, Int.reduceLT, Int.reduceLE, Int.reduceAdd, Int.reduceSub, Int.reduceMul, Int.reduceNeg, Int.reduceTDiv, Int.reduceTMod, ne_eq, reduceCtorEq, Nat.reduceEqDiff, Int.cast_ofNat_Int, true_or, or_true, false_or, or_false, lcq_0, lcq_2, lcq_3, lcq_4, lcq_5, wu_s, wu_1, wu_w, wu_lt, wu_ne, ar_s, ar_n, rr_s, rr_n, ob_n, nz_c, lt_T, lt_F, le_T, le_F, ie_T, ie_F, nt_T, nt_F, nl_T, nl_F, in_T, and_false, false_and, and_self, not_true_eq_false, Int.toNat_natCast, Int.reduceToNat, if_true, if_false, mi_165, i165_0, i165_1, i165_2, i165_3, i165_4, i165_7, i165_8, i165_9, i165_10, i165_11, i165_14, i165_15, i165_16, i165_17, i165_18, i165_21, i165_22, i165_23, i165_24, i165_25, i165_26, i165_27, i165_28, i165_29, i165_32, i165_33, i165_34, i165_35, i165_36, i165_38, i165_39, i165_40, i165_41, i165_42, i165_43, i165_45, i165_46, i165_47, i165_48, i165_49, i165_51, i165_52, k6, k7, k8, Int.add_zero]
theorem y_bits {m : Nat} (hm : m < 64) : Gm 290 [vi (m : Int)] W Q ↔ Q (some (vi ((pc6 m : Nat) : Int))) W := by
  have key : ∀ (N v n : Nat), v ≤ N → v < 64 → n + pc6 v ≤ 6 → (G 290 4 [some (vi (m : Int)), some (vi (n : Int)), some (vi (v : Int))] [] W 0 0 Q ↔ Q (some (vi ((n + pc6 v : Nat) : Int))) W) := by
    intro N
    induction N with
    | zero =>
      intro v n h1 h2 h3
      have e : v = 0 := by omega
      subst e
      rw [show n + pc6 0 = n from rfl, i290_4]
      simp (disch := omega) only [s_1, s_2, s_3, s_4, s_76, s_5, s_6, s_7, s_8, s_9, s_10, s_11, s_12, s_13, s_14, s_15, s_16, s_17, s_18, s_19, s_20, s_21, s_22, s_23, s_24, s_25, s_26, s_27, s_28, s_29, s_30, s_31, s_32, s_33, s_34, s_35, s_36, s_37, s_38, s_39, s_40l, s_40i, s_40r, s_41, s_43, t_44, t_45, t_46, t_47, s_48, s_49, s_50, s_51, s_52, s_53, s_54, s_55, s_56, s_57, s_58, s_59, s_60, s_61, s_62_0, s_62_1, s_62_2, s_66, s_67, s_68, s_69, s_70, s_71, s_72, s_73, sws_n, sws_c, lget, lset, fget, fset, nolg, nolong, avc, stw, cnd, isobj_eo, GCi, GCn, retk, List.length_cons, List.length_nil, ↓reduceIte, and_true, true_and, not_true_eq_false, not_false_eq_true, forall_const, Nat.reduceAdd, Nat.reduceLT, Nat.reduceLeDiff, Nat.lt_add_one, Nat.le_refl, Nat.zero_le, Nat.sub_zero, Int.reduceEq, Int.reduceNe, Int.reduceLT, Int.reduceLE, Int.reduceAdd, Int.reduceSub, Int.reduceMul, Int.reduceNeg, Int.reduceTDiv, Int.reduceTMod, ne_eq, reduceCtorEq, Nat.reduceEqDiff, Int.cast_ofNat_Int, true_or, or_true, false_or, or_false, lcq_0, lcq_2, lcq_3, lcq_4, lcq_5, wu_s, wu_1, wu_w, wu_lt, wu_ne, ar_s, ar_n, rr_s, rr_n, ob_n, nz_c, lt_T, lt_F, le_T, le_F, ie_T, ie_F, nt_T, nt_F, nl_T, nl_F, in_T, and_false, false_and, and_self, not_true_eq_false, Int.toNat_natCast, Int.reduceToNat, if_true, if_false, mi_290, i290_0, i290_1, i290_2, i290_3, i290_5, i290_8, i290_11, i290_12, i290_13, i290_14, i290_15, i290_16, i290_17, i290_20, i290_21, show (((0 : Nat) : Int) = 0) = True by decide]
    | succ N ih =>
      intro v n h1 h2 h3
      by_cases c : v = 0
      · subst c
        rw [show n + pc6 0 = n from rfl, i290_4]
        simp (disch := omega) only [s_1, s_2, s_3, s_4, s_76, s_5, s_6, s_7, s_8, s_9, s_10, s_11, s_12, s_13, s_14, s_15, s_16, s_17, s_18, s_19, s_20, s_21, s_22, s_23, s_24, s_25, s_26, s_27, s_28, s_29, s_30, s_31, s_32, s_33, s_34, s_35, s_36, s_37, s_38, s_39, s_40l, s_40i, s_40r, s_41, s_43, t_44, t_45, t_46, t_47, s_48, s_49, s_50, s_51, s_52, s_53, s_54, s_55, s_56, s_57, s_58, s_59, s_60, s_61, s_62_0, s_62_1, s_62_2, s_66, s_67, s_68, s_69, s_70, s_71, s_72, s_73, sws_n, sws_c, lget, lset, fget, fset, nolg, nolong, avc, stw, cnd, isobj_eo, GCi, GCn, retk, List.length_cons, List.length_nil, ↓reduceIte, and_true, true_and, not_true_eq_false, not_false_eq_true, forall_const, Nat.reduceAdd, Nat.reduceLT, Nat.reduceLeDiff, Nat.lt_add_one, Nat.le_refl, Nat.zero_le, Nat.sub_zero, Int.reduceEq, Int.reduceNe, Int.reduceLT, Int.reduceLE, Int.reduceAdd, Int.reduceSub, Int.reduceMul, Int.reduceNeg, Int.reduceTDiv, Int.reduceTMod, ne_eq, reduceCtorEq, Nat.reduceEqDiff, Int.cast_ofNat_Int, true_or, or_true, false_or, or_false, lcq_0, lcq_2, lcq_3, lcq_4, lcq_5, wu_s, wu_1, wu_w, wu_lt, wu_ne, ar_s, ar_n, rr_s, rr_n, ob_n, nz_c, lt_T, lt_F, le_T, le_F, ie_T, ie_F, nt_T, nt_F, nl_T, nl_F, in_T, and_false, false_and, and_self, not_true_eq_false, Int.toNat_natCast, Int.reduceToNat, if_true, if_false, mi_290, i290_0, i290_1, i290_2, i290_3, i290_5, i290_8, i290_11, i290_12, i290_13, i290_14, i290_15, i290_16, i290_17, i290_20, i290_21, show (((0 : Nat) : Int) = 0) = True by decide]
      · obtain ⟨d1, d2, d3⟩ := j_d v h2 c
        have c2 : ¬ (v : Int) = 0 := by omega
        have e := ih (v &&& (v - 1)) (n + 1) (by omega) (by omega) (by omega)
        rw [show n + 1 + pc6 (v &&& (v - 1)) = n + pc6 v by omega, nc1] at e
        rw [i290_4]
        simp (disch := omega) only [s_1, s_2, s_3, s_4, s_76, s_5, s_6, s_7, s_8, s_9, s_10, s_11, s_12, s_13, s_14, s_15, s_16, s_17, s_18, s_19, s_20, s_21, s_22, s_23, s_24, s_25, s_26, s_27, s_28, s_29, s_30, s_31, s_32, s_33, s_34, s_35, s_36, s_37, s_38, s_39, s_40l, s_40i, s_40r, s_41, s_43, t_44, t_45, t_46, t_47, s_48, s_49, s_50, s_51, s_52, s_53, s_54, s_55, s_56, s_57, s_58, s_59, s_60, s_61, s_62_0, s_62_1, s_62_2, s_66, s_67, s_68, s_69, s_70, s_71, s_72, s_73, sws_n, sws_c, lget, lset, fget, fset, nolg, nolong, avc, stw, cnd, isobj_eo, GCi, GCn, retk, List.length_cons, List.length_nil, ↓reduceIte, and_true, true_and, not_true_eq_false, not_false_eq_true, forall_const, Nat.reduceAdd, Nat.reduceLT, Nat.reduceLeDiff, Nat.lt_add_one, Nat.le_refl, Nat.zero_le, Nat.sub_zero, Int.reduceEq, Int.reduceNe, Int.reduceLT, Int.reduceLE, Int.reduceAdd, Int.reduceSub, Int.reduceMul, Int.reduceNeg, Int.reduceTDiv, Int.reduceTMod, ne_eq, reduceCtorEq, Nat.reduceEqDiff, Int.cast_ofNat_Int, true_or, or_true, false_or, or_false, lcq_0, lcq_2, lcq_3, lcq_4, lcq_5, wu_s, wu_1, wu_w, wu_lt, wu_ne, ar_s, ar_n, rr_s, rr_n, ob_n, nz_c, lt_T, lt_F, le_T, le_F, ie_T, ie_F, nt_T, nt_F, nl_T, nl_F, in_T, and_false, false_and, and_self, not_true_eq_false, Int.toNat_natCast, Int.reduceToNat, if_true, if_false, mi_290, i290_0, i290_1, i290_2, i290_3, i290_5, i290_8, i290_11, i290_12, i290_13, i290_14, i290_15, i290_16, i290_17, i290_20, i290_21, eq_false c2, d1]
        exact e
  rw [e290]
  simp (disch := omega) only [s_1, s_2, s_3, s_4, s_76, s_5, s_6, s_7, s_8, s_9, s_10, s_11, s_12, s_13, s_14, s_15, s_16, s_17, s_18, s_19, s_20, s_21, s_22, s_23, s_24, s_25, s_26, s_27, s_28, s_29, s_30, s_31, s_32, s_33, s_34, s_35, s_36, s_37, s_38, s_39, s_40l, s_40i, s_40r, s_41, s_43, t_44, t_45, t_46, t_47, s_48, s_49, s_50, s_51, s_52, s_53, s_54, s_55, s_56, s_57, s_58, s_59, s_60, s_61, s_62_0, s_62_1, s_62_2, s_66, s_67, s_68, s_69, s_70, s_71, s_72, s_73, sws_n, sws_c, lget, lset, fget, fset, nolg, nolong, avc, stw, cnd, isobj_eo, GCi, GCn, retk, List.length_cons, List.length_nil, ↓reduceIte, and_true, true_and, not_true_eq_false, not_false_eq_true, forall_const, Nat.reduceAdd, Nat.reduceLT, Nat.reduceLeDiff, Nat.lt_add_one, Nat.le_refl, Nat.zero_le, Nat.sub_zero, Int.reduceEq, Int.reduceNe, Int.reduceLT, Int.reduceLE, Int.reduceAdd, Int.reduceSub, Int.reduceMul, Int.reduceNeg, Int.reduceTDiv, Int.reduceTMod, ne_eq, reduceCtorEq, Nat.reduceEqDiff, Int.cast_ofNat_Int, true_or, or_true, false_or, or_false, lcq_0, lcq_2, lcq_3, lcq_4, lcq_5, wu_s, wu_1, wu_w, wu_lt, wu_ne, ar_s, ar_n, rr_s, rr_n, ob_n, nz_c, lt_T, lt_F, le_T, le_F, ie_T, ie_F, nt_T, nt_F, nl_T, nl_F, in_T, and_false, false_and, and_self, not_true_eq_false, Int.toNat_natCast, Int.reduceToNat, if_true, if_false, mi_290, i290_0, i290_1, i290_2, i290_3, i290_5, i290_8, i290_11, i290_12, i290_13, i290_14, i290_15, i290_16, i290_17, i290_20, i290_21]
  have e := key m m 0 (Nat.le_refl _) hm (by have := pc6_b m; omega)
  rw [Nat.zero_add] at e
  exact e
end SB
