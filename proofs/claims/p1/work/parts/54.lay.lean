-- A FLOOR IS LAID
theorem m_max {a b : Int} {W : AW} {Q : AQ} : Gm 17 [vi a, vi b] W Q ↔ Q (some (vi (max a b))) W := by
  rw [e17]
  simp only [s_1, s_2, s_3, s_4, s_76, s_5, s_6, s_7, s_8, s_9, s_10, s_11, s_12, s_13, s_14, s_15, s_16, s_17, s_18, s_19, s_20, s_21, s_22, s_23, s_24, s_25, s_26, s_27, s_28, s_29, s_30, s_31, s_32, s_33, s_34, s_35, s_36, s_37, s_38, s_39, s_40l, s_40i, s_40r, s_41, s_43, t_44, t_45, t_46, t_47, s_48, s_49, s_50, s_51, s_52, s_53, s_54, s_55, s_56, s_57, s_58, s_59, s_60, s_61, s_62_0, s_62_1, s_62_2, s_66, s_67, s_68, s_69, s_70, s_71, s_72, s_73, sws_n, sws_c, lget, lset, fget, fset, nolg, nolong, avc, stw, cnd, isobj_eo, GCi, GCn, retk, List.length_cons, List.length_nil, ↓reduceIte, and_true, true_and, not_true_eq_false, not_false_eq_true, forall_const, Nat.reduceAdd, Nat.reduceLT, Nat.reduceLeDiff, Nat.lt_add_one, Nat.le_refl, Nat.zero_le, Nat.sub_zero, Int.reduceEq, Int.reduceNe, Int.reduceLT, Int.reduceLE, Int.reduceAdd, Int.reduceSub, Int.reduceMul, Int.reduceNeg, Int.reduceTDiv, Int.reduceTMod, ne_eq, reduceCtorEq, Nat.reduceEqDiff, Int.cast_ofNat_Int, true_or, or_true, false_or, or_false, lcq_0, lcq_2, lcq_3, lcq_4, lcq_5, mi_17, i17_0, i17_1, i17_2, i17_5, i17_6, i17_9, i17_10]
  by_cases h : a < b
  · rw [if_pos h, show max a b = b by omega]
  · rw [if_neg h, show max a b = a by omega]
def lcg (x : Int) : Int := (x * 1103515245 + 12345) % 2147483648
def lcs (s : Int) : Nat → Int
  | 0 => s
  | n + 1 => lcg (lcs s n)
theorem lcs_b {s : Int} (h : 0 ≤ s ∧ s < 2147483648) : ∀ n, 0 ≤ lcs s n ∧ lcs s n < 2147483648
  | 0 => h
  | n + 1 => by show 0 ≤ lcg _ ∧ lcg _ < _; unfold lcg; omega
def grn (s le g : Int) (e : Nat) : Int := le + (lcs s (e + 1) / 65536) % (g - le + 1)
/-- a row told anew below n -/
def tlo (f g : Nat → Int) (n : Nat) : Nat → Int := fun j => if j < n then g j else f j
theorem tlo_0 {f g : Nat → Int} : tlo f g 0 = f := by
  funext j
  simp [tlo]
theorem tlo_s {f g : Nat → Int} {n : Nat} {v : Int} (h : v = g n) : fu (tlo f g n) n v = tlo f g (n + 1) := by
  funext j
  simp only [fu, tlo]
  by_cases h1 : j = n
  · rw [if_pos h1, if_pos (by omega), h, h1]
  · rw [if_neg h1]
    by_cases h2 : j < n
    · rw [if_pos h2, if_pos (by omega)]
    · rw [if_neg h2, if_neg (by omega)]
theorem w64_d {z : Int} (h : -9223372036854775808 ≤ z ∧ z < 9223372036854775808) : w64 z = z := by unfold w64; omega
theorem w32_d {z : Int} (h : -2147483648 ≤ z ∧ z < 2147483648) : w32 z = z := by unfold w32; omega
theorem lcs_st {s : Int} (h : 0 ≤ s ∧ s < 2147483648) (i : Nat) : (w64 (w64 (lcs s i * 1103515245) + 12345)).tmod 2147483648 = lcs s (i + 1) := by
  have hb := lcs_b h i
  rw [w64_d (z := lcs s i * 1103515245) (by omega), w64_d (by omega), Int.tmod_eq_emod_of_nonneg (by omega)]
  rfl
theorem m_layGrains {W : AW} {m q : Nat} {f : Nat → Int} {l s le g bo tk : Int} {r6 r7 r8 r10 r11 r12 r13 r14 : AV} {Q : AQ} (hm : W.2 m = eo 2 [vi l, vi s, vi le, vi g, vi bo, vi tk, r6, r7, r8, vr q, r10, r11, r12, r13, r14]) (hq : W.2 q = ea 0 180 f) (hz : nfz ≤ q) (h1 : m < W.1) (h2 : q < W.1) (hs : 0 ≤ s ∧ s < 2147483648) (hl : 1 ≤ le ∧ le ≤ g ∧ g ≤ 9999)
    (hQ : Q none (wu W q (ea 0 180 (tlo f (grn s le g) 180)))) : Gm 16 [vr m] W Q := by
  have hmq : m ≠ q := fun e => by subst e; rw [hm] at hq; cases hq
  rw [e16]
  simp only [s_1, s_2, s_3, s_4, s_76, s_5, s_6, s_7, s_8, s_9, s_10, s_11, s_12, s_13, s_14, s_15, s_16, s_17, s_18, s_19, s_20, s_21, s_22, s_23, s_24, s_25, s_26, s_27, s_28, s_29, s_30, s_31, s_32, s_33, s_34, s_35, s_36, s_37, s_38, s_39, s_40l, s_40i, s_40r, s_41, s_43, t_44, t_45, t_46, t_47, s_48, s_49, s_50, s_51, s_52, s_53, s_54, s_55, s_56, s_57, s_58, s_59, s_60, s_61, s_62_0, s_62_1, s_62_2, s_66, s_67, s_68, s_69, s_70, s_71, s_72, s_73, sws_n, sws_c, lget, lset, fget, fset, nolg, nolong, avc, stw, cnd, isobj_eo, GCi, GCn, retk, List.length_cons, List.length_nil, ↓reduceIte, and_true, true_and, not_true_eq_false, not_false_eq_true, forall_const, Nat.reduceAdd, Nat.reduceLT, Nat.reduceLeDiff, Nat.lt_add_one, Nat.le_refl, Nat.zero_le, Nat.sub_zero, Int.reduceEq, Int.reduceNe, Int.reduceLT, Int.reduceLE, Int.reduceAdd, Int.reduceSub, Int.reduceMul, Int.reduceNeg, Int.reduceTDiv, Int.reduceTMod, ne_eq, reduceCtorEq, Nat.reduceEqDiff, Int.cast_ofNat_Int, true_or, or_true, false_or, or_false, lcq_0, lcq_2, lcq_3, lcq_4, lcq_5, mi_16, i16_0, i16_1, i16_4, i16_5, i16_6, i16_7, i16_8, i16_11, i16_12, i16_15, i16_16, i16_17, i16_18, i16_21, i16_22, i16_23, i16_27, i16_30, i16_33, i16_34, i16_37, i16_38, i16_41, i16_42, i16_45, i16_46, i16_47, i16_48, i16_51, i16_53, i16_54, i16_57, i16_58, i16_61, i16_62, i16_63, i16_64, i16_65, i16_66, i16_67, i16_68, i16_71, i16_74, k17, hm, h1, m_max, in32]
  rw [show max (1 : Int) (g - le + 1) = g - le + 1 by omega]
  refine ⟨by omega, by omega, ?_⟩
  have key : ∀ n i : Nat, n + i = 180 → G 16 25 [some (vr m), some (vl (lcs s i)), none, some (vi (g - le + 1)), some (vi (i : Int))] [] (wu W q (ea 0 180 (tlo f (grn s le g) i))) 0 0 Q := by
    intro n
    induction n with
    | zero =>
      intro i hi
      obtain rfl : i = 180 := by omega
      rw [i16_25]
      simp only [s_1, s_2, s_3, s_4, s_76, s_5, s_6, s_7, s_8, s_9, s_10, s_11, s_12, s_13, s_14, s_15, s_16, s_17, s_18, s_19, s_20, s_21, s_22, s_23, s_24, s_25, s_26, s_27, s_28, s_29, s_30, s_31, s_32, s_33, s_34, s_35, s_36, s_37, s_38, s_39, s_40l, s_40i, s_40r, s_41, s_43, t_44, t_45, t_46, t_47, s_48, s_49, s_50, s_51, s_52, s_53, s_54, s_55, s_56, s_57, s_58, s_59, s_60, s_61, s_62_0, s_62_1, s_62_2, s_66, s_67, s_68, s_69, s_70, s_71, s_72, s_73, sws_n, sws_c, lget, lset, fget, fset, nolg, nolong, avc, stw, cnd, isobj_eo, GCi, GCn, retk, List.length_cons, List.length_nil, ↓reduceIte, and_true, true_and, not_true_eq_false, not_false_eq_true, forall_const, Nat.reduceAdd, Nat.reduceLT, Nat.reduceLeDiff, Nat.lt_add_one, Nat.le_refl, Nat.zero_le, Nat.sub_zero, Int.reduceEq, Int.reduceNe, Int.reduceLT, Int.reduceLE, Int.reduceAdd, Int.reduceSub, Int.reduceMul, Int.reduceNeg, Int.reduceTDiv, Int.reduceTMod, ne_eq, reduceCtorEq, Nat.reduceEqDiff, Int.cast_ofNat_Int, true_or, or_true, false_or, or_false, lcq_0, lcq_2, lcq_3, lcq_4, lcq_5, mi_16, i16_0, i16_1, i16_4, i16_5, i16_6, i16_7, i16_8, i16_11, i16_12, i16_15, i16_16, i16_17, i16_18, i16_21, i16_22, i16_23, i16_27, i16_30, i16_33, i16_34, i16_37, i16_38, i16_41, i16_42, i16_45, i16_46, i16_47, i16_48, i16_51, i16_53, i16_54, i16_57, i16_58, i16_61, i16_62, i16_63, i16_64, i16_65, i16_66, i16_67, i16_68, i16_71, i16_74, k17]
      exact hQ
    | succ n ih =>
      intro i hi
      have hb := lcs_b hs (i + 1)
      have hmod : 0 ≤ (lcs s (i + 1) / 65536) % (g - le + 1) ∧ (lcs s (i + 1) / 65536) % (g - le + 1) < g - le + 1 := ⟨Int.emod_nonneg _ (by omega), Int.emod_lt_of_pos _ (by omega)⟩
      have e1 : w32 ((w64 ((lcs s (i + 1)).tdiv 65536)).tmod (g - le + 1)) = (lcs s (i + 1) / 65536) % (g - le + 1) := by
        rw [Int.tdiv_eq_ediv_of_nonneg hb.1, w64_d (by omega), Int.tmod_eq_emod_of_nonneg (by omega), w32_d (by omega)]
      rw [i16_25]
      simp only [s_1, s_2, s_3, s_4, s_76, s_5, s_6, s_7, s_8, s_9, s_10, s_11, s_12, s_13, s_14, s_15, s_16, s_17, s_18, s_19, s_20, s_21, s_22, s_23, s_24, s_25, s_26, s_27, s_28, s_29, s_30, s_31, s_32, s_33, s_34, s_35, s_36, s_37, s_38, s_39, s_40l, s_40i, s_40r, s_41, s_43, t_44, t_45, t_46, t_47, s_48, s_49, s_50, s_51, s_52, s_53, s_54, s_55, s_56, s_57, s_58, s_59, s_60, s_61, s_62_0, s_62_1, s_62_2, s_66, s_67, s_68, s_69, s_70, s_71, s_72, s_73, sws_n, sws_c, lget, lset, fget, fset, nolg, nolong, avc, stw, cnd, isobj_eo, GCi, GCn, retk, List.length_cons, List.length_nil, ↓reduceIte, and_true, true_and, not_true_eq_false, not_false_eq_true, forall_const, Nat.reduceAdd, Nat.reduceLT, Nat.reduceLeDiff, Nat.lt_add_one, Nat.le_refl, Nat.zero_le, Nat.sub_zero, Int.reduceEq, Int.reduceNe, Int.reduceLT, Int.reduceLE, Int.reduceAdd, Int.reduceSub, Int.reduceMul, Int.reduceNeg, Int.reduceTDiv, Int.reduceTMod, ne_eq, reduceCtorEq, Nat.reduceEqDiff, Int.cast_ofNat_Int, true_or, or_true, false_or, or_false, lcq_0, lcq_2, lcq_3, lcq_4, lcq_5, mi_16, i16_0, i16_1, i16_4, i16_5, i16_6, i16_7, i16_8, i16_11, i16_12, i16_15, i16_16, i16_17, i16_18, i16_21, i16_22, i16_23, i16_27, i16_30, i16_33, i16_34, i16_37, i16_38, i16_41, i16_42, i16_45, i16_46, i16_47, i16_48, i16_51, i16_53, i16_54, i16_57, i16_58, i16_61, i16_62, i16_63, i16_64, i16_65, i16_66, i16_67, i16_68, i16_71, i16_74, k17, lcs_st hs, e1, wu_s, wu_f, wu_w, wu_ne, hm, hmq, h1, h2, hz, in32, Int.toNat_natCast]
      rw [if_neg (by omega)]
      refine ⟨by omega, by omega, by omega, by omega, by omega, ?_⟩
      rw [tlo_s (g := grn s le g) (v := le + lcs s (i + 1) / 65536 % (g - le + 1)) rfl]
      exact ih (i + 1) (by omega)
  have h0 := key 180 0 rfl
  rw [tlo_0, wu_id hq] at h0
  exact h0
