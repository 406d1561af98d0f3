-- THE CLASS'S READER: its state is (fields of the reader, of the cutter, code, pile, kinds, middles, ends, settings)
abbrev CR : Type := (Nat → Int) × (Nat → Int) × (Nat → Int) × (Nat → Int) × (Nat → Int) × (Nat → Int) × (Nat → Int) × (Nat → Int)
abbrev RX (W : AW) (c : CR) : AW := wu (wu (wu (wu (wu (wu (wu (wu W 119 (o9 c.1)) 120 (ea 0 400 c.2.2.1)) 121 (ea 0 64 c.2.2.2.1)) 122 (ea 0 12 c.2.2.2.2.1)) 123 (ea 0 12 c.2.2.2.2.2.1)) 124 (ea 0 12 c.2.2.2.2.2.2.1)) 125 (ea 0 6 c.2.2.2.2.2.2.2)) 126 (o8 c.2.1)
def wR (c : CR) (i : Nat) (v : Int) : CR := (fu c.1 i v, c.2)
def wK (c : CR) (i : Nat) (v : Int) : CR := (c.1, fu c.2.1 i v, c.2.2)
def wD (c : CR) (i : Nat) (v : Int) : CR := (c.1, c.2.1, fu c.2.2.1 i v, c.2.2.2)
def wP (c : CR) (i : Nat) (v : Int) : CR := (c.1, c.2.1, c.2.2.1, fu c.2.2.2.1 i v, c.2.2.2.2)
def wIk (c : CR) (i : Nat) (v : Int) : CR := (c.1, c.2.1, c.2.2.1, c.2.2.2.1, fu c.2.2.2.2.1 i v, c.2.2.2.2.2)
def wM (c : CR) (i : Nat) (v : Int) : CR := (c.1, c.2.1, c.2.2.1, c.2.2.2.1, c.2.2.2.2.1, fu c.2.2.2.2.2.1 i v, c.2.2.2.2.2.2)
def wE (c : CR) (i : Nat) (v : Int) : CR := (c.1, c.2.1, c.2.2.1, c.2.2.2.1, c.2.2.2.2.1, c.2.2.2.2.2.1, fu c.2.2.2.2.2.2.1 i v, c.2.2.2.2.2.2.2)
def wS (c : CR) (i : Nat) (v : Int) : CR := (c.1, c.2.1, c.2.2.1, c.2.2.2.1, c.2.2.2.2.1, c.2.2.2.2.2.1, c.2.2.2.2.2.2.1, fu c.2.2.2.2.2.2.2 i v)
/-- the text at hand -/
abbrev CX (W : AW) (T : Nat → Int) (n : Nat) : Prop := CS W ∧ ar W 118 = T ∧ Ty T ∧ n ≤ 400
/-- the word at a place: its number among all, or -1 -/
noncomputable def wdV (T : Nat → Int) (n p : Nat) : Int := if fdW T n p id 30 0 = 30 then -1 else ((fdW T n p id 30 0 : Nat) : Int)
def wdn (T : Nat → Int) (n p : Nat) : Prop := (T p = 60 ∨ T p = 62) ∧ p + 1 < n ∧ T (p + 1) = 61
def nuV (T : Nat → Int) (n p : Nat) : Int := if 5 < rn isDg T n p - p then -1 else nmV T n p
noncomputable def tzS (T : Nat → Int) (n p : Nat) : Int := if p < n then (if isDg (T p) = true then 1 else if isLt (T p) = true then 2 else 3) else 0
noncomputable def tzV (T : Nat → Int) (n p : Nat) : Int := if p < n then (if isDg (T p) = true then nuV T n p else if isLt (T p) = true then wdV T n p else @ite Int (wdn T n p) (Classical.propDecidable _) (T p + 256) (T p)) else -1
noncomputable def tzN (T : Nat → Int) (n p : Nat) : Nat := if p < n then (if isDg (T p) = true then rn isDg T n p else if isLt (T p) = true then rn isLt T n p else @ite Nat (wdn T n p) (Classical.propDecidable _) (p + 2) (p + 1)) else p
noncomputable def kA (T : Nat → Int) (n : Nat) (k : Nat → Int) : Nat → Int := fu (fu (fu (fu k 5 ((tzN T n (rn isB T n (k 5).toNat) : Nat) : Int)) 0 ((rn isB T n (k 5).toNat : Nat) : Int)) 2 (tzV T n (rn isB T n (k 5).toNat))) 1 (tzS T n (rn isB T n (k 5).toNat))
noncomputable def adv (T : Nat → Int) (n : Nat) (c : CR) : CR := (c.1, kA T n c.2.1, c.2.2)
theorem fu_lt {α : Type} {f : Nat → α} {i j : Nat} {x y : α} (h : j < i) : fu (fu f i x) j y = fu (fu f j y) i x := by
  funext k
  simp only [fu_3]
  by_cases a : k = j
  · rw [if_pos a, if_neg (by omega)]
    rw [if_pos a]
  · rw [if_neg a, if_neg a]
theorem wK_sf {c : CR} {i : Nat} {v : Int} (h : c.2.1 i = v) : wK c i v = c := by
  show (c.1, fu c.2.1 i v, c.2.2) = c
  rw [fu_sf h]
theorem wK_fu {c : CR} {i : Nat} {v w : Int} : wK (wK c i v) i w = wK c i w := by
  show (c.1, fu (fu c.2.1 i v) i w, c.2.2) = (c.1, fu c.2.1 i w, c.2.2)
  rw [fu_fu]
theorem wK_s {c : CR} {i : Nat} {v : Int} : (wK c i v).2.1 i = v := fu_eq c.2.1 i v
section CUT
variable {W : AW} {Q : AQ} {T : Nat → Int} {c : CR} {n p i : Nat}
theorem RX_f (hC : CS W) : FZ (RX W c) := fun k h1 h2 => by
  show (wu (wu (wu (wu (wu (wu (wu (wu W 119 (o9 c.1)) 120 (ea 0 400 c.2.2.1)) 121 (ea 0 64 c.2.2.2.1)) 122 (ea 0 12 c.2.2.2.2.1)) 123 (ea 0 12 c.2.2.2.2.2.1)) 124 (ea 0 12 c.2.2.2.2.2.2.1)) 125 (ea 0 6 c.2.2.2.2.2.2.2)) 126 (o8 c.2.1)).2 k = _
  rw [wu_ne (by omega), wu_ne (by omega), wu_ne (by omega), wu_ne (by omega), wu_ne (by omega), wu_ne (by omega), wu_ne (by omega), wu_ne (by omega)]
  exact ca_fz hC h1 h2
theorem RX_k {k : Nat → Int} (h0 : c.2.1 0 = k 0) (h1 : c.2.1 1 = k 1) (h2 : c.2.1 2 = k 2) (h4 : c.2.1 4 = k 4) (h5 : c.2.1 5 = k 5) : RX W c = RX W (c.1, k, c.2.2) := by
  show wu (wu (wu (wu (wu (wu (wu (wu W 119 (o9 c.1)) 120 (ea 0 400 c.2.2.1)) 121 (ea 0 64 c.2.2.2.1)) 122 (ea 0 12 c.2.2.2.2.1)) 123 (ea 0 12 c.2.2.2.2.2.1)) 124 (ea 0 12 c.2.2.2.2.2.2.1)) 125 (ea 0 6 c.2.2.2.2.2.2.2)) 126 (o8 c.2.1) = wu (wu (wu (wu (wu (wu (wu (wu W 119 (o9 c.1)) 120 (ea 0 400 c.2.2.1)) 121 (ea 0 64 c.2.2.2.1)) 122 (ea 0 12 c.2.2.2.2.1)) 123 (ea 0 12 c.2.2.2.2.2.1)) 124 (ea 0 12 c.2.2.2.2.2.2.1)) 125 (ea 0 6 c.2.2.2.2.2.2.2)) 126 (o8 k)
  unfold o8
  rw [l8_e h0 h1 h2 h4 h5]
theorem x_isDg (hx : CX W T n) (h4 : c.2.1 4 = (n : Int)) : Gm 65 [vr 126, vi (p : Int)] (RX W c) Q ↔ Q (some (vi (bi (p < n ∧ isDg (T p) = true)))) (RX W c) := by
  obtain ⟨hC, hT, hTy, hn⟩ := hx
  have hw : 192 ≤ W.1 := hC.1
  have a118 := ca_118 hC
  rw [e65]
  by_cases c0 : p < n
  · have c0' : (p : Int) < (n : Int) := by omega
    have c3 : (p : Int) < 400 := by omega
    by_cases c1 : 48 ≤ T p
    · by_cases c2 : T p ≤ 57
      · rw [bi_p ⟨c0, by simp only [isDg, decide_eq_true_eq]; exact ⟨c1, c2⟩⟩]
        simp (disch := omega) only [s_1, s_2, s_3, s_4, s_76, s_5, s_6, s_7, s_8, s_9, s_10, s_11, s_12, s_13, s_14, s_15, s_16, s_17, s_18, s_19, s_20, s_21, s_22, s_23, s_24, s_25, s_26, s_27, s_28, s_29, s_30, s_31, s_32, s_33, s_34, s_35, s_36, s_37, s_38, s_39, s_40l, s_40i, s_40r, s_41, s_43, t_44, t_45, t_46, t_47, s_48, s_49, s_50, s_51, s_52, s_53, s_54, s_55, s_56, s_57, s_58, s_59, s_60, s_61, s_62_0, s_62_1, s_62_2, s_66, s_67, s_68, s_69, s_70, s_71, s_72, s_73, sws_n, sws_c, lget, lset, fget, fset, nolg, nolong, avc, stw, cnd, isobj_eo, GCi, GCn, retk, List.length_cons, List.length_nil, ↓reduceIte, and_true, true_and, not_true_eq_false, not_false_eq_true, forall_const, Nat.reduceAdd, Nat.reduceLT, Nat.reduceLeDiff, Nat.lt_add_one, Nat.le_refl, Nat.zero_le, Nat.sub_zero, Int.reduceEq, Int.reduceNe, Int.reduceLT, Int.reduceLE, Int.reduceAdd, Int.reduceSub, Int.reduceMul, Int.reduceNeg, Int.reduceTDiv, Int.reduceTMod, ne_eq, reduceCtorEq, Nat.reduceEqDiff, Int.cast_ofNat_Int, true_or, or_true, false_or, or_false, lcq_0, lcq_2, lcq_3, lcq_4, lcq_5, wu_s, wu_1, wu_w, wu_lt, wu_ne, ar_s, ar_n, rr_s, rr_n, ob_n, nz_c, lt_T, lt_F, le_T, le_F, ie_T, ie_F, nt_T, nt_F, nl_T, nl_F, in_T, and_false, false_and, and_self, not_true_eq_false, Int.toNat_natCast, Int.reduceToNat, if_true, if_false, mi_65, i65_0, i65_1, i65_2, i65_5, i65_8, i65_9, i65_12, i65_13, i65_14, i65_16, i65_19, i65_20, i65_23, i65_24, i65_25, i65_27, i65_30, i65_31, i65_34, i65_35, g8_3, g8_4, h4, a118, hT, c0', c3]
      · rw [bi_n (fun z => by have := z.2; simp only [isDg, decide_eq_true_eq] at this; omega)]
        simp (disch := omega) only [s_1, s_2, s_3, s_4, s_76, s_5, s_6, s_7, s_8, s_9, s_10, s_11, s_12, s_13, s_14, s_15, s_16, s_17, s_18, s_19, s_20, s_21, s_22, s_23, s_24, s_25, s_26, s_27, s_28, s_29, s_30, s_31, s_32, s_33, s_34, s_35, s_36, s_37, s_38, s_39, s_40l, s_40i, s_40r, s_41, s_43, t_44, t_45, t_46, t_47, s_48, s_49, s_50, s_51, s_52, s_53, s_54, s_55, s_56, s_57, s_58, s_59, s_60, s_61, s_62_0, s_62_1, s_62_2, s_66, s_67, s_68, s_69, s_70, s_71, s_72, s_73, sws_n, sws_c, lget, lset, fget, fset, nolg, nolong, avc, stw, cnd, isobj_eo, GCi, GCn, retk, List.length_cons, List.length_nil, ↓reduceIte, and_true, true_and, not_true_eq_false, not_false_eq_true, forall_const, Nat.reduceAdd, Nat.reduceLT, Nat.reduceLeDiff, Nat.lt_add_one, Nat.le_refl, Nat.zero_le, Nat.sub_zero, Int.reduceEq, Int.reduceNe, Int.reduceLT, Int.reduceLE, Int.reduceAdd, Int.reduceSub, Int.reduceMul, Int.reduceNeg, Int.reduceTDiv, Int.reduceTMod, ne_eq, reduceCtorEq, Nat.reduceEqDiff, Int.cast_ofNat_Int, true_or, or_true, false_or, or_false, lcq_0, lcq_2, lcq_3, lcq_4, lcq_5, wu_s, wu_1, wu_w, wu_lt, wu_ne, ar_s, ar_n, rr_s, rr_n, ob_n, nz_c, lt_T, lt_F, le_T, le_F, ie_T, ie_F, nt_T, nt_F, nl_T, nl_F, in_T, and_false, false_and, and_self, not_true_eq_false, Int.toNat_natCast, Int.reduceToNat, if_true, if_false, mi_65, i65_0, i65_1, i65_2, i65_5, i65_8, i65_9, i65_12, i65_13, i65_14, i65_16, i65_19, i65_20, i65_23, i65_24, i65_25, i65_27, i65_30, i65_31, i65_34, i65_35, g8_3, g8_4, h4, a118, hT, c0', c3]
    · rw [bi_n (fun z => by have := z.2; simp only [isDg, decide_eq_true_eq] at this; omega)]
      simp (disch := omega) only [s_1, s_2, s_3, s_4, s_76, s_5, s_6, s_7, s_8, s_9, s_10, s_11, s_12, s_13, s_14, s_15, s_16, s_17, s_18, s_19, s_20, s_21, s_22, s_23, s_24, s_25, s_26, s_27, s_28, s_29, s_30, s_31, s_32, s_33, s_34, s_35, s_36, s_37, s_38, s_39, s_40l, s_40i, s_40r, s_41, s_43, t_44, t_45, t_46, t_47, s_48, s_49, s_50, s_51, s_52, s_53, s_54, s_55, s_56, s_57, s_58, s_59, s_60, s_61, s_62_0, s_62_1, s_62_2, s_66, s_67, s_68, s_69, s_70, s_71, s_72, s_73, sws_n, sws_c, lget, lset, fget, fset, nolg, nolong, avc, stw, cnd, isobj_eo, GCi, GCn, retk, List.length_cons, List.length_nil, ↓reduceIte, and_true, true_and, not_true_eq_false, not_false_eq_true, forall_const, Nat.reduceAdd, Nat.reduceLT, Nat.reduceLeDiff, Nat.lt_add_one, Nat.le_refl, Nat.zero_le, Nat.sub_zero, Int.reduceEq, Int.reduceNe, Int.reduceLT, Int.reduceLE, Int.reduceAdd, Int.reduceSub, Int.reduceMul, Int.reduceNeg, Int.reduceTDiv, Int.reduceTMod, ne_eq, reduceCtorEq, Nat.reduceEqDiff, Int.cast_ofNat_Int, true_or, or_true, false_or, or_false, lcq_0, lcq_2, lcq_3, lcq_4, lcq_5, wu_s, wu_1, wu_w, wu_lt, wu_ne, ar_s, ar_n, rr_s, rr_n, ob_n, nz_c, lt_T, lt_F, le_T, le_F, ie_T, ie_F, nt_T, nt_F, nl_T, nl_F, in_T, and_false, false_and, and_self, not_true_eq_false, Int.toNat_natCast, Int.reduceToNat, if_true, if_false, mi_65, i65_0, i65_1, i65_2, i65_5, i65_8, i65_9, i65_12, i65_13, i65_14, i65_16, i65_19, i65_20, i65_23, i65_24, i65_25, i65_27, i65_30, i65_31, i65_34, i65_35, g8_3, g8_4, h4, a118, hT, c0', c3]
  · have c0' : ¬ (p : Int) < (n : Int) := by omega
    rw [bi_n (fun z => c0 z.1)]
    simp (disch := omega) only [s_1, s_2, s_3, s_4, s_76, s_5, s_6, s_7, s_8, s_9, s_10, s_11, s_12, s_13, s_14, s_15, s_16, s_17, s_18, s_19, s_20, s_21, s_22, s_23, s_24, s_25, s_26, s_27, s_28, s_29, s_30, s_31, s_32, s_33, s_34, s_35, s_36, s_37, s_38, s_39, s_40l, s_40i, s_40r, s_41, s_43, t_44, t_45, t_46, t_47, s_48, s_49, s_50, s_51, s_52, s_53, s_54, s_55, s_56, s_57, s_58, s_59, s_60, s_61, s_62_0, s_62_1, s_62_2, s_66, s_67, s_68, s_69, s_70, s_71, s_72, s_73, sws_n, sws_c, lget, lset, fget, fset, nolg, nolong, avc, stw, cnd, isobj_eo, GCi, GCn, retk, List.length_cons, List.length_nil, ↓reduceIte, and_true, true_and, not_true_eq_false, not_false_eq_true, forall_const, Nat.reduceAdd, Nat.reduceLT, Nat.reduceLeDiff, Nat.lt_add_one, Nat.le_refl, Nat.zero_le, Nat.sub_zero, Int.reduceEq, Int.reduceNe, Int.reduceLT, Int.reduceLE, Int.reduceAdd, Int.reduceSub, Int.reduceMul, Int.reduceNeg, Int.reduceTDiv, Int.reduceTMod, ne_eq, reduceCtorEq, Nat.reduceEqDiff, Int.cast_ofNat_Int, true_or, or_true, false_or, or_false, lcq_0, lcq_2, lcq_3, lcq_4, lcq_5, wu_s, wu_1, wu_w, wu_lt, wu_ne, ar_s, ar_n, rr_s, rr_n, ob_n, nz_c, lt_T, lt_F, le_T, le_F, ie_T, ie_F, nt_T, nt_F, nl_T, nl_F, in_T, and_false, false_and, and_self, not_true_eq_false, Int.toNat_natCast, Int.reduceToNat, if_true, if_false, mi_65, i65_0, i65_1, i65_2, i65_5, i65_8, i65_9, i65_12, i65_13, i65_14, i65_16, i65_19, i65_20, i65_23, i65_24, i65_25, i65_27, i65_30, i65_31, i65_34, i65_35, g8_3, g8_4, h4, c0']
theorem x_isLt (hx : CX W T n) (h4 : c.2.1 4 = (n : Int)) : Gm 67 [vr 126, vi (p : Int)] (RX W c) Q ↔ Q (some (vi (bi (p < n ∧ isLt (T p) = true)))) (RX W c) := by
  obtain ⟨hC, hT, hTy, hn⟩ := hx
  have hw : 192 ≤ W.1 := hC.1
  have a118 := ca_118 hC
  rw [e67]
  by_cases c0 : p < n
  · have c0' : (p : Int) < (n : Int) := by omega
    have c3 : (p : Int) < 400 := by omega
    by_cases c1 : 97 ≤ T p
    · by_cases c2 : T p ≤ 122
      · rw [bi_p ⟨c0, by simp only [isLt, decide_eq_true_eq]; exact ⟨c1, c2⟩⟩]
        simp (disch := omega) only [s_1, s_2, s_3, s_4, s_76, s_5, s_6, s_7, s_8, s_9, s_10, s_11, s_12, s_13, s_14, s_15, s_16, s_17, s_18, s_19, s_20, s_21, s_22, s_23, s_24, s_25, s_26, s_27, s_28, s_29, s_30, s_31, s_32, s_33, s_34, s_35, s_36, s_37, s_38, s_39, s_40l, s_40i, s_40r, s_41, s_43, t_44, t_45, t_46, t_47, s_48, s_49, s_50, s_51, s_52, s_53, s_54, s_55, s_56, s_57, s_58, s_59, s_60, s_61, s_62_0, s_62_1, s_62_2, s_66, s_67, s_68, s_69, s_70, s_71, s_72, s_73, sws_n, sws_c, lget, lset, fget, fset, nolg, nolong, avc, stw, cnd, isobj_eo, GCi, GCn, retk, List.length_cons, List.length_nil, ↓reduceIte, and_true, true_and, not_true_eq_false, not_false_eq_true, forall_const, Nat.reduceAdd, Nat.reduceLT, Nat.reduceLeDiff, Nat.lt_add_one, Nat.le_refl, Nat.zero_le, Nat.sub_zero, Int.reduceEq, Int.reduceNe, Int.reduceLT, Int.reduceLE, Int.reduceAdd, Int.reduceSub, Int.reduceMul, Int.reduceNeg, Int.reduceTDiv, Int.reduceTMod, ne_eq, reduceCtorEq, Nat.reduceEqDiff, Int.cast_ofNat_Int, true_or, or_true, false_or, or_false, lcq_0, lcq_2, lcq_3, lcq_4, lcq_5, wu_s, wu_1, wu_w, wu_lt, wu_ne, ar_s, ar_n, rr_s, rr_n, ob_n, nz_c, lt_T, lt_F, le_T, le_F, ie_T, ie_F, nt_T, nt_F, nl_T, nl_F, in_T, and_false, false_and, and_self, not_true_eq_false, Int.toNat_natCast, Int.reduceToNat, if_true, if_false, mi_67, i67_0, i67_1, i67_2, i67_5, i67_8, i67_9, i67_12, i67_13, i67_14, i67_16, i67_19, i67_20, i67_23, i67_24, i67_25, i67_27, i67_30, i67_31, i67_34, i67_35, g8_3, g8_4, h4, a118, hT, c0', c3]
      · rw [bi_n (fun z => by have := z.2; simp only [isLt, decide_eq_true_eq] at this; omega)]
        simp (disch := omega) only [s_1, s_2, s_3, s_4, s_76, s_5, s_6, s_7, s_8, s_9, s_10, s_11, s_12, s_13, s_14, s_15, s_16, s_17, s_18, s_19, s_20, s_21, s_22, s_23, s_24, s_25, s_26, s_27, s_28, s_29, s_30, s_31, s_32, s_33, s_34, s_35, s_36, s_37, s_38, s_39, s_40l, s_40i, s_40r, s_41, s_43, t_44, t_45, t_46, t_47, s_48, s_49, s_50, s_51, s_52, s_53, s_54, s_55, s_56, s_57, s_58, s_59, s_60, s_61, s_62_0, s_62_1, s_62_2, s_66, s_67, s_68, s_69, s_70, s_71, s_72, s_73, sws_n, sws_c, lget, lset, fget, fset, nolg, nolong, avc, stw, cnd, isobj_eo, GCi, GCn, retk, List.length_cons, List.length_nil, ↓reduceIte, and_true, true_and, not_true_eq_false, not_false_eq_true, forall_const, Nat.reduceAdd, Nat.reduceLT, Nat.reduceLeDiff, Nat.lt_add_one, Nat.le_refl, Nat.zero_le, Nat.sub_zero, Int.reduceEq, Int.reduceNe, Int.reduceLT, Int.reduceLE, Int.reduceAdd, Int.reduceSub, Int.reduceMul, Int.reduceNeg, Int.reduceTDiv, Int.reduceTMod, ne_eq, reduceCtorEq, Nat.reduceEqDiff, Int.cast_ofNat_Int, true_or, or_true, false_or, or_false, lcq_0, lcq_2, lcq_3, lcq_4, lcq_5, wu_s, wu_1, wu_w, wu_lt, wu_ne, ar_s, ar_n, rr_s, rr_n, ob_n, nz_c, lt_T, lt_F, le_T, le_F, ie_T, ie_F, nt_T, nt_F, nl_T, nl_F, in_T, and_false, false_and, and_self, not_true_eq_false, Int.toNat_natCast, Int.reduceToNat, if_true, if_false, mi_67, i67_0, i67_1, i67_2, i67_5, i67_8, i67_9, i67_12, i67_13, i67_14, i67_16, i67_19, i67_20, i67_23, i67_24, i67_25, i67_27, i67_30, i67_31, i67_34, i67_35, g8_3, g8_4, h4, a118, hT, c0', c3]
    · rw [bi_n (fun z => by have := z.2; simp only [isLt, decide_eq_true_eq] at this; omega)]
      simp (disch := omega) only [s_1, s_2, s_3, s_4, s_76, s_5, s_6, s_7, s_8, s_9, s_10, s_11, s_12, s_13, s_14, s_15, s_16, s_17, s_18, s_19, s_20, s_21, s_22, s_23, s_24, s_25, s_26, s_27, s_28, s_29, s_30, s_31, s_32, s_33, s_34, s_35, s_36, s_37, s_38, s_39, s_40l, s_40i, s_40r, s_41, s_43, t_44, t_45, t_46, t_47, s_48, s_49, s_50, s_51, s_52, s_53, s_54, s_55, s_56, s_57, s_58, s_59, s_60, s_61, s_62_0, s_62_1, s_62_2, s_66, s_67, s_68, s_69, s_70, s_71, s_72, s_73, sws_n, sws_c, lget, lset, fget, fset, nolg, nolong, avc, stw, cnd, isobj_eo, GCi, GCn, retk, List.length_cons, List.length_nil, ↓reduceIte, and_true, true_and, not_true_eq_false, not_false_eq_true, forall_const, Nat.reduceAdd, Nat.reduceLT, Nat.reduceLeDiff, Nat.lt_add_one, Nat.le_refl, Nat.zero_le, Nat.sub_zero, Int.reduceEq, Int.reduceNe, Int.reduceLT, Int.reduceLE, Int.reduceAdd, Int.reduceSub, Int.reduceMul, Int.reduceNeg, Int.reduceTDiv, Int.reduceTMod, ne_eq, reduceCtorEq, Nat.reduceEqDiff, Int.cast_ofNat_Int, true_or, or_true, false_or, or_false, lcq_0, lcq_2, lcq_3, lcq_4, lcq_5, wu_s, wu_1, wu_w, wu_lt, wu_ne, ar_s, ar_n, rr_s, rr_n, ob_n, nz_c, lt_T, lt_F, le_T, le_F, ie_T, ie_F, nt_T, nt_F, nl_T, nl_F, in_T, and_false, false_and, and_self, not_true_eq_false, Int.toNat_natCast, Int.reduceToNat, if_true, if_false, mi_67, i67_0, i67_1, i67_2, i67_5, i67_8, i67_9, i67_12, i67_13, i67_14, i67_16, i67_19, i67_20, i67_23, i67_24, i67_25, i67_27, i67_30, i67_31, i67_34, i67_35, g8_3, g8_4, h4, a118, hT, c0', c3]
  · have c0' : ¬ (p : Int) < (n : Int) := by omega
    rw [bi_n (fun z => c0 z.1)]
    simp (disch := omega) only [s_1, s_2, s_3, s_4, s_76, s_5, s_6, s_7, s_8, s_9, s_10, s_11, s_12, s_13, s_14, s_15, s_16, s_17, s_18, s_19, s_20, s_21, s_22, s_23, s_24, s_25, s_26, s_27, s_28, s_29, s_30, s_31, s_32, s_33, s_34, s_35, s_36, s_37, s_38, s_39, s_40l, s_40i, s_40r, s_41, s_43, t_44, t_45, t_46, t_47, s_48, s_49, s_50, s_51, s_52, s_53, s_54, s_55, s_56, s_57, s_58, s_59, s_60, s_61, s_62_0, s_62_1, s_62_2, s_66, s_67, s_68, s_69, s_70, s_71, s_72, s_73, sws_n, sws_c, lget, lset, fget, fset, nolg, nolong, avc, stw, cnd, isobj_eo, GCi, GCn, retk, List.length_cons, List.length_nil, ↓reduceIte, and_true, true_and, not_true_eq_false, not_false_eq_true, forall_const, Nat.reduceAdd, Nat.reduceLT, Nat.reduceLeDiff, Nat.lt_add_one, Nat.le_refl, Nat.zero_le, Nat.sub_zero, Int.reduceEq, Int.reduceNe, Int.reduceLT, Int.reduceLE, Int.reduceAdd, Int.reduceSub, Int.reduceMul, Int.reduceNeg, Int.reduceTDiv, Int.reduceTMod, ne_eq, reduceCtorEq, Nat.reduceEqDiff, Int.cast_ofNat_Int, true_or, or_true, false_or, or_false, lcq_0, lcq_2, lcq_3, lcq_4, lcq_5, wu_s, wu_1, wu_w, wu_lt, wu_ne, ar_s, ar_n, rr_s, rr_n, ob_n, nz_c, lt_T, lt_F, le_T, le_F, ie_T, ie_F, nt_T, nt_F, nl_T, nl_F, in_T, and_false, false_and, and_self, not_true_eq_false, Int.toNat_natCast, Int.reduceToNat, if_true, if_false, mi_67, i67_0, i67_1, i67_2, i67_5, i67_8, i67_9, i67_12, i67_13, i67_14, i67_16, i67_19, i67_20, i67_23, i67_24, i67_25, i67_27, i67_30, i67_31, i67_34, i67_35, g8_3, g8_4, h4, c0']
theorem x_start (hx : CX W T n) (hQ : Q none (RX W (wK (wK c 4 (n : Int)) 5 0))) : Gm 63 [vr 126, vi (n : Int)] (RX W c) Q := by
  obtain ⟨hC, hT, hTy, hn⟩ := hx
  have hw : 192 ≤ W.1 := hC.1
  have a118 := ca_118 hC
  have em : min (n : Int) 400 = (n : Int) := by omega
  rw [e63]
  simp (disch := omega) only [s_1, s_2, s_3, s_4, s_76, s_5, s_6, s_7, s_8, s_9, s_10, s_11, s_12, s_13, s_14, s_15, s_16, s_17, s_18, s_19, s_20, s_21, s_22, s_23, s_24, s_25, s_26, s_27, s_28, s_29, s_30, s_31, s_32, s_33, s_34, s_35, s_36, s_37, s_38, s_39, s_40l, s_40i, s_40r, s_41, s_43, t_44, t_45, t_46, t_47, s_48, s_49, s_50, s_51, s_52, s_53, s_54, s_55, s_56, s_57, s_58, s_59, s_60, s_61, s_62_0, s_62_1, s_62_2, s_66, s_67, s_68, s_69, s_70, s_71, s_72, s_73, sws_n, sws_c, lget, lset, fget, fset, nolg, nolong, avc, stw, cnd, isobj_eo, GCi, GCn, retk, List.length_cons, List.length_nil, ↓reduceIte, and_true, true_and, not_true_eq_false, not_false_eq_true, forall_const, Nat.reduceAdd, Nat.reduceLT, Nat.reduceLeDiff, Nat.lt_add_one, Nat.le_refl, Nat.zero_le, Nat.sub_zero, Int.reduceEq, Int.reduceNe, Int.reduceLT, Int.reduceLE, Int.reduceAdd, Int.reduceSub, Int.reduceMul, Int.reduceNeg, Int.reduceTDiv, Int.reduceTMod, ne_eq, reduceCtorEq, Nat.reduceEqDiff, Int.cast_ofNat_Int, true_or, or_true, false_or, or_false, lcq_0, lcq_2, lcq_3, lcq_4, lcq_5, wu_s, wu_1, wu_w, wu_lt, wu_ne, ar_s, ar_n, rr_s, rr_n, ob_n, nz_c, lt_T, lt_F, le_T, le_F, ie_T, ie_F, nt_T, nt_F, nl_T, nl_F, in_T, and_false, false_and, and_self, not_true_eq_false, Int.toNat_natCast, Int.reduceToNat, if_true, if_false, mi_63, i63_0, i63_1, i63_2, i63_3, i63_6, i63_7, i63_10, i63_13, i63_14, i63_15, i63_18, k36, g8_3, p8_4, p8_5, a118, m_min, em]
  exact hQ
/-- all below the end of a run are of its sort -/
theorem rn_fa {P : Int → Bool} : ∀ (f q : Nat), n - q ≤ f → ∀ j, q ≤ j → j < rn P T n q → j < n ∧ P (T j) = true
  | 0, q, h, j, h1, h2 => by
    rw [rn_e (by omega)] at h2
    omega
  | f + 1, q, h, j, h1, h2 => by
    by_cases c : q < n ∧ P (T q) = true
    · by_cases e : j = q
      · rw [e]; exact c
      · rw [rn_s c.1 c.2] at h2
        exact rn_fa f (q + 1) (by omega) j (by omega) h2
    · rw [rn_e c] at h2
      omega
theorem x_number (hx : CX W T n) (h4 : c.2.1 4 = (n : Int)) (h0 : c.2.1 0 = (p : Int)) (h5 : c.2.1 5 = (p : Int)) (hp : p < n) (hd : isDg (T p) = true) (hQ : Q none (RX W (wK (wK (wK c 1 1) 5 ((rn isDg T n p : Nat) : Int)) 2 (nuV T n p)))) : Gm 66 [vr 126] (RX W c) Q := by
  obtain ⟨hC, hT, hTy, hn⟩ := id hx
  have hw : 192 ≤ W.1 := hC.1
  have a118 := ca_118 hC
  have hb := rn_b (P := isDg) (T := T) (n := n) (p := p)
  have hE := hb.2 (by omega)
  have hall := fun j a b => rn_fa (T := T) (n := n) (P := isDg) (n - p) p (Nat.le_refl _) j a b
  have hD : ∀ j, j < rn isDg T n p - p → 48 ≤ T (p + j) ∧ T (p + j) ≤ 57 := fun j hj => by
    have := (hall (p + j) (by omega) (by omega)).2
    simp only [isDg, decide_eq_true_eq] at this
    exact this
  have hh := hor_b (T := T) (p := p) hD
  have loop : ∀ (f q : Nat) (x : CR), x.2.1 4 = (n : Int) → x.2.1 0 = (p : Int) → x.2.1 5 = (q : Int) → q + f = rn isDg T n p → p ≤ q → rn isDg T n q = rn isDg T n p → Q none (RX W (wK (wK x 5 ((rn isDg T n p : Nat) : Int)) 2 (nuV T n p))) → G 66 7 [some (vr 126), some (vi (hor T p (min 5 (q - p))))] [] (RX W x) 0 0 Q := by
    intro f
    induction f with
    | zero =>
      intro q x k4 k0 k5 h1 h2 h3 hQ
      have eq : q = rn isDg T n p := by omega
      have hD0 := fun {Q : AQ} => x_isDg (Q := Q) (c := x) (p := q) hx k4
      have ew : wK x 5 ((rn isDg T n p : Nat) : Int) = x := wK_sf (by rw [← eq]; exact k5)
      rw [ew] at hQ
      unfold nuV nmV at hQ
      rw [← eq] at hQ
      have hv := hh (min 5 (q - p)) (by omega) (by omega)
      rw [i66_7]
      have ed : ¬ (q < n ∧ isDg (T q) = true) := fun z => by
        rw [rn_s z.1 z.2] at h3
        have := (rn_b (P := isDg) (T := T) (n := n) (p := q + 1)).1
        omega
      rw [bi_n ed] at hD0
      have i1 : in32 ((q : Int) - (p : Int)) := by unfold in32; omega
      generalize hor T p (min 5 (q - p)) = v at *
      by_cases c0 : (q : Int) < (n : Int)
      · by_cases c5 : 5 < q - p
        · have c5' : ¬ (q : Int) - (p : Int) ≤ 5 := by omega
          rw [if_pos c5] at hQ
          simp (disch := omega) only [s_1, s_2, s_3, s_4, s_76, s_5, s_6, s_7, s_8, s_9, s_10, s_11, s_12, s_13, s_14, s_15, s_16, s_17, s_18, s_19, s_20, s_21, s_22, s_23, s_24, s_25, s_26, s_27, s_28, s_29, s_30, s_31, s_32, s_33, s_34, s_35, s_36, s_37, s_38, s_39, s_40l, s_40i, s_40r, s_41, s_43, t_44, t_45, t_46, t_47, s_48, s_49, s_50, s_51, s_52, s_53, s_54, s_55, s_56, s_57, s_58, s_59, s_60, s_61, s_62_0, s_62_1, s_62_2, s_66, s_67, s_68, s_69, s_70, s_71, s_72, s_73, sws_n, sws_c, lget, lset, fget, fset, nolg, nolong, avc, stw, cnd, isobj_eo, GCi, GCn, retk, List.length_cons, List.length_nil, ↓reduceIte, and_true, true_and, not_true_eq_false, not_false_eq_true, forall_const, Nat.reduceAdd, Nat.reduceLT, Nat.reduceLeDiff, Nat.lt_add_one, Nat.le_refl, Nat.zero_le, Nat.sub_zero, Int.reduceEq, Int.reduceNe, Int.reduceLT, Int.reduceLE, Int.reduceAdd, Int.reduceSub, Int.reduceMul, Int.reduceNeg, Int.reduceTDiv, Int.reduceTMod, ne_eq, reduceCtorEq, Nat.reduceEqDiff, Int.cast_ofNat_Int, true_or, or_true, false_or, or_false, lcq_0, lcq_2, lcq_3, lcq_4, lcq_5, wu_s, wu_1, wu_w, wu_lt, wu_ne, ar_s, ar_n, rr_s, rr_n, ob_n, nz_c, lt_T, lt_F, le_T, le_F, ie_T, ie_F, nt_T, nt_F, nl_T, nl_F, in_T, and_false, false_and, and_self, not_true_eq_false, Int.toNat_natCast, Int.reduceToNat, if_true, if_false, mi_66, i66_0, i66_1, i66_2, i66_5, i66_6, i66_8, i66_11, i66_12, i66_15, i66_18, i66_19, i66_20, i66_23, i66_26, i66_29, i66_30, i66_33, i66_34, i66_37, i66_38, i66_39, i66_42, i66_44, i66_45, i66_46, i66_47, i66_50, i66_51, i66_54, i66_55, i66_56, i66_58, i66_59, i66_60, i66_61, i66_62, i66_65, i66_66, i66_67, i66_70, i66_73, i66_74, i66_75, i66_78, i66_79, i66_82, i66_83, i66_84, i66_87, i66_88, i66_91, i66_92, i66_95, k65, g8_0, g8_3, g8_4, g8_5, p8_1, p8_2, p8_5, k4, k0, k5, c0, hD0, c5', i1]
          exact hQ
        · have c5' : (q : Int) - (p : Int) ≤ 5 := by omega
          rw [if_neg c5] at hQ
          simp (disch := omega) only [s_1, s_2, s_3, s_4, s_76, s_5, s_6, s_7, s_8, s_9, s_10, s_11, s_12, s_13, s_14, s_15, s_16, s_17, s_18, s_19, s_20, s_21, s_22, s_23, s_24, s_25, s_26, s_27, s_28, s_29, s_30, s_31, s_32, s_33, s_34, s_35, s_36, s_37, s_38, s_39, s_40l, s_40i, s_40r, s_41, s_43, t_44, t_45, t_46, t_47, s_48, s_49, s_50, s_51, s_52, s_53, s_54, s_55, s_56, s_57, s_58, s_59, s_60, s_61, s_62_0, s_62_1, s_62_2, s_66, s_67, s_68, s_69, s_70, s_71, s_72, s_73, sws_n, sws_c, lget, lset, fget, fset, nolg, nolong, avc, stw, cnd, isobj_eo, GCi, GCn, retk, List.length_cons, List.length_nil, ↓reduceIte, and_true, true_and, not_true_eq_false, not_false_eq_true, forall_const, Nat.reduceAdd, Nat.reduceLT, Nat.reduceLeDiff, Nat.lt_add_one, Nat.le_refl, Nat.zero_le, Nat.sub_zero, Int.reduceEq, Int.reduceNe, Int.reduceLT, Int.reduceLE, Int.reduceAdd, Int.reduceSub, Int.reduceMul, Int.reduceNeg, Int.reduceTDiv, Int.reduceTMod, ne_eq, reduceCtorEq, Nat.reduceEqDiff, Int.cast_ofNat_Int, true_or, or_true, false_or, or_false, lcq_0, lcq_2, lcq_3, lcq_4, lcq_5, wu_s, wu_1, wu_w, wu_lt, wu_ne, ar_s, ar_n, rr_s, rr_n, ob_n, nz_c, lt_T, lt_F, le_T, le_F, ie_T, ie_F, nt_T, nt_F, nl_T, nl_F, in_T, and_false, false_and, and_self, not_true_eq_false, Int.toNat_natCast, Int.reduceToNat, if_true, if_false, mi_66, i66_0, i66_1, i66_2, i66_5, i66_6, i66_8, i66_11, i66_12, i66_15, i66_18, i66_19, i66_20, i66_23, i66_26, i66_29, i66_30, i66_33, i66_34, i66_37, i66_38, i66_39, i66_42, i66_44, i66_45, i66_46, i66_47, i66_50, i66_51, i66_54, i66_55, i66_56, i66_58, i66_59, i66_60, i66_61, i66_62, i66_65, i66_66, i66_67, i66_70, i66_73, i66_74, i66_75, i66_78, i66_79, i66_82, i66_83, i66_84, i66_87, i66_88, i66_91, i66_92, i66_95, k65, g8_0, g8_3, g8_4, g8_5, p8_1, p8_2, p8_5, k4, k0, k5, c0, hD0, c5', i1]
          exact hQ
      · by_cases c5 : 5 < q - p
        · have c5' : ¬ (q : Int) - (p : Int) ≤ 5 := by omega
          rw [if_pos c5] at hQ
          simp (disch := omega) only [s_1, s_2, s_3, s_4, s_76, s_5, s_6, s_7, s_8, s_9, s_10, s_11, s_12, s_13, s_14, s_15, s_16, s_17, s_18, s_19, s_20, s_21, s_22, s_23, s_24, s_25, s_26, s_27, s_28, s_29, s_30, s_31, s_32, s_33, s_34, s_35, s_36, s_37, s_38, s_39, s_40l, s_40i, s_40r, s_41, s_43, t_44, t_45, t_46, t_47, s_48, s_49, s_50, s_51, s_52, s_53, s_54, s_55, s_56, s_57, s_58, s_59, s_60, s_61, s_62_0, s_62_1, s_62_2, s_66, s_67, s_68, s_69, s_70, s_71, s_72, s_73, sws_n, sws_c, lget, lset, fget, fset, nolg, nolong, avc, stw, cnd, isobj_eo, GCi, GCn, retk, List.length_cons, List.length_nil, ↓reduceIte, and_true, true_and, not_true_eq_false, not_false_eq_true, forall_const, Nat.reduceAdd, Nat.reduceLT, Nat.reduceLeDiff, Nat.lt_add_one, Nat.le_refl, Nat.zero_le, Nat.sub_zero, Int.reduceEq, Int.reduceNe, Int.reduceLT, Int.reduceLE, Int.reduceAdd, Int.reduceSub, Int.reduceMul, Int.reduceNeg, Int.reduceTDiv, Int.reduceTMod, ne_eq, reduceCtorEq, Nat.reduceEqDiff, Int.cast_ofNat_Int, true_or, or_true, false_or, or_false, lcq_0, lcq_2, lcq_3, lcq_4, lcq_5, wu_s, wu_1, wu_w, wu_lt, wu_ne, ar_s, ar_n, rr_s, rr_n, ob_n, nz_c, lt_T, lt_F, le_T, le_F, ie_T, ie_F, nt_T, nt_F, nl_T, nl_F, in_T, and_false, false_and, and_self, not_true_eq_false, Int.toNat_natCast, Int.reduceToNat, if_true, if_false, mi_66, i66_0, i66_1, i66_2, i66_5, i66_6, i66_8, i66_11, i66_12, i66_15, i66_18, i66_19, i66_20, i66_23, i66_26, i66_29, i66_30, i66_33, i66_34, i66_37, i66_38, i66_39, i66_42, i66_44, i66_45, i66_46, i66_47, i66_50, i66_51, i66_54, i66_55, i66_56, i66_58, i66_59, i66_60, i66_61, i66_62, i66_65, i66_66, i66_67, i66_70, i66_73, i66_74, i66_75, i66_78, i66_79, i66_82, i66_83, i66_84, i66_87, i66_88, i66_91, i66_92, i66_95, k65, g8_0, g8_3, g8_4, g8_5, p8_1, p8_2, p8_5, k4, k0, k5, c0, c5', i1]
          exact hQ
        · have c5' : (q : Int) - (p : Int) ≤ 5 := by omega
          rw [if_neg c5] at hQ
          simp (disch := omega) only [s_1, s_2, s_3, s_4, s_76, s_5, s_6, s_7, s_8, s_9, s_10, s_11, s_12, s_13, s_14, s_15, s_16, s_17, s_18, s_19, s_20, s_21, s_22, s_23, s_24, s_25, s_26, s_27, s_28, s_29, s_30, s_31, s_32, s_33, s_34, s_35, s_36, s_37, s_38, s_39, s_40l, s_40i, s_40r, s_41, s_43, t_44, t_45, t_46, t_47, s_48, s_49, s_50, s_51, s_52, s_53, s_54, s_55, s_56, s_57, s_58, s_59, s_60, s_61, s_62_0, s_62_1, s_62_2, s_66, s_67, s_68, s_69, s_70, s_71, s_72, s_73, sws_n, sws_c, lget, lset, fget, fset, nolg, nolong, avc, stw, cnd, isobj_eo, GCi, GCn, retk, List.length_cons, List.length_nil, ↓reduceIte, and_true, true_and, not_true_eq_false, not_false_eq_true, forall_const, Nat.reduceAdd, Nat.reduceLT, Nat.reduceLeDiff, Nat.lt_add_one, Nat.le_refl, Nat.zero_le, Nat.sub_zero, Int.reduceEq, Int.reduceNe, Int.reduceLT, Int.reduceLE, Int.reduceAdd, Int.reduceSub, Int.reduceMul, Int.reduceNeg, Int.reduceTDiv, Int.reduceTMod, ne_eq, reduceCtorEq, Nat.reduceEqDiff, Int.cast_ofNat_Int, true_or, or_true, false_or, or_false, lcq_0, lcq_2, lcq_3, lcq_4, lcq_5, wu_s, wu_1, wu_w, wu_lt, wu_ne, ar_s, ar_n, rr_s, rr_n, ob_n, nz_c, lt_T, lt_F, le_T, le_F, ie_T, ie_F, nt_T, nt_F, nl_T, nl_F, in_T, and_false, false_and, and_self, not_true_eq_false, Int.toNat_natCast, Int.reduceToNat, if_true, if_false, mi_66, i66_0, i66_1, i66_2, i66_5, i66_6, i66_8, i66_11, i66_12, i66_15, i66_18, i66_19, i66_20, i66_23, i66_26, i66_29, i66_30, i66_33, i66_34, i66_37, i66_38, i66_39, i66_42, i66_44, i66_45, i66_46, i66_47, i66_50, i66_51, i66_54, i66_55, i66_56, i66_58, i66_59, i66_60, i66_61, i66_62, i66_65, i66_66, i66_67, i66_70, i66_73, i66_74, i66_75, i66_78, i66_79, i66_82, i66_83, i66_84, i66_87, i66_88, i66_91, i66_92, i66_95, k65, g8_0, g8_3, g8_4, g8_5, p8_1, p8_2, p8_5, k4, k0, k5, c0, c5', i1]
          exact hQ
    | succ f ih =>
      intro q x k4 k0 k5 h1 h2 h3 hQ
      have hD0 := fun {Q : AQ} => x_isDg (Q := Q) (c := x) (p := q) hx k4
      have aq := hall q h2 (by omega)
      have hdq := aq.2
      simp only [isDg, decide_eq_true_eq] at hdq
      rw [bi_p aq] at hD0
      have c0 : (q : Int) < (n : Int) := by omega
      have c3 : (q : Int) < 400 := by omega
      have ew : wK (wK x 5 ((q : Int) + 1)) 5 ((rn isDg T n p : Nat) : Int) = wK x 5 ((rn isDg T n p : Nat) : Int) := wK_fu
      have e := ih (q + 1) (wK x 5 ((q : Int) + 1)) k4 k0 (by rw [nc1]; exact wK_s) (by omega) (by omega) (by rw [← h3]; exact (rn_s aq.1 aq.2).symm) (by rw [ew]; exact hQ)
      rw [i66_7]
      by_cases d1 : q - p < 5
      · have d1' : (q : Int) - (p : Int) < 5 := by omega
        have hb5 := hh (q - p) (by omega) (by omega)
        have e5 : hor T p (min 5 (q + 1 - p)) = 10 * hor T p (q - p) + T q - 48 := by
          rw [show min 5 (q + 1 - p) = (q - p) + 1 by omega]
          show 10 * hor T p (q - p) + T (p + (q - p)) - 48 = _
          rw [show p + (q - p) = q by omega]
        have hp5 : hor T p (q - p) < 100000 := by
          have : (10 : Int) ^ (q - p) ≤ 10 ^ 5 := by
            rcases (show q - p = 0 ∨ q - p = 1 ∨ q - p = 2 ∨ q - p = 3 ∨ q - p = 4 by omega) with z | z | z | z | z <;> rw [z] <;> decide
          omega
        rw [e5] at e
        rw [show min 5 (q - p) = q - p by omega]
        generalize hor T p (q - p) = v at *
        simp (disch := omega) only [s_1, s_2, s_3, s_4, s_76, s_5, s_6, s_7, s_8, s_9, s_10, s_11, s_12, s_13, s_14, s_15, s_16, s_17, s_18, s_19, s_20, s_21, s_22, s_23, s_24, s_25, s_26, s_27, s_28, s_29, s_30, s_31, s_32, s_33, s_34, s_35, s_36, s_37, s_38, s_39, s_40l, s_40i, s_40r, s_41, s_43, t_44, t_45, t_46, t_47, s_48, s_49, s_50, s_51, s_52, s_53, s_54, s_55, s_56, s_57, s_58, s_59, s_60, s_61, s_62_0, s_62_1, s_62_2, s_66, s_67, s_68, s_69, s_70, s_71, s_72, s_73, sws_n, sws_c, lget, lset, fget, fset, nolg, nolong, avc, stw, cnd, isobj_eo, GCi, GCn, retk, List.length_cons, List.length_nil, ↓reduceIte, and_true, true_and, not_true_eq_false, not_false_eq_true, forall_const, Nat.reduceAdd, Nat.reduceLT, Nat.reduceLeDiff, Nat.lt_add_one, Nat.le_refl, Nat.zero_le, Nat.sub_zero, Int.reduceEq, Int.reduceNe, Int.reduceLT, Int.reduceLE, Int.reduceAdd, Int.reduceSub, Int.reduceMul, Int.reduceNeg, Int.reduceTDiv, Int.reduceTMod, ne_eq, reduceCtorEq, Nat.reduceEqDiff, Int.cast_ofNat_Int, true_or, or_true, false_or, or_false, lcq_0, lcq_2, lcq_3, lcq_4, lcq_5, wu_s, wu_1, wu_w, wu_lt, wu_ne, ar_s, ar_n, rr_s, rr_n, ob_n, nz_c, lt_T, lt_F, le_T, le_F, ie_T, ie_F, nt_T, nt_F, nl_T, nl_F, in_T, and_false, false_and, and_self, not_true_eq_false, Int.toNat_natCast, Int.reduceToNat, if_true, if_false, mi_66, i66_0, i66_1, i66_2, i66_5, i66_6, i66_8, i66_11, i66_12, i66_15, i66_18, i66_19, i66_20, i66_23, i66_26, i66_29, i66_30, i66_33, i66_34, i66_37, i66_38, i66_39, i66_42, i66_44, i66_45, i66_46, i66_47, i66_50, i66_51, i66_54, i66_55, i66_56, i66_58, i66_59, i66_60, i66_61, i66_62, i66_65, i66_66, i66_67, i66_70, i66_73, i66_74, i66_75, i66_78, i66_79, i66_82, i66_83, i66_84, i66_87, i66_88, i66_91, i66_92, i66_95, k65, g8_0, g8_3, g8_4, g8_5, p8_1, p8_2, p8_5, k4, k0, k5, c0, c3, a118, hT, hD0, d1']
        exact e
      · have d1' : ¬ (q : Int) - (p : Int) < 5 := by omega
        rw [show min 5 (q + 1 - p) = min 5 (q - p) by omega] at e
        generalize hor T p (min 5 (q - p)) = v at *
        simp (disch := omega) only [s_1, s_2, s_3, s_4, s_76, s_5, s_6, s_7, s_8, s_9, s_10, s_11, s_12, s_13, s_14, s_15, s_16, s_17, s_18, s_19, s_20, s_21, s_22, s_23, s_24, s_25, s_26, s_27, s_28, s_29, s_30, s_31, s_32, s_33, s_34, s_35, s_36, s_37, s_38, s_39, s_40l, s_40i, s_40r, s_41, s_43, t_44, t_45, t_46, t_47, s_48, s_49, s_50, s_51, s_52, s_53, s_54, s_55, s_56, s_57, s_58, s_59, s_60, s_61, s_62_0, s_62_1, s_62_2, s_66, s_67, s_68, s_69, s_70, s_71, s_72, s_73, sws_n, sws_c, lget, lset, fget, fset, nolg, nolong, avc, stw, cnd, isobj_eo, GCi, GCn, retk, List.length_cons, List.length_nil, ↓reduceIte, and_true, true_and, not_true_eq_false, not_false_eq_true, forall_const, Nat.reduceAdd, Nat.reduceLT, Nat.reduceLeDiff, Nat.lt_add_one, Nat.le_refl, Nat.zero_le, Nat.sub_zero, Int.reduceEq, Int.reduceNe, Int.reduceLT, Int.reduceLE, Int.reduceAdd, Int.reduceSub, Int.reduceMul, Int.reduceNeg, Int.reduceTDiv, Int.reduceTMod, ne_eq, reduceCtorEq, Nat.reduceEqDiff, Int.cast_ofNat_Int, true_or, or_true, false_or, or_false, lcq_0, lcq_2, lcq_3, lcq_4, lcq_5, wu_s, wu_1, wu_w, wu_lt, wu_ne, ar_s, ar_n, rr_s, rr_n, ob_n, nz_c, lt_T, lt_F, le_T, le_F, ie_T, ie_F, nt_T, nt_F, nl_T, nl_F, in_T, and_false, false_and, and_self, not_true_eq_false, Int.toNat_natCast, Int.reduceToNat, if_true, if_false, mi_66, i66_0, i66_1, i66_2, i66_5, i66_6, i66_8, i66_11, i66_12, i66_15, i66_18, i66_19, i66_20, i66_23, i66_26, i66_29, i66_30, i66_33, i66_34, i66_37, i66_38, i66_39, i66_42, i66_44, i66_45, i66_46, i66_47, i66_50, i66_51, i66_54, i66_55, i66_56, i66_58, i66_59, i66_60, i66_61, i66_62, i66_65, i66_66, i66_67, i66_70, i66_73, i66_74, i66_75, i66_78, i66_79, i66_82, i66_83, i66_84, i66_87, i66_88, i66_91, i66_92, i66_95, k65, g8_0, g8_3, g8_4, g8_5, p8_1, p8_2, p8_5, k4, k0, k5, c0, c3, a118, hT, hD0, d1']
        exact e
  have e := loop (rn isDg T n p - p) p (wK c 1 1) h4 h0 h5 (by omega) (Nat.le_refl _) rfl hQ
  rw [show min 5 (p - p) = 0 by omega, show hor T p 0 = 0 from rfl] at e
  rw [e66]
  simp (disch := omega) only [s_1, s_2, s_3, s_4, s_76, s_5, s_6, s_7, s_8, s_9, s_10, s_11, s_12, s_13, s_14, s_15, s_16, s_17, s_18, s_19, s_20, s_21, s_22, s_23, s_24, s_25, s_26, s_27, s_28, s_29, s_30, s_31, s_32, s_33, s_34, s_35, s_36, s_37, s_38, s_39, s_40l, s_40i, s_40r, s_41, s_43, t_44, t_45, t_46, t_47, s_48, s_49, s_50, s_51, s_52, s_53, s_54, s_55, s_56, s_57, s_58, s_59, s_60, s_61, s_62_0, s_62_1, s_62_2, s_66, s_67, s_68, s_69, s_70, s_71, s_72, s_73, sws_n, sws_c, lget, lset, fget, fset, nolg, nolong, avc, stw, cnd, isobj_eo, GCi, GCn, retk, List.length_cons, List.length_nil, ↓reduceIte, and_true, true_and, not_true_eq_false, not_false_eq_true, forall_const, Nat.reduceAdd, Nat.reduceLT, Nat.reduceLeDiff, Nat.lt_add_one, Nat.le_refl, Nat.zero_le, Nat.sub_zero, Int.reduceEq, Int.reduceNe, Int.reduceLT, Int.reduceLE, Int.reduceAdd, Int.reduceSub, Int.reduceMul, Int.reduceNeg, Int.reduceTDiv, Int.reduceTMod, ne_eq, reduceCtorEq, Nat.reduceEqDiff, Int.cast_ofNat_Int, true_or, or_true, false_or, or_false, lcq_0, lcq_2, lcq_3, lcq_4, lcq_5, wu_s, wu_1, wu_w, wu_lt, wu_ne, ar_s, ar_n, rr_s, rr_n, ob_n, nz_c, lt_T, lt_F, le_T, le_F, ie_T, ie_F, nt_T, nt_F, nl_T, nl_F, in_T, and_false, false_and, and_self, not_true_eq_false, Int.toNat_natCast, Int.reduceToNat, if_true, if_false, mi_66, i66_0, i66_1, i66_2, i66_5, i66_6, i66_8, i66_11, i66_12, i66_15, i66_18, i66_19, i66_20, i66_23, i66_26, i66_29, i66_30, i66_33, i66_34, i66_37, i66_38, i66_39, i66_42, i66_44, i66_45, i66_46, i66_47, i66_50, i66_51, i66_54, i66_55, i66_56, i66_58, i66_59, i66_60, i66_61, i66_62, i66_65, i66_66, i66_67, i66_70, i66_73, i66_74, i66_75, i66_78, i66_79, i66_82, i66_83, i66_84, i66_87, i66_88, i66_91, i66_92, i66_95, k65, g8_0, g8_3, g8_4, g8_5, p8_1, p8_2, p8_5]
  exact e
end CUT
