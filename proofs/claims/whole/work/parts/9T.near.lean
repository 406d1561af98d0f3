-- NEIGHBOURS AND SIDES
def NB (t L : Nat → Int) (i r q : Nat) : Prop := ∃ e, e < i ∧ ¬ t e = -1 ∧ ¬ L (ec1 e) = L (ec2 e) ∧ ((L (ec1 e) = (r : Int) ∧ L (ec2 e) = (q : Int)) ∨ (L (ec1 e) = (q : Int) ∧ L (ec2 e) = (r : Int)))
def stb (g : Nat → Int) (a b : Nat) : Nat → Int := fu g (2 * a + b / 64) (Int64.ofInt (g (2 * a + b / 64)) ||| Int64.ofInt (Int64.ofInt 1 <<< ((Int32.ofInt ((b % 64 : Nat) : Int)).toInt64 &&& 63)).toInt).toInt
def lab (L : Nat → Int) : Prop := ∀ x, x < 100 → 0 ≤ L x ∧ L x < 100
def NeI (t L : Nat → Int) (i : Nat) (g : Nat → Int) : Prop := ∀ r q : Nat, r < 100 → q < 128 → (bt (g (2 * r + q / 64)) (q % 64) = true ↔ NB t L i r q)
section NE
variable {t L g : Nat → Int} {i r q a b : Nat}
theorem stb_t (hq : q < 128) (hb : b < 128) : bt (stb g a b (2 * r + q / 64)) (q % 64) = true ↔ (bt (g (2 * r + q / 64)) (q % 64) = true ∨ (r = a ∧ q = b)) := by
  unfold stb
  by_cases c : 2 * r + q / 64 = 2 * a + b / 64
  · rw [c, fu_eq, bt_or, bt_sh (b % 64) (by omega) (q % 64) (by omega), Bool.or_eq_true, decide_eq_true_eq]
    exact or_congr Iff.rfl (by omega)
  · rw [fu_ne _ _ c]
    constructor
    · intro h; exact Or.inl h
    · intro h
      rcases h with h | ⟨h1, h2⟩
      · exact h
      · exact absurd (by rw [h1, h2]) c
theorem NB.s : NB t L (i + 1) r q ↔ (NB t L i r q ∨ (¬ t i = -1 ∧ ¬ L (ec1 i) = L (ec2 i) ∧ ((L (ec1 i) = (r : Int) ∧ L (ec2 i) = (q : Int)) ∨ (L (ec1 i) = (q : Int) ∧ L (ec2 i) = (r : Int))))) := by
  constructor
  · intro ⟨e, h1, h2⟩
    by_cases c : e = i
    · rw [c] at h2; exact Or.inr h2
    · exact Or.inl ⟨e, by omega, h2⟩
  · intro h
    rcases h with ⟨e, h1, h2⟩ | h
    · exact ⟨e, by omega, h2⟩
    · exact ⟨i, by omega, h⟩
theorem NeI.skq (h : NeI t L i g) (hn : t i = -1 ∨ L (ec1 i) = L (ec2 i)) : NeI t L (i + 1) g := fun r q hr hq => by
  rw [h r q hr hq, NB.s]
  constructor
  · intro z; exact Or.inl z
  · intro z
    rcases z with z | ⟨z1, z2, z3⟩
    · exact z
    · rcases hn with w | w
      · exact absurd w z1
      · exact absurd w z2
theorem NeI.nxq (h : NeI t L i g) (h1 : ¬ t i = -1) (h2 : ¬ L (ec1 i) = L (ec2 i)) (ha : L (ec1 i) = (a : Int)) (hb : L (ec2 i) = (b : Int)) (la : a < 100) (lb : b < 100) : NeI t L (i + 1) (stb (stb g a b) b a) := fun r q hr hq => by
  rw [stb_t hq (by omega), stb_t hq (by omega), h r q hr hq, NB.s, ha, hb, or_assoc]
  refine or_congr Iff.rfl ?_
  rw [ha, hb] at h2
  constructor
  · intro z
    exact ⟨h1, h2, by omega⟩
  · intro z
    omega
end NE
section NX
variable {W : AW} {Q : AQ} {m : Nat}
theorem tfi {i : Nat} (hi : i < 180) : tll gfi 180 i = ((ec1 i : Nat) : Int) ∧ tll gse 180 i = ((ec2 i : Nat) : Int) := by
  have h1 := tg_fi (e := (i : Int)) (by omega) (by omega)
  have h2 := tg_se (e := (i : Int)) (by omega) (by omega)
  rw [Int.toNat_natCast, ec_1 (by omega) (by omega), Int.toNat_natCast] at h1
  rw [Int.toNat_natCast, ec_2 (by omega) (by omega), Int.toNat_natCast] at h2
  exact ⟨h1, h2⟩
set_option maxRecDepth 10000 in
theorem x_near (hC : CS W) (hM : MS W m) (hm : m = 76 ∨ m = 93) (hb : lab (ar W 140)) (h0 : ∀ k, k < 200 → ar W 144 k = 0) (hQ : ∀ g, NeI (ar W (m + 6)) (ar W 140) 180 g → Q none (wu W 144 (ea 3 200 g))) : Gm 32 [vr 139, vr m] W Q := by
  have q67 : nfz = 67 := rfl
  have hw : 192 ≤ W.1 := hC.1
  have key := loop_u (P := fun i => ∀ g v3 v4, NeI (ar W (m + 6)) (ar W 140) i g → G 32 2 [some (vr 139), some (vr m), some (vi (i : Int)), v3, v4] [] (wu W 144 (ea 3 200 g)) 0 0 Q) 180 (fun i hi ih => ?_) ?_ 0 (by omega) (ar W 144) none none (fun r q hr hq => by
    rw [h0 _ (by omega), bt_0]
    exact ⟨fun z => absurd z (by decide), fun ⟨e, z, _⟩ => by omega⟩)
  · rw [wu_id (ca_144 hC)] at key
    rw [e32]
    simp (disch := omega) only [s_1, s_2, s_3, s_4, s_76, s_5, s_6, s_7, s_8, s_9, s_10, s_11, s_12, s_13, s_14, s_15, s_16, s_17, s_18, s_19, s_20, s_21, s_22, s_23, s_24, s_25, s_26, s_27, s_28, s_29, s_30, s_31, s_32, s_33, s_34, s_35, s_36, s_37, s_38, s_39, s_40l, s_40i, s_40r, s_41, s_43, t_44, t_45, t_46, t_47, s_48, s_49, s_50, s_51, s_52, s_53, s_54, s_55, s_56, s_57, s_58, s_59, s_60, s_61, s_62_0, s_62_1, s_62_2, s_66, s_67, s_68, s_69, s_70, s_71, s_72, s_73, sws_n, sws_c, lget, lset, fget, fset, nolg, nolong, avc, stw, cnd, isobj_eo, GCi, GCn, retk, List.length_cons, List.length_nil, ↓reduceIte, and_true, true_and, not_true_eq_false, not_false_eq_true, forall_const, Nat.reduceAdd, Nat.reduceLT, Nat.reduceLeDiff, Nat.lt_add_one, Nat.le_refl, Nat.zero_le, Nat.sub_zero, Int.reduceEq, Int.reduceNe, Int.reduceLT, Int.reduceLE, Int.reduceAdd, Int.reduceSub, Int.reduceMul, Int.reduceNeg, Int.reduceTDiv, Int.reduceTMod, ne_eq, reduceCtorEq, Nat.reduceEqDiff, Int.cast_ofNat_Int, true_or, or_true, false_or, or_false, lcq_0, lcq_2, lcq_3, lcq_4, lcq_5, wu_s, wu_1, wu_w, wu_lt, wu_ne, ar_s, ar_n, rr_s, rr_n, ob_n, nz_c, lt_T, lt_F, le_T, le_F, ie_T, ie_F, nt_T, nt_F, nl_T, nl_F, in_T, and_false, false_and, and_self, not_true_eq_false, Int.toNat_natCast, Int.reduceToNat, if_true, if_false, mi_32, i32_0, i32_1, i32_3, i32_6, i32_9, i32_10, i32_13, i32_14, i32_17, i32_20, i32_21, i32_22, i32_23, i32_24, i32_25, i32_28, i32_29, i32_32, i32_35, i32_36, i32_37, i32_38, i32_40, i32_41, i32_43, i32_46, i32_47, i32_48, i32_51, i32_54, i32_55, i32_58, i32_59, i32_60, i32_61, i32_63, i32_65, i32_66, i32_67, i32_68, i32_69, i32_70, i32_72, i32_74, i32_75, i32_76, i32_77, i32_78, i32_79, i32_82, i32_83, i32_85, i32_86, i32_87, i32_89, i32_90, i32_91, i32_92, i32_93, i32_94, i32_95, i32_97, i32_98, i32_99, i32_100, i32_101, i32_104, i32_107, k30, g1_0, g1_1, g3_0, g3_6, g3_7]
    exact key
  · intro g v3 v4 h
    have eb := ec_b i hi
    have f1 := tfi hi
    have l1 := hb (ec1 i) eb.1
    have l2 := hb (ec2 i) eb.2.1
    have hVM : MS (wu W 144 (ea 3 200 g)) m := hM.ot (by omega)
    have tI := fun {Q : AQ} => c_isTorn (Q := Q) (e := (i : Int)) hVM (by show m + 16 < W.1; omega) (by omega) (by omega)
    rw [ar_n (by omega), Int.toNat_natCast] at tI
    obtain ⟨a, ha⟩ : ∃ a : Nat, ar W 140 (ec1 i) = (a : Int) := ⟨(ar W 140 (ec1 i)).toNat, by omega⟩
    obtain ⟨b, hb2⟩ : ∃ b : Nat, ar W 140 (ec2 i) = (b : Int) := ⟨(ar W 140 (ec2 i)).toNat, by omega⟩
    have nx := fun g v3 v4 h => ih g v3 v4 h
    rw [nc1] at nx
    rw [i32_2]
    by_cases c1 : (a : Int) = (b : Int)
    · have e := nx g (some (vi (a : Int))) (some (vi (b : Int))) (h.skq (Or.inr (by rw [ha, hb2, c1])))
      simp (disch := omega) only [s_1, s_2, s_3, s_4, s_76, s_5, s_6, s_7, s_8, s_9, s_10, s_11, s_12, s_13, s_14, s_15, s_16, s_17, s_18, s_19, s_20, s_21, s_22, s_23, s_24, s_25, s_26, s_27, s_28, s_29, s_30, s_31, s_32, s_33, s_34, s_35, s_36, s_37, s_38, s_39, s_40l, s_40i, s_40r, s_41, s_43, t_44, t_45, t_46, t_47, s_48, s_49, s_50, s_51, s_52, s_53, s_54, s_55, s_56, s_57, s_58, s_59, s_60, s_61, s_62_0, s_62_1, s_62_2, s_66, s_67, s_68, s_69, s_70, s_71, s_72, s_73, sws_n, sws_c, lget, lset, fget, fset, nolg, nolong, avc, stw, cnd, isobj_eo, GCi, GCn, retk, List.length_cons, List.length_nil, ↓reduceIte, and_true, true_and, not_true_eq_false, not_false_eq_true, forall_const, Nat.reduceAdd, Nat.reduceLT, Nat.reduceLeDiff, Nat.lt_add_one, Nat.le_refl, Nat.zero_le, Nat.sub_zero, Int.reduceEq, Int.reduceNe, Int.reduceLT, Int.reduceLE, Int.reduceAdd, Int.reduceSub, Int.reduceMul, Int.reduceNeg, Int.reduceTDiv, Int.reduceTMod, ne_eq, reduceCtorEq, Nat.reduceEqDiff, Int.cast_ofNat_Int, true_or, or_true, false_or, or_false, lcq_0, lcq_2, lcq_3, lcq_4, lcq_5, wu_s, wu_1, wu_w, wu_lt, wu_ne, ar_s, ar_n, rr_s, rr_n, ob_n, nz_c, lt_T, lt_F, le_T, le_F, ie_T, ie_F, nt_T, nt_F, nl_T, nl_F, in_T, and_false, false_and, and_self, not_true_eq_false, Int.toNat_natCast, Int.reduceToNat, if_true, if_false, mi_32, i32_0, i32_1, i32_3, i32_6, i32_9, i32_10, i32_13, i32_14, i32_17, i32_20, i32_21, i32_22, i32_23, i32_24, i32_25, i32_28, i32_29, i32_32, i32_35, i32_36, i32_37, i32_38, i32_40, i32_41, i32_43, i32_46, i32_47, i32_48, i32_51, i32_54, i32_55, i32_58, i32_59, i32_60, i32_61, i32_63, i32_65, i32_66, i32_67, i32_68, i32_69, i32_70, i32_72, i32_74, i32_75, i32_76, i32_77, i32_78, i32_79, i32_82, i32_83, i32_85, i32_86, i32_87, i32_89, i32_90, i32_91, i32_92, i32_93, i32_94, i32_95, i32_97, i32_98, i32_99, i32_100, i32_101, i32_104, i32_107, k30, g1_0, g1_1, g3_0, g3_6, g3_7, ca_139 hC, ca_68 hC, ca_69 hC, ca_70 hC, ca_140 hC, f1.1, f1.2, ha, hb2, eq_true c1]
      exact e
    · by_cases c2 : ar W (m + 6) i = -1
      · have e := nx g (some (vi (a : Int))) (some (vi (b : Int))) (h.skq (Or.inl c2))
        simp (disch := omega) only [s_1, s_2, s_3, s_4, s_76, s_5, s_6, s_7, s_8, s_9, s_10, s_11, s_12, s_13, s_14, s_15, s_16, s_17, s_18, s_19, s_20, s_21, s_22, s_23, s_24, s_25, s_26, s_27, s_28, s_29, s_30, s_31, s_32, s_33, s_34, s_35, s_36, s_37, s_38, s_39, s_40l, s_40i, s_40r, s_41, s_43, t_44, t_45, t_46, t_47, s_48, s_49, s_50, s_51, s_52, s_53, s_54, s_55, s_56, s_57, s_58, s_59, s_60, s_61, s_62_0, s_62_1, s_62_2, s_66, s_67, s_68, s_69, s_70, s_71, s_72, s_73, sws_n, sws_c, lget, lset, fget, fset, nolg, nolong, avc, stw, cnd, isobj_eo, GCi, GCn, retk, List.length_cons, List.length_nil, ↓reduceIte, and_true, true_and, not_true_eq_false, not_false_eq_true, forall_const, Nat.reduceAdd, Nat.reduceLT, Nat.reduceLeDiff, Nat.lt_add_one, Nat.le_refl, Nat.zero_le, Nat.sub_zero, Int.reduceEq, Int.reduceNe, Int.reduceLT, Int.reduceLE, Int.reduceAdd, Int.reduceSub, Int.reduceMul, Int.reduceNeg, Int.reduceTDiv, Int.reduceTMod, ne_eq, reduceCtorEq, Nat.reduceEqDiff, Int.cast_ofNat_Int, true_or, or_true, false_or, or_false, lcq_0, lcq_2, lcq_3, lcq_4, lcq_5, wu_s, wu_1, wu_w, wu_lt, wu_ne, ar_s, ar_n, rr_s, rr_n, ob_n, nz_c, lt_T, lt_F, le_T, le_F, ie_T, ie_F, nt_T, nt_F, nl_T, nl_F, in_T, and_false, false_and, and_self, not_true_eq_false, Int.toNat_natCast, Int.reduceToNat, if_true, if_false, mi_32, i32_0, i32_1, i32_3, i32_6, i32_9, i32_10, i32_13, i32_14, i32_17, i32_20, i32_21, i32_22, i32_23, i32_24, i32_25, i32_28, i32_29, i32_32, i32_35, i32_36, i32_37, i32_38, i32_40, i32_41, i32_43, i32_46, i32_47, i32_48, i32_51, i32_54, i32_55, i32_58, i32_59, i32_60, i32_61, i32_63, i32_65, i32_66, i32_67, i32_68, i32_69, i32_70, i32_72, i32_74, i32_75, i32_76, i32_77, i32_78, i32_79, i32_82, i32_83, i32_85, i32_86, i32_87, i32_89, i32_90, i32_91, i32_92, i32_93, i32_94, i32_95, i32_97, i32_98, i32_99, i32_100, i32_101, i32_104, i32_107, k30, g1_0, g1_1, g3_0, g3_6, g3_7, ma_0 hM, ca_139 hC, ca_68 hC, ca_69 hC, ca_70 hC, ca_140 hC, f1.1, f1.2, ha, hb2, eq_false c1, tI, bi_z, Classical.not_not, c2]
        exact e
      · have e := nx (stb (stb g a b) b a) (some (vi (a : Int))) (some (vi (b : Int))) (h.nxq c2 (by rw [ha, hb2]; exact c1) ha hb2 (by omega) (by omega))
        have t1 : (2 * (a : Int) + ((b / 64 : Nat) : Int)).toNat = 2 * a + b / 64 := by omega
        have t2 : (2 * (b : Int) + ((a / 64 : Nat) : Int)).toNat = 2 * b + a / 64 := by omega
        simp (disch := omega) only [s_1, s_2, s_3, s_4, s_76, s_5, s_6, s_7, s_8, s_9, s_10, s_11, s_12, s_13, s_14, s_15, s_16, s_17, s_18, s_19, s_20, s_21, s_22, s_23, s_24, s_25, s_26, s_27, s_28, s_29, s_30, s_31, s_32, s_33, s_34, s_35, s_36, s_37, s_38, s_39, s_40l, s_40i, s_40r, s_41, s_43, t_44, t_45, t_46, t_47, s_48, s_49, s_50, s_51, s_52, s_53, s_54, s_55, s_56, s_57, s_58, s_59, s_60, s_61, s_62_0, s_62_1, s_62_2, s_66, s_67, s_68, s_69, s_70, s_71, s_72, s_73, sws_n, sws_c, lget, lset, fget, fset, nolg, nolong, avc, stw, cnd, isobj_eo, GCi, GCn, retk, List.length_cons, List.length_nil, ↓reduceIte, and_true, true_and, not_true_eq_false, not_false_eq_true, forall_const, Nat.reduceAdd, Nat.reduceLT, Nat.reduceLeDiff, Nat.lt_add_one, Nat.le_refl, Nat.zero_le, Nat.sub_zero, Int.reduceEq, Int.reduceNe, Int.reduceLT, Int.reduceLE, Int.reduceAdd, Int.reduceSub, Int.reduceMul, Int.reduceNeg, Int.reduceTDiv, Int.reduceTMod, ne_eq, reduceCtorEq, Nat.reduceEqDiff, Int.cast_ofNat_Int, true_or, or_true, false_or, or_false, lcq_0, lcq_2, lcq_3, lcq_4, lcq_5, wu_s, wu_1, wu_w, wu_lt, wu_ne, ar_s, ar_n, rr_s, rr_n, ob_n, nz_c, lt_T, lt_F, le_T, le_F, ie_T, ie_F, nt_T, nt_F, nl_T, nl_F, in_T, and_false, false_and, and_self, not_true_eq_false, Int.toNat_natCast, Int.reduceToNat, if_true, if_false, mi_32, i32_0, i32_1, i32_3, i32_6, i32_9, i32_10, i32_13, i32_14, i32_17, i32_20, i32_21, i32_22, i32_23, i32_24, i32_25, i32_28, i32_29, i32_32, i32_35, i32_36, i32_37, i32_38, i32_40, i32_41, i32_43, i32_46, i32_47, i32_48, i32_51, i32_54, i32_55, i32_58, i32_59, i32_60, i32_61, i32_63, i32_65, i32_66, i32_67, i32_68, i32_69, i32_70, i32_72, i32_74, i32_75, i32_76, i32_77, i32_78, i32_79, i32_82, i32_83, i32_85, i32_86, i32_87, i32_89, i32_90, i32_91, i32_92, i32_93, i32_94, i32_95, i32_97, i32_98, i32_99, i32_100, i32_101, i32_104, i32_107, k30, g1_0, g1_1, g3_0, g3_6, g3_7, ma_0 hM, ca_139 hC, ca_68 hC, ca_69 hC, ca_70 hC, ca_140 hC, f1.1, f1.2, ha, hb2, eq_false c1, tI, bi_z, Classical.not_not, c2, td64, tq64, t1, t2]
        exact e
  · intro g v3 v4 h
    have hq := hQ g h
    rw [i32_2]
    simp (disch := omega) only [s_1, s_2, s_3, s_4, s_76, s_5, s_6, s_7, s_8, s_9, s_10, s_11, s_12, s_13, s_14, s_15, s_16, s_17, s_18, s_19, s_20, s_21, s_22, s_23, s_24, s_25, s_26, s_27, s_28, s_29, s_30, s_31, s_32, s_33, s_34, s_35, s_36, s_37, s_38, s_39, s_40l, s_40i, s_40r, s_41, s_43, t_44, t_45, t_46, t_47, s_48, s_49, s_50, s_51, s_52, s_53, s_54, s_55, s_56, s_57, s_58, s_59, s_60, s_61, s_62_0, s_62_1, s_62_2, s_66, s_67, s_68, s_69, s_70, s_71, s_72, s_73, sws_n, sws_c, lget, lset, fget, fset, nolg, nolong, avc, stw, cnd, isobj_eo, GCi, GCn, retk, List.length_cons, List.length_nil, ↓reduceIte, and_true, true_and, not_true_eq_false, not_false_eq_true, forall_const, Nat.reduceAdd, Nat.reduceLT, Nat.reduceLeDiff, Nat.lt_add_one, Nat.le_refl, Nat.zero_le, Nat.sub_zero, Int.reduceEq, Int.reduceNe, Int.reduceLT, Int.reduceLE, Int.reduceAdd, Int.reduceSub, Int.reduceMul, Int.reduceNeg, Int.reduceTDiv, Int.reduceTMod, ne_eq, reduceCtorEq, Nat.reduceEqDiff, Int.cast_ofNat_Int, true_or, or_true, false_or, or_false, lcq_0, lcq_2, lcq_3, lcq_4, lcq_5, wu_s, wu_1, wu_w, wu_lt, wu_ne, ar_s, ar_n, rr_s, rr_n, ob_n, nz_c, lt_T, lt_F, le_T, le_F, ie_T, ie_F, nt_T, nt_F, nl_T, nl_F, in_T, and_false, false_and, and_self, not_true_eq_false, Int.toNat_natCast, Int.reduceToNat, if_true, if_false, mi_32, i32_0, i32_1, i32_3, i32_6, i32_9, i32_10, i32_13, i32_14, i32_17, i32_20, i32_21, i32_22, i32_23, i32_24, i32_25, i32_28, i32_29, i32_32, i32_35, i32_36, i32_37, i32_38, i32_40, i32_41, i32_43, i32_46, i32_47, i32_48, i32_51, i32_54, i32_55, i32_58, i32_59, i32_60, i32_61, i32_63, i32_65, i32_66, i32_67, i32_68, i32_69, i32_70, i32_72, i32_74, i32_75, i32_76, i32_77, i32_78, i32_79, i32_82, i32_83, i32_85, i32_86, i32_87, i32_89, i32_90, i32_91, i32_92, i32_93, i32_94, i32_95, i32_97, i32_98, i32_99, i32_100, i32_101, i32_104, i32_107, k30, g1_0, g1_1, g3_0, g3_6, g3_7]
    exact hq
theorem sm_add {f : Nat → Int} (a : Nat) : ∀ b, sm f (a + b) = sm f a + sm (fun j => f (a + j)) b
  | 0 => (Int.add_zero _).symm
  | b + 1 => by
    show sm f (a + b) + f (a + b) = sm f a + (sm (fun j => f (a + j)) b + f (a + b))
    rw [sm_add a b]
    omega
noncomputable def sds (t L : Nat → Int) (r : Nat) : Int := sm (fun q => bi (NB t L 180 r q)) 100 + bi (rimP L r)
theorem sds_b {t L : Nat → Int} {r : Nat} : 0 ≤ sds t L r ∧ sds t L r ≤ 101 := by
  have h1 := sm_bi (p := fun q => NB t L 180 r q) 100
  have h2 := bi_b (p := rimP L r)
  unfold sds
  omega
theorem siz_b {L : Nat → Int} {r : Nat} : 0 ≤ siz L r ∧ siz L r ≤ 100 := sm_bi (p := fun x => L x = (r : Int)) 100
theorem x_sidesOf {t L g : Nat → Int} {r : Nat} (hC : CS W) (hr : r < 100) (hb : lab L) (hg : ar W 144 = g) (hn : NeI t L 180 g) (h2 : ar W 142 r = bi (rimP L r)) : Gm 34 [vr 139, vi (r : Int)] W Q ↔ Q (some (vi (sds t L r))) W := by
  have hw : 192 ≤ W.1 := hC.1
  have p1 : pc64 (g (2 * r)) = sm (fun q => bi (NB t L 180 r q)) 64 := sm_c 64 (fun j hj => bi_c (by
    have := hn r j hr (by omega)
    rw [show 2 * r + j / 64 = 2 * r by omega, show j % 64 = j by omega] at this
    exact this))
  have p2 : pc64 (g (2 * r + 1)) = sm (fun j => bi (NB t L 180 r (64 + j))) 64 := sm_c 64 (fun j hj => bi_c (by
    have := hn r (64 + j) hr (by omega)
    rw [show 2 * r + (64 + j) / 64 = 2 * r + 1 by omega, show (64 + j) % 64 = j by omega] at this
    exact this))
  have p3 := sm_add (f := fun q => bi (NB t L 180 r q)) 64 64
  have p4 := sm_add (f := fun q => bi (NB t L 180 r q)) 100 28
  have p5 : sm (fun j => bi (NB t L 180 r (100 + j))) 28 = sm (fun _ => 0) 28 := sm_c 28 (fun j hj => bi_n (fun ⟨e, z1, z2, z3, z4⟩ => by
    have eb := ec_b e z1
    have l1 := hb (ec1 e) eb.1
    have l2 := hb (ec2 e) eb.2.1
    omega))
  rw [sm_z] at p5
  have b1 := sm_bi (p := fun q => NB t L 180 r q) 64
  have b2 := sm_bi (p := fun j => NB t L 180 r (64 + j)) 64
  have e0 : sm (fun q => bi (NB t L 180 r q)) 64 + sm (fun j => bi (NB t L 180 r (64 + j))) 64 = sm (fun q => bi (NB t L 180 r q)) 100 := by
    have e : (64 + 64 : Nat) = 100 + 28 := rfl
    rw [e] at p3
    omega
  have t0 : (2 * (r : Int)).toNat = 2 * r := by omega
  have t1 : (2 * (r : Int) + 1).toNat = 2 * r + 1 := by omega
  unfold sds
  rw [← e0, e34]
  generalize sm (fun q => bi (NB t L 180 r q)) 64 = x at *
  generalize sm (fun j => bi (NB t L 180 r (64 + j))) 64 = y at *
  by_cases c : rimP L r
  · rw [bi_p c] at h2 ⊢
    simp (disch := omega) only [s_1, s_2, s_3, s_4, s_76, s_5, s_6, s_7, s_8, s_9, s_10, s_11, s_12, s_13, s_14, s_15, s_16, s_17, s_18, s_19, s_20, s_21, s_22, s_23, s_24, s_25, s_26, s_27, s_28, s_29, s_30, s_31, s_32, s_33, s_34, s_35, s_36, s_37, s_38, s_39, s_40l, s_40i, s_40r, s_41, s_43, t_44, t_45, t_46, t_47, s_48, s_49, s_50, s_51, s_52, s_53, s_54, s_55, s_56, s_57, s_58, s_59, s_60, s_61, s_62_0, s_62_1, s_62_2, s_66, s_67, s_68, s_69, s_70, s_71, s_72, s_73, sws_n, sws_c, lget, lset, fget, fset, nolg, nolong, avc, stw, cnd, isobj_eo, GCi, GCn, retk, List.length_cons, List.length_nil, ↓reduceIte, and_true, true_and, not_true_eq_false, not_false_eq_true, forall_const, Nat.reduceAdd, Nat.reduceLT, Nat.reduceLeDiff, Nat.lt_add_one, Nat.le_refl, Nat.zero_le, Nat.sub_zero, Int.reduceEq, Int.reduceNe, Int.reduceLT, Int.reduceLE, Int.reduceAdd, Int.reduceSub, Int.reduceMul, Int.reduceNeg, Int.reduceTDiv, Int.reduceTMod, ne_eq, reduceCtorEq, Nat.reduceEqDiff, Int.cast_ofNat_Int, true_or, or_true, false_or, or_false, lcq_0, lcq_2, lcq_3, lcq_4, lcq_5, wu_s, wu_1, wu_w, wu_lt, wu_ne, ar_s, ar_n, rr_s, rr_n, ob_n, nz_c, lt_T, lt_F, le_T, le_F, ie_T, ie_F, nt_T, nt_F, nl_T, nl_F, in_T, and_false, false_and, and_self, not_true_eq_false, Int.toNat_natCast, Int.reduceToNat, if_true, if_false, mi_34, i34_0, i34_1, i34_4, i34_5, i34_6, i34_7, i34_8, i34_11, i34_12, i34_15, i34_16, i34_17, i34_18, i34_19, i34_20, i34_21, i34_24, i34_25, i34_26, i34_27, i34_30, i34_31, i34_32, i34_35, i34_36, i34_37, i34_38, i34_41, i34_42, k35, g3_2, g3_7, ca_139 hC, ca_142 hC, ca_144 hC, hg, t0, t1, x_lbits, p1, p2, h2]
  · rw [bi_n c] at h2 ⊢
    simp (disch := omega) only [s_1, s_2, s_3, s_4, s_76, s_5, s_6, s_7, s_8, s_9, s_10, s_11, s_12, s_13, s_14, s_15, s_16, s_17, s_18, s_19, s_20, s_21, s_22, s_23, s_24, s_25, s_26, s_27, s_28, s_29, s_30, s_31, s_32, s_33, s_34, s_35, s_36, s_37, s_38, s_39, s_40l, s_40i, s_40r, s_41, s_43, t_44, t_45, t_46, t_47, s_48, s_49, s_50, s_51, s_52, s_53, s_54, s_55, s_56, s_57, s_58, s_59, s_60, s_61, s_62_0, s_62_1, s_62_2, s_66, s_67, s_68, s_69, s_70, s_71, s_72, s_73, sws_n, sws_c, lget, lset, fget, fset, nolg, nolong, avc, stw, cnd, isobj_eo, GCi, GCn, retk, List.length_cons, List.length_nil, ↓reduceIte, and_true, true_and, not_true_eq_false, not_false_eq_true, forall_const, Nat.reduceAdd, Nat.reduceLT, Nat.reduceLeDiff, Nat.lt_add_one, Nat.le_refl, Nat.zero_le, Nat.sub_zero, Int.reduceEq, Int.reduceNe, Int.reduceLT, Int.reduceLE, Int.reduceAdd, Int.reduceSub, Int.reduceMul, Int.reduceNeg, Int.reduceTDiv, Int.reduceTMod, ne_eq, reduceCtorEq, Nat.reduceEqDiff, Int.cast_ofNat_Int, true_or, or_true, false_or, or_false, lcq_0, lcq_2, lcq_3, lcq_4, lcq_5, wu_s, wu_1, wu_w, wu_lt, wu_ne, ar_s, ar_n, rr_s, rr_n, ob_n, nz_c, lt_T, lt_F, le_T, le_F, ie_T, ie_F, nt_T, nt_F, nl_T, nl_F, in_T, and_false, false_and, and_self, not_true_eq_false, Int.toNat_natCast, Int.reduceToNat, if_true, if_false, mi_34, i34_0, i34_1, i34_4, i34_5, i34_6, i34_7, i34_8, i34_11, i34_12, i34_15, i34_16, i34_17, i34_18, i34_19, i34_20, i34_21, i34_24, i34_25, i34_26, i34_27, i34_30, i34_31, i34_32, i34_35, i34_36, i34_37, i34_38, i34_41, i34_42, k35, g3_2, g3_7, ca_139 hC, ca_142 hC, ca_144 hC, hg, t0, t1, x_lbits, p1, p2, h2, Int.add_zero]
end NX
