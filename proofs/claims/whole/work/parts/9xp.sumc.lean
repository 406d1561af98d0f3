-- THE CLASS: SUM OF
/-- a rule's rows are a text's -/
def TxC (sl : Int) (M sz : Nat) (gd gi gm ge s m t a b e : Nat → Int) : Prop := M ≤ 12 ∧ sz ≤ 300 ∧ nvS s (300 * sl).toNat sz ≤ 60 ∧ (∀ i, i < sz → gd i = enc sl (s ((300 * sl).toNat + i)) (m ((300 * sl).toNat + i))) ∧ ∀ j : Nat, j < M → ∃ k : Nat, k < clN sl ∧ t (clI j sl) = (k : Int) ∧ gi j = (cuI sl k : Int) ∧ gm j = b (clI j sl) ∧ ge j = e (clI j sl) ∧ a (clI j sl) = (if j = 0 then 0 else ge (j - 1)) ∧ (0 ≤ a (clI j sl) ∧ a (clI j sl) ≤ b (clI j sl) ∧ b (clI j sl) ≤ e (clI j sl) ∧ e (clI j sl) ≤ (sz : Int)) ∧ (sl < 8 → k < 2 → tyS (wNo sl) s m ((300 * sl).toNat + (a (clI j sl)).toNat) ((b (clI j sl)).toNat - (a (clI j sl)).toNat) = some [false] ∧ (b (clI j sl) = e (clI j sl) ∨ tyS (wNo sl) s m ((300 * sl).toNat + (b (clI j sl)).toNat) ((e (clI j sl)).toNat - (b (clI j sl)).toNat) = some [true])) ∧ (8 ≤ sl → tyS (wNo sl) s m ((300 * sl).toNat + (b (clI j sl)).toNat) ((e (clI j sl)).toNat - (b (clI j sl)).toNat) = some [true])
section SMC
variable {W : AW} {Q : AQ} {sl kk : Int} {M sz ll ca cb cc ce cf : Nat} {gd gi gm ge w s m t a b e : Nat → Int}
/-- what the class makes of some entries -/
theorem x_res {A B : Int} {τ : Bool} (hC : CS W) (hx : TxC sl M sz gd gi gm ge s m t a b e) (hd : W.2 ca = ea 0 sz gd) (bd : 192 ≤ ca ∧ ca < W.1) (hw2 : ∀ v : Int, 0 ≤ v → v < wNo sl → w v.toNat = ar W 128 (wmp sl v).toNat) (hA : 0 ≤ A) (hAB : A ≤ B) (hB : B ≤ (sz : Int)) (ht : tyS (wNo sl) s m ((300 * sl).toNat + A.toNat) (B.toNat - A.toNat) = some [τ]) (hQ : ∀ g2, Q (some (vl ((evS w s m ((300 * sl).toNat + A.toNat) (B.toNat - A.toNat)).headD 0))) (wu W 129 (ea 3 60 g2))) (g : Nat → Int) : Gm 52 [vr 127, vr ca, vi A, vi B] (wu W 129 (ea 3 60 g)) Q := by
  obtain ⟨h1, h2, h3, h4, -⟩ := hx
  have e1 : ar (wu W 129 (ea 3 60 g)) 128 = ar W 128 := ar_n (by decide)
  have nv : nvS s ((300 * sl).toNat + A.toNat) (B.toNat - A.toNat) ≤ 60 := by
    have x1 := nvS_a (s := s) (a := (300 * sl).toNat) (i := A.toNat) (B.toNat - A.toNat)
    have x2 := nvS_a (s := s) (a := (300 * sl).toNat) (i := B.toNat) (sz - B.toNat)
    have p1 := nvS_p (s := s) (a := (300 * sl).toNat) A.toNat
    have p2 := nvS_p (s := s) (a := (300 * sl).toNat + B.toNat) (sz - B.toNat)
    rw [show A.toNat + (B.toNat - A.toNat) = B.toNat by omega] at x1
    rw [show B.toNat + (sz - B.toNat) = sz by omega] at x2
    omega
  have y := x_result (W := wu W 129 (ea 3 60 g)) (Q := Q) (sl := sl) (B := (300 * sl).toNat) (A := A.toNat) (K := B.toNat - A.toNat) (sz := sz) (ca := ca) (cd := gd) (t := τ) (w := w) (s := s) (m := m) (cu_129 hC) (by rw [wu_ne (by omega)]; exact hd) bd.1 bd.2 (by omega) (by omega) (fun i x y => h4 i (by omega)) ht nv (fun v p q => by rw [e1]; exact hw2 v p q) (fun g2 => by rw [wu_w]; exact hQ g2)
  rw [show ((A.toNat + (B.toNat - A.toNat) : Nat) : Int) = B by omega, Int.toNat_of_nonneg hA] at y
  exact y
set_option maxRecDepth 10000 in
theorem x_sumOf (hC : CS W) (hs : 0 ≤ sl ∧ sl < 8) (hx : TxC sl M sz gd gi gm ge s m t a b e) (hk : kk = 0 ∨ kk = 1) (hl : W.2 ll = o6 ca cb cc ce cf) (hd : W.2 ca = ea 0 sz gd) (hi : W.2 cb = ea 0 M gi) (hm : W.2 cc = ea 0 M gm) (he : W.2 ce = ea 0 M ge) (bl : 192 ≤ ll ∧ ll < W.1) (bd : 192 ≤ ca ∧ ca < W.1) (bi : 192 ≤ cb ∧ cb < W.1) (bm : 192 ≤ cc ∧ cc < W.1) (be : 192 ≤ ce ∧ ce < W.1) (hw2 : ∀ v : Int, 0 ≤ v → v < wNo sl → w v.toNat = ar W 128 (wmp sl v).toNat) (hQ : ∀ g, Q (some (vl (smV sl kk w s m t a b e M 0))) (wu W 129 (ea 3 60 g))) : Gm 51 [vr 127, vr ll, vi (6 + kk)] W Q := by
  have hw : 192 ≤ W.1 := hC.1
  have a127 := ca_127 hC
  have a129 := ca_129 hC
  obtain ⟨h1, h2, h3, h4, h5⟩ := id hx
  have mb : M < 2147483648 := by omega
  have res := fun (A B : Int) (τ : Bool) (Q : AQ) hA hAB hB ht hq g => x_res (W := W) (A := A) (B := B) (τ := τ) (Q := Q) (ca := ca) (w := w) hC hx hd bd hw2 hA hAB hB ht hq g
  obtain ⟨V, hV⟩ : ∃ V, smV sl kk w s m t a b e M 0 = V := ⟨_, rfl⟩
  rw [hV] at hQ
  have loop : ∀ (f j : Nat) (g : Nat → Int) (o5 o6 : Option AV), nolong o5 → nolong o6 → j + f = M → smV sl kk w s m t a b e f j = V → G 51 5 [some (vr 127), some (vr ll), some (vi (6 + kk)), some (vi (if j = 0 then 0 else ge (j - 1))), some (vi (j : Int)), o5, o6] [] (wu W 129 (ea 3 60 g)) 0 0 Q := by
    intro f
    induction f with
    | zero =>
      intro j g o5 o6 q5 q6 hjf hev
      have jM : j = M := by omega
      subst jM
      have q := hQ g
      rw [← hev] at q
      have q : Q (some (vl 0)) (wu W 129 (ea 3 60 g)) := q
      have c1 : ¬ (j : Int) < (j : Int) := by omega
      rw [i51_5]
      simp (disch := omega) only [s_1, s_2, s_3, s_4, s_76, s_5, s_6, s_7, s_8, s_9, s_10, s_11, s_12, s_13, s_14, s_15, s_16, s_17, s_18, s_19, s_20, s_21, s_22, s_23, s_24, s_25, s_26, s_27, s_28, s_29, s_30, s_31, s_32, s_33, s_34, s_35, s_36, s_37, s_38, s_39, s_40l, s_40i, s_40r, s_41, s_43, t_44, t_45, t_46, t_47, s_48, s_49, s_50, s_51, s_52, s_53, s_54, s_55, s_56, s_57, s_58, s_59, s_60, s_61, s_62_0, s_62_1, s_62_2, s_66, s_67, s_68, s_69, s_70, s_71, s_72, s_73, sws_n, sws_c, lget, lset, fget, fset, nolg, nolong, avc, stw, cnd, isobj_eo, GCi, GCn, retk, List.length_cons, List.length_nil, ↓reduceIte, and_true, true_and, not_true_eq_false, not_false_eq_true, forall_const, Nat.reduceAdd, Nat.reduceLT, Nat.reduceLeDiff, Nat.lt_add_one, Nat.le_refl, Nat.zero_le, Nat.sub_zero, Int.reduceEq, Int.reduceNe, Int.reduceLT, Int.reduceLE, Int.reduceAdd, Int.reduceSub, Int.reduceMul, Int.reduceNeg, Int.reduceTDiv, Int.reduceTMod, ne_eq, reduceCtorEq, Nat.reduceEqDiff, Int.cast_ofNat_Int, true_or, or_true, false_or, or_false, lcq_0, lcq_2, lcq_3, lcq_4, lcq_5, wu_s, wu_1, wu_w, wu_lt, wu_ne, ar_s, ar_n, rr_s, rr_n, ob_n, nz_c, lt_T, lt_F, le_T, le_F, ie_T, ie_F, nt_T, nt_F, nl_T, nl_F, in_T, and_false, false_and, and_self, not_true_eq_false, Int.toNat_natCast, Int.reduceToNat, if_true, if_false, mi_51, i51_0, i51_1, i51_2, i51_3, i51_5, i51_7, i51_8, i51_11, i51_12, i51_15, i51_16, i51_19, i51_21, i51_22, i51_24, i51_25, i51_28, i51_30, i51_31, i51_33, i51_34, i51_37, i51_39, i51_40, i51_41, i51_44, i51_46, i51_48, i51_51, i51_52, i51_53, i51_56, i51_58, i51_60, i51_63, i51_64, i51_65, i51_68, i51_69, i51_70, i51_73, i51_74, i51_76, i51_79, i51_80, i51_82, i51_83, i51_86, i51_89, i51_90, k52, g6_0, g6_1, g6_2, g6_3, hl, hi, mb, c1]
      exact q
    | succ f ih =>
      intro j g o5 o6 q5 q6 hjf hev
      obtain ⟨k, k1, k2, k3, k4, k5, k6, k7, k8, -⟩ := h5 j (by omega)
      have c1 : (j : Int) < (M : Int) := by omega
      have c0 : (0 : Int) ≤ (j : Int) := by omega
      have e1 : (j : Int) + 1 = ((j + 1 : Nat) : Int) := by omega
      have i2 : in32 (((j + 1 : Nat) : Int)) := by unfold in32; omega
      have nx := fun g o5 o6 q5 q6 => ih (j + 1) g o5 o6 q5 q6 (by omega)
      rw [if_neg (show ¬ j + 1 = 0 by omega), Nat.add_sub_cancel] at nx
      rw [← k6]
      unfold smV at hev
      generalize clI j sl = i at *
      have ki : (gi j = 6 + kk) ↔ (t i = kk) := by
        rw [k3, k2]
        unfold clN at k1
        rw [if_pos hs.2] at k1
        have w1 := cuI_s (s := sl) hs.2 k1
        by_cases w2 : k < 2
        · have := w1.1 w2
          omega
        · have := w1.2 (by omega)
          omega
      rw [i51_5]
      by_cases ck : t i = kk
      · have cg := ki.mpr ck
        have k9 := k8 hs.2 (by omega)
        have go2 : V = (evS w s m ((300 * sl).toNat + (a i).toNat) ((b i).toNat - (a i).toNat)).headD 0 → ∀ g o5 o6, Gm 52 [vr 127, vr ca, vi (a i), vi (b i)] (wu W 129 (ea 3 60 g)) (GC 51 79 [some (vr 127), some (vr ll), some (vi (6 + kk)), some (vi (a i)), some (vi (j : Int)), o5, o6] [] 0 0 Q) := by
          intro hE g o5 o6
          refine res _ _ false _ k7.1 k7.2.1 (by omega) k9.1 (fun g2 => ?_) g
          rw [← hE]
          simp (disch := omega) only [s_1, s_2, s_3, s_4, s_76, s_5, s_6, s_7, s_8, s_9, s_10, s_11, s_12, s_13, s_14, s_15, s_16, s_17, s_18, s_19, s_20, s_21, s_22, s_23, s_24, s_25, s_26, s_27, s_28, s_29, s_30, s_31, s_32, s_33, s_34, s_35, s_36, s_37, s_38, s_39, s_40l, s_40i, s_40r, s_41, s_43, t_44, t_45, t_46, t_47, s_48, s_49, s_50, s_51, s_52, s_53, s_54, s_55, s_56, s_57, s_58, s_59, s_60, s_61, s_62_0, s_62_1, s_62_2, s_66, s_67, s_68, s_69, s_70, s_71, s_72, s_73, sws_n, sws_c, lget, lset, fget, fset, nolg, nolong, avc, stw, cnd, isobj_eo, GCi, GCn, retk, List.length_cons, List.length_nil, ↓reduceIte, and_true, true_and, not_true_eq_false, not_false_eq_true, forall_const, Nat.reduceAdd, Nat.reduceLT, Nat.reduceLeDiff, Nat.lt_add_one, Nat.le_refl, Nat.zero_le, Nat.sub_zero, Int.reduceEq, Int.reduceNe, Int.reduceLT, Int.reduceLE, Int.reduceAdd, Int.reduceSub, Int.reduceMul, Int.reduceNeg, Int.reduceTDiv, Int.reduceTMod, ne_eq, reduceCtorEq, Nat.reduceEqDiff, Int.cast_ofNat_Int, true_or, or_true, false_or, or_false, lcq_0, lcq_2, lcq_3, lcq_4, lcq_5, wu_s, wu_1, wu_w, wu_lt, wu_ne, ar_s, ar_n, rr_s, rr_n, ob_n, nz_c, lt_T, lt_F, le_T, le_F, ie_T, ie_F, nt_T, nt_F, nl_T, nl_F, in_T, and_false, false_and, and_self, not_true_eq_false, Int.toNat_natCast, Int.reduceToNat, if_true, if_false, mi_51, i51_0, i51_1, i51_2, i51_3, i51_5, i51_7, i51_8, i51_11, i51_12, i51_15, i51_16, i51_19, i51_21, i51_22, i51_24, i51_25, i51_28, i51_30, i51_31, i51_33, i51_34, i51_37, i51_39, i51_40, i51_41, i51_44, i51_46, i51_48, i51_51, i51_52, i51_53, i51_56, i51_58, i51_60, i51_63, i51_64, i51_65, i51_68, i51_69, i51_70, i51_73, i51_74, i51_76, i51_79, i51_80, i51_82, i51_83, i51_86, i51_89, i51_90, k52, g6_0, g6_1, g6_2, g6_3]
          exact hQ g2
        by_cases cm : b i = e i
        · rw [if_pos ⟨ck, Or.inl cm⟩] at hev
          have g2 := go2 hev.symm g (some (vi (b i))) (some (vi (e i)))
          rw [cm] at g2 k4
          simp (disch := omega) only [s_1, s_2, s_3, s_4, s_76, s_5, s_6, s_7, s_8, s_9, s_10, s_11, s_12, s_13, s_14, s_15, s_16, s_17, s_18, s_19, s_20, s_21, s_22, s_23, s_24, s_25, s_26, s_27, s_28, s_29, s_30, s_31, s_32, s_33, s_34, s_35, s_36, s_37, s_38, s_39, s_40l, s_40i, s_40r, s_41, s_43, t_44, t_45, t_46, t_47, s_48, s_49, s_50, s_51, s_52, s_53, s_54, s_55, s_56, s_57, s_58, s_59, s_60, s_61, s_62_0, s_62_1, s_62_2, s_66, s_67, s_68, s_69, s_70, s_71, s_72, s_73, sws_n, sws_c, lget, lset, fget, fset, nolg, nolong, avc, stw, cnd, isobj_eo, GCi, GCn, retk, List.length_cons, List.length_nil, ↓reduceIte, and_true, true_and, not_true_eq_false, not_false_eq_true, forall_const, Nat.reduceAdd, Nat.reduceLT, Nat.reduceLeDiff, Nat.lt_add_one, Nat.le_refl, Nat.zero_le, Nat.sub_zero, Int.reduceEq, Int.reduceNe, Int.reduceLT, Int.reduceLE, Int.reduceAdd, Int.reduceSub, Int.reduceMul, Int.reduceNeg, Int.reduceTDiv, Int.reduceTMod, ne_eq, reduceCtorEq, Nat.reduceEqDiff, Int.cast_ofNat_Int, true_or, or_true, false_or, or_false, lcq_0, lcq_2, lcq_3, lcq_4, lcq_5, wu_s, wu_1, wu_w, wu_lt, wu_ne, ar_s, ar_n, rr_s, rr_n, ob_n, nz_c, lt_T, lt_F, le_T, le_F, ie_T, ie_F, nt_T, nt_F, nl_T, nl_F, in_T, and_false, false_and, and_self, not_true_eq_false, Int.toNat_natCast, Int.reduceToNat, if_true, if_false, mi_51, i51_0, i51_1, i51_2, i51_3, i51_7, i51_8, i51_11, i51_12, i51_15, i51_16, i51_19, i51_21, i51_22, i51_24, i51_25, i51_28, i51_30, i51_31, i51_33, i51_34, i51_37, i51_39, i51_40, i51_41, i51_44, i51_46, i51_48, i51_51, i51_52, i51_53, i51_56, i51_58, i51_60, i51_63, i51_64, i51_65, i51_68, i51_69, i51_70, i51_73, i51_74, i51_76, i51_79, i51_80, i51_82, i51_83, i51_86, i51_89, i51_90, k52, g6_0, g6_1, g6_2, g6_3, a127, hl, hi, hm, he, hd, mb, c0, c1, cg, k4, k5, q5, q6]
          exact g2
        · have k10 := k9.2.resolve_left cm
          simp (disch := omega) only [s_1, s_2, s_3, s_4, s_76, s_5, s_6, s_7, s_8, s_9, s_10, s_11, s_12, s_13, s_14, s_15, s_16, s_17, s_18, s_19, s_20, s_21, s_22, s_23, s_24, s_25, s_26, s_27, s_28, s_29, s_30, s_31, s_32, s_33, s_34, s_35, s_36, s_37, s_38, s_39, s_40l, s_40i, s_40r, s_41, s_43, t_44, t_45, t_46, t_47, s_48, s_49, s_50, s_51, s_52, s_53, s_54, s_55, s_56, s_57, s_58, s_59, s_60, s_61, s_62_0, s_62_1, s_62_2, s_66, s_67, s_68, s_69, s_70, s_71, s_72, s_73, sws_n, sws_c, lget, lset, fget, fset, nolg, nolong, avc, stw, cnd, isobj_eo, GCi, GCn, retk, List.length_cons, List.length_nil, ↓reduceIte, and_true, true_and, not_true_eq_false, not_false_eq_true, forall_const, Nat.reduceAdd, Nat.reduceLT, Nat.reduceLeDiff, Nat.lt_add_one, Nat.le_refl, Nat.zero_le, Nat.sub_zero, Int.reduceEq, Int.reduceNe, Int.reduceLT, Int.reduceLE, Int.reduceAdd, Int.reduceSub, Int.reduceMul, Int.reduceNeg, Int.reduceTDiv, Int.reduceTMod, ne_eq, reduceCtorEq, Nat.reduceEqDiff, Int.cast_ofNat_Int, true_or, or_true, false_or, or_false, lcq_0, lcq_2, lcq_3, lcq_4, lcq_5, wu_s, wu_1, wu_w, wu_lt, wu_ne, ar_s, ar_n, rr_s, rr_n, ob_n, nz_c, lt_T, lt_F, le_T, le_F, ie_T, ie_F, nt_T, nt_F, nl_T, nl_F, in_T, and_false, false_and, and_self, not_true_eq_false, Int.toNat_natCast, Int.reduceToNat, if_true, if_false, mi_51, i51_0, i51_1, i51_2, i51_3, i51_7, i51_8, i51_11, i51_12, i51_15, i51_16, i51_19, i51_21, i51_22, i51_24, i51_25, i51_28, i51_30, i51_31, i51_33, i51_34, i51_37, i51_39, i51_40, i51_41, i51_44, i51_46, i51_48, i51_51, i51_52, i51_53, i51_56, i51_58, i51_60, i51_63, i51_64, i51_65, i51_68, i51_69, i51_70, i51_73, i51_74, i51_76, i51_79, i51_80, i51_82, i51_83, i51_86, i51_89, i51_90, k52, g6_0, g6_1, g6_2, g6_3, a127, hl, hi, hm, he, hd, mb, c0, c1, cg, k4, k5, cm, q5, q6]
          refine res _ _ true _ (by omega) k7.2.2.1 k7.2.2.2 k10 (fun g2 => ?_) g
          have ok := okS (w := w) k10
          by_cases cE : (evS w s m ((300 * sl).toNat + (b i).toNat) ((e i).toNat - (b i).toNat)).headD 0 = 1
          · rw [if_pos ⟨ck, Or.inr cE⟩] at hev
            rw [cE]
            have g3 := go2 hev.symm g2 (some (vi (b i))) (some (vi (e i)))
            simp (disch := omega) only [s_1, s_2, s_3, s_4, s_76, s_5, s_6, s_7, s_8, s_9, s_10, s_11, s_12, s_13, s_14, s_15, s_16, s_17, s_18, s_19, s_20, s_21, s_22, s_23, s_24, s_25, s_26, s_27, s_28, s_29, s_30, s_31, s_32, s_33, s_34, s_35, s_36, s_37, s_38, s_39, s_40l, s_40i, s_40r, s_41, s_43, t_44, t_45, t_46, t_47, s_48, s_49, s_50, s_51, s_52, s_53, s_54, s_55, s_56, s_57, s_58, s_59, s_60, s_61, s_62_0, s_62_1, s_62_2, s_66, s_67, s_68, s_69, s_70, s_71, s_72, s_73, sws_n, sws_c, lget, lset, fget, fset, nolg, nolong, avc, stw, cnd, isobj_eo, GCi, GCn, retk, List.length_cons, List.length_nil, ↓reduceIte, and_true, true_and, not_true_eq_false, not_false_eq_true, forall_const, Nat.reduceAdd, Nat.reduceLT, Nat.reduceLeDiff, Nat.lt_add_one, Nat.le_refl, Nat.zero_le, Nat.sub_zero, Int.reduceEq, Int.reduceNe, Int.reduceLT, Int.reduceLE, Int.reduceAdd, Int.reduceSub, Int.reduceMul, Int.reduceNeg, Int.reduceTDiv, Int.reduceTMod, ne_eq, reduceCtorEq, Nat.reduceEqDiff, Int.cast_ofNat_Int, true_or, or_true, false_or, or_false, lcq_0, lcq_2, lcq_3, lcq_4, lcq_5, wu_s, wu_1, wu_w, wu_lt, wu_ne, ar_s, ar_n, rr_s, rr_n, ob_n, nz_c, lt_T, lt_F, le_T, le_F, ie_T, ie_F, nt_T, nt_F, nl_T, nl_F, in_T, and_false, false_and, and_self, not_true_eq_false, Int.toNat_natCast, Int.reduceToNat, if_true, if_false, mi_51, i51_0, i51_1, i51_2, i51_3, i51_7, i51_8, i51_11, i51_12, i51_15, i51_16, i51_19, i51_21, i51_22, i51_24, i51_25, i51_28, i51_30, i51_31, i51_33, i51_34, i51_37, i51_39, i51_40, i51_41, i51_44, i51_46, i51_48, i51_51, i51_52, i51_53, i51_56, i51_58, i51_60, i51_63, i51_64, i51_65, i51_68, i51_69, i51_70, i51_73, i51_74, i51_76, i51_79, i51_80, i51_82, i51_83, i51_86, i51_89, i51_90, k52, g6_0, g6_1, g6_2, g6_3, a127, hl, hi, hm, he, hd, mb, c0, c1, cg, k4, k5, cm, q5, q6]
            exact g3
          · rw [if_neg (fun z => z.2.elim cm cE)] at hev
            have z0 : (evS w s m ((300 * sl).toNat + (b i).toNat) ((e i).toNat - (b i).toNat)).headD 0 = 0 := by
              generalize evS w s m ((300 * sl).toNat + (b i).toNat) ((e i).toNat - (b i).toNat) = l at *
              match l, ok, cE with
              | [x], ok, cE => exact (ok.1 rfl).resolve_right cE
            rw [z0]
            have n2 := nx g2 (some (vi (b i))) (some (vi (e i))) trivial trivial hev
            rw [k5] at n2
            simp (disch := omega) only [s_1, s_2, s_3, s_4, s_76, s_5, s_6, s_7, s_8, s_9, s_10, s_11, s_12, s_13, s_14, s_15, s_16, s_17, s_18, s_19, s_20, s_21, s_22, s_23, s_24, s_25, s_26, s_27, s_28, s_29, s_30, s_31, s_32, s_33, s_34, s_35, s_36, s_37, s_38, s_39, s_40l, s_40i, s_40r, s_41, s_43, t_44, t_45, t_46, t_47, s_48, s_49, s_50, s_51, s_52, s_53, s_54, s_55, s_56, s_57, s_58, s_59, s_60, s_61, s_62_0, s_62_1, s_62_2, s_66, s_67, s_68, s_69, s_70, s_71, s_72, s_73, sws_n, sws_c, lget, lset, fget, fset, nolg, nolong, avc, stw, cnd, isobj_eo, GCi, GCn, retk, List.length_cons, List.length_nil, ↓reduceIte, and_true, true_and, not_true_eq_false, not_false_eq_true, forall_const, Nat.reduceAdd, Nat.reduceLT, Nat.reduceLeDiff, Nat.lt_add_one, Nat.le_refl, Nat.zero_le, Nat.sub_zero, Int.reduceEq, Int.reduceNe, Int.reduceLT, Int.reduceLE, Int.reduceAdd, Int.reduceSub, Int.reduceMul, Int.reduceNeg, Int.reduceTDiv, Int.reduceTMod, ne_eq, reduceCtorEq, Nat.reduceEqDiff, Int.cast_ofNat_Int, true_or, or_true, false_or, or_false, lcq_0, lcq_2, lcq_3, lcq_4, lcq_5, wu_s, wu_1, wu_w, wu_lt, wu_ne, ar_s, ar_n, rr_s, rr_n, ob_n, nz_c, lt_T, lt_F, le_T, le_F, ie_T, ie_F, nt_T, nt_F, nl_T, nl_F, in_T, and_false, false_and, and_self, not_true_eq_false, Int.toNat_natCast, Int.reduceToNat, if_true, if_false, mi_51, i51_0, i51_1, i51_2, i51_3, i51_7, i51_8, i51_11, i51_12, i51_15, i51_16, i51_19, i51_21, i51_22, i51_24, i51_25, i51_28, i51_30, i51_31, i51_33, i51_34, i51_37, i51_39, i51_40, i51_41, i51_44, i51_46, i51_48, i51_51, i51_52, i51_53, i51_56, i51_58, i51_60, i51_63, i51_64, i51_65, i51_68, i51_69, i51_70, i51_73, i51_74, i51_76, i51_79, i51_80, i51_82, i51_83, i51_86, i51_89, i51_90, k52, g6_0, g6_1, g6_2, g6_3, a127, hl, hi, hm, he, hd, mb, c0, c1, cg, k4, k5, cm, q5, q6, e1, i2]
            exact n2
      · have cg : ¬ gi j = 6 + kk := fun z => ck (ki.mp z)
        rw [if_neg (fun z => ck z.1)] at hev
        have n2 := nx g (some (vi (b i))) (some (vi (e i))) trivial trivial hev
        rw [k5] at n2
        simp (disch := omega) only [s_1, s_2, s_3, s_4, s_76, s_5, s_6, s_7, s_8, s_9, s_10, s_11, s_12, s_13, s_14, s_15, s_16, s_17, s_18, s_19, s_20, s_21, s_22, s_23, s_24, s_25, s_26, s_27, s_28, s_29, s_30, s_31, s_32, s_33, s_34, s_35, s_36, s_37, s_38, s_39, s_40l, s_40i, s_40r, s_41, s_43, t_44, t_45, t_46, t_47, s_48, s_49, s_50, s_51, s_52, s_53, s_54, s_55, s_56, s_57, s_58, s_59, s_60, s_61, s_62_0, s_62_1, s_62_2, s_66, s_67, s_68, s_69, s_70, s_71, s_72, s_73, sws_n, sws_c, lget, lset, fget, fset, nolg, nolong, avc, stw, cnd, isobj_eo, GCi, GCn, retk, List.length_cons, List.length_nil, ↓reduceIte, and_true, true_and, not_true_eq_false, not_false_eq_true, forall_const, Nat.reduceAdd, Nat.reduceLT, Nat.reduceLeDiff, Nat.lt_add_one, Nat.le_refl, Nat.zero_le, Nat.sub_zero, Int.reduceEq, Int.reduceNe, Int.reduceLT, Int.reduceLE, Int.reduceAdd, Int.reduceSub, Int.reduceMul, Int.reduceNeg, Int.reduceTDiv, Int.reduceTMod, ne_eq, reduceCtorEq, Nat.reduceEqDiff, Int.cast_ofNat_Int, true_or, or_true, false_or, or_false, lcq_0, lcq_2, lcq_3, lcq_4, lcq_5, wu_s, wu_1, wu_w, wu_lt, wu_ne, ar_s, ar_n, rr_s, rr_n, ob_n, nz_c, lt_T, lt_F, le_T, le_F, ie_T, ie_F, nt_T, nt_F, nl_T, nl_F, in_T, and_false, false_and, and_self, not_true_eq_false, Int.toNat_natCast, Int.reduceToNat, if_true, if_false, mi_51, i51_0, i51_1, i51_2, i51_3, i51_7, i51_8, i51_11, i51_12, i51_15, i51_16, i51_19, i51_21, i51_22, i51_24, i51_25, i51_28, i51_30, i51_31, i51_33, i51_34, i51_37, i51_39, i51_40, i51_41, i51_44, i51_46, i51_48, i51_51, i51_52, i51_53, i51_56, i51_58, i51_60, i51_63, i51_64, i51_65, i51_68, i51_69, i51_70, i51_73, i51_74, i51_76, i51_79, i51_80, i51_82, i51_83, i51_86, i51_89, i51_90, k52, g6_0, g6_1, g6_2, g6_3, a127, hl, hi, hm, he, hd, mb, c0, c1, cg, k4, k5, q5, q6, e1, i2]
        exact n2
  have l0 := loop M 0 (ar W 129) none none trivial trivial (by omega) hV
  rw [wu_id a129, if_pos rfl] at l0
  rw [e51]
  simp (disch := omega) only [s_1, s_2, s_3, s_4, s_76, s_5, s_6, s_7, s_8, s_9, s_10, s_11, s_12, s_13, s_14, s_15, s_16, s_17, s_18, s_19, s_20, s_21, s_22, s_23, s_24, s_25, s_26, s_27, s_28, s_29, s_30, s_31, s_32, s_33, s_34, s_35, s_36, s_37, s_38, s_39, s_40l, s_40i, s_40r, s_41, s_43, t_44, t_45, t_46, t_47, s_48, s_49, s_50, s_51, s_52, s_53, s_54, s_55, s_56, s_57, s_58, s_59, s_60, s_61, s_62_0, s_62_1, s_62_2, s_66, s_67, s_68, s_69, s_70, s_71, s_72, s_73, sws_n, sws_c, lget, lset, fget, fset, nolg, nolong, avc, stw, cnd, isobj_eo, GCi, GCn, retk, List.length_cons, List.length_nil, ↓reduceIte, and_true, true_and, not_true_eq_false, not_false_eq_true, forall_const, Nat.reduceAdd, Nat.reduceLT, Nat.reduceLeDiff, Nat.lt_add_one, Nat.le_refl, Nat.zero_le, Nat.sub_zero, Int.reduceEq, Int.reduceNe, Int.reduceLT, Int.reduceLE, Int.reduceAdd, Int.reduceSub, Int.reduceMul, Int.reduceNeg, Int.reduceTDiv, Int.reduceTMod, ne_eq, reduceCtorEq, Nat.reduceEqDiff, Int.cast_ofNat_Int, true_or, or_true, false_or, or_false, lcq_0, lcq_2, lcq_3, lcq_4, lcq_5, wu_s, wu_1, wu_w, wu_lt, wu_ne, ar_s, ar_n, rr_s, rr_n, ob_n, nz_c, lt_T, lt_F, le_T, le_F, ie_T, ie_F, nt_T, nt_F, nl_T, nl_F, in_T, and_false, false_and, and_self, not_true_eq_false, Int.toNat_natCast, Int.reduceToNat, if_true, if_false, mi_51, i51_0, i51_1, i51_2, i51_3, i51_7, i51_8, i51_11, i51_12, i51_15, i51_16, i51_19, i51_21, i51_22, i51_24, i51_25, i51_28, i51_30, i51_31, i51_33, i51_34, i51_37, i51_39, i51_40, i51_41, i51_44, i51_46, i51_48, i51_51, i51_52, i51_53, i51_56, i51_58, i51_60, i51_63, i51_64, i51_65, i51_68, i51_69, i51_70, i51_73, i51_74, i51_76, i51_79, i51_80, i51_82, i51_83, i51_86, i51_89, i51_90, k52, g6_0, g6_1, g6_2, g6_3]
  exact l0
end SMC
