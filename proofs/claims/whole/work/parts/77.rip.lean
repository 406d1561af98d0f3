-- THE CLASS: an edge is torn
section C4
variable {W V : AW} {Q : AQ} {m ll : Nat} {e t : Int} {lw : LW}
def LinQ (T w : Nat → Int) (l e : Int) (p0 p : Nat → Int) (n : Int) : Prop := ∀ x : Nat, x < 180 → (p x = p0 x ∧ ∀ k : Int, 0 ≤ k → k < n → ¬ (x : Int) = e - epl e * esd e + k * esd e) ∨ (T x = -1 → p x = pul T w l x)
set_option maxHeartbeats 1000000 in
theorem rip_loop (hV : CW V m ll lw) (hk : LwOk lw) (hw : Thou (ar V (m + 1))) (h0 : 0 ≤ e) (h1 : e < 180) {v5 : Option AV} (n5 : nolong v5) (p0 : Nat → Int)
    (hQ : ∀ p, LinQ (ar V (m + 6)) (ar V (m + 1)) (lw.2 5) e p0 p 9 → Q none (wu V 131 (ea 0 180 p))) :
    G 110 44 [some (vr 130), some (vi e), some (vi t), some (vi (e - epl e * esd e)), some (vi 0), v5] [] (wu V 131 (ea 0 180 p0)) 0 0 Q := by
  have hm := hV.hm
  have mw := hV.mw
  have q67 : nfz = 67 := rfl
  refine loop_u (P := fun k => ∀ (p : Nat → Int) (v5 : Option AV), nolong v5 → LinQ (ar V (m + 6)) (ar V (m + 1)) (lw.2 5) e p0 p k → G 110 44 [some (vr 130), some (vi e), some (vi t), some (vi (e - epl e * esd e)), some (vi (k : Int)), v5] [] (wu V 131 (ea 0 180 p)) 0 0 Q) 9 (fun k hk9 ih => ?_) ?_ 0 (by decide) p0 v5 n5 (fun x _ => Or.inl ⟨rfl, fun k a b => by omega⟩)
  · intro p v5 n5 hp
    have hl := lin_b h0 h1 (k := (k : Int)) (by omega) (by omega)
    have hC2 : CW (wu V 131 (ea 0 180 p)) m ll lw := cw_131 hV
    have hG : V.2 130 = o10 m ll (ob V 130) := hV.2.2.1
    have hC := hV.1
    have hM := hV.2.1
    have ihS : ∀ p2, LinQ (ar V (m + 6)) (ar V (m + 1)) (lw.2 5) e p0 p2 ((k : Int) + 1) → G 110 44 [some (vr 130), some (vi e), some (vi t), some (vi (e - epl e * esd e)), some (vi ((k : Int) + 1)), some (vi (e - epl e * esd e + k * esd e))] [] (wu V 131 (ea 0 180 p2)) 0 0 Q := fun p2 h2 => ih p2 _ trivial h2
    have hw192 : 192 ≤ V.1 := hC.1
    obtain ⟨l0, l1, l2, l3, l4⟩ := hl
    have l5 : in32 (e - epl e * esd e + (k : Int) * esd e) := by unfold in32; omega
    have tI := fun {Q : AQ} => c_isTorn (Q := Q) (e := e - epl e * esd e + k * esd e) hC2.2.1 hC2.mw l0 l1
    have pI := fun {Q : AQ} => c_pullOf (Q := Q) (e := e - epl e * esd e + k * esd e) hC2 hk (by rw [ar_n (by omega)]; exact hw) l0 l1
    rw [ar_n (by omega)] at tI
    rw [ar_n (by omega), ar_n (by omega)] at pI
    generalize hx : e - epl e * esd e + (k : Int) * esd e = x at l0 l1 l5 tI pI ihS
    have hx2 : ((x.toNat : Nat) : Int) = x := by omega
    rw [i110_44]
    by_cases c : ar V (m + 6) x.toNat = -1
    · have q := ihS (fu p x.toNat (pul (ar V (m + 6)) (ar V (m + 1)) (lw.2 5) x)) (fun y hy => by
        by_cases cy : y = x.toNat
        · subst cy
          right
          intro _
          rw [fu_eq, hx2]
        · rw [fu_ne _ _ cy]
          rcases hp y hy with ⟨a, b⟩ | a
          · refine Or.inl ⟨a, fun k2 a2 b2 => ?_⟩
            by_cases ck : k2 = (k : Int)
            · rw [ck, hx]; omega
            · exact b k2 a2 (by omega)
          · exact Or.inr a)
      simp (disch := omega) only [s_1, s_2, s_3, s_4, s_76, s_5, s_6, s_7, s_8, s_9, s_10, s_11, s_12, s_13, s_14, s_15, s_16, s_17, s_18, s_19, s_20, s_21, s_22, s_23, s_24, s_25, s_26, s_27, s_28, s_29, s_30, s_31, s_32, s_33, s_34, s_35, s_36, s_37, s_38, s_39, s_40l, s_40i, s_40r, s_41, s_43, t_44, t_45, t_46, t_47, s_48, s_49, s_50, s_51, s_52, s_53, s_54, s_55, s_56, s_57, s_58, s_59, s_60, s_61, s_62_0, s_62_1, s_62_2, s_66, s_67, s_68, s_69, s_70, s_71, s_72, s_73, sws_n, sws_c, lget, lset, fget, fset, nolg, nolong, avc, stw, cnd, isobj_eo, GCi, GCn, retk, List.length_cons, List.length_nil, ↓reduceIte, and_true, true_and, not_true_eq_false, not_false_eq_true, forall_const, Nat.reduceAdd, Nat.reduceLT, Nat.reduceLeDiff, Nat.lt_add_one, Nat.le_refl, Nat.zero_le, Nat.sub_zero, Int.reduceEq, Int.reduceNe, Int.reduceLT, Int.reduceLE, Int.reduceAdd, Int.reduceSub, Int.reduceMul, Int.reduceNeg, Int.reduceTDiv, Int.reduceTMod, ne_eq, reduceCtorEq, Nat.reduceEqDiff, Int.cast_ofNat_Int, true_or, or_true, false_or, or_false, lcq_0, lcq_2, lcq_3, lcq_4, lcq_5, wu_s, wu_1, wu_w, wu_lt, wu_ne, ar_s, ar_n, rr_s, rr_n, ob_n, nz_c, lt_T, lt_F, le_T, le_F, ie_T, ie_F, nt_T, nt_F, nl_T, nl_F, in_T, and_false, false_and, and_self, not_true_eq_false, Int.toNat_natCast, Int.reduceToNat, if_true, if_false, mi_110, i110_0, i110_1, i110_4, i110_5, i110_6, i110_9, i110_10, i110_11, i110_14, i110_15, i110_16, i110_19, i110_20, i110_21, i110_24, i110_27, i110_28, i110_29, i110_30, i110_33, i110_36, i110_37, i110_38, i110_39, i110_40, i110_41, i110_42, i110_46, i110_48, i110_51, i110_52, i110_54, i110_55, i110_58, i110_61, i110_62, i110_63, i110_64, i110_65, i110_67, i110_68, i110_71, i110_73, i110_76, i110_79, i110_80, i110_83, i110_85, i110_86, i110_88, i110_91, i110_92, i110_95, i110_98, k30, k57, k111, g10_0, g10_2, g10_4, g10_6, g1_4, g1_5, p10_6, hG, ca_68 hC, ca_73 hC, tg_st h0 h1, ma_0 hM, ca_131 hC, tI, pI, bi_z, Classical.not_not, c, n5, l2, l3, l4, l5, hx]
      exact q
    · have q := ihS p (fun y hy => by
        by_cases cy : y = x.toNat
        · subst cy
          exact Or.inr (fun z => absurd z c)
        · rcases hp y hy with ⟨a, b⟩ | a
          · refine Or.inl ⟨a, fun k2 a2 b2 => ?_⟩
            by_cases ck : k2 = (k : Int)
            · rw [ck, hx]; omega
            · exact b k2 a2 (by omega)
          · exact Or.inr a)
      simp (disch := omega) only [s_1, s_2, s_3, s_4, s_76, s_5, s_6, s_7, s_8, s_9, s_10, s_11, s_12, s_13, s_14, s_15, s_16, s_17, s_18, s_19, s_20, s_21, s_22, s_23, s_24, s_25, s_26, s_27, s_28, s_29, s_30, s_31, s_32, s_33, s_34, s_35, s_36, s_37, s_38, s_39, s_40l, s_40i, s_40r, s_41, s_43, t_44, t_45, t_46, t_47, s_48, s_49, s_50, s_51, s_52, s_53, s_54, s_55, s_56, s_57, s_58, s_59, s_60, s_61, s_62_0, s_62_1, s_62_2, s_66, s_67, s_68, s_69, s_70, s_71, s_72, s_73, sws_n, sws_c, lget, lset, fget, fset, nolg, nolong, avc, stw, cnd, isobj_eo, GCi, GCn, retk, List.length_cons, List.length_nil, ↓reduceIte, and_true, true_and, not_true_eq_false, not_false_eq_true, forall_const, Nat.reduceAdd, Nat.reduceLT, Nat.reduceLeDiff, Nat.lt_add_one, Nat.le_refl, Nat.zero_le, Nat.sub_zero, Int.reduceEq, Int.reduceNe, Int.reduceLT, Int.reduceLE, Int.reduceAdd, Int.reduceSub, Int.reduceMul, Int.reduceNeg, Int.reduceTDiv, Int.reduceTMod, ne_eq, reduceCtorEq, Nat.reduceEqDiff, Int.cast_ofNat_Int, true_or, or_true, false_or, or_false, lcq_0, lcq_2, lcq_3, lcq_4, lcq_5, wu_s, wu_1, wu_w, wu_lt, wu_ne, ar_s, ar_n, rr_s, rr_n, ob_n, nz_c, lt_T, lt_F, le_T, le_F, ie_T, ie_F, nt_T, nt_F, nl_T, nl_F, in_T, and_false, false_and, and_self, not_true_eq_false, Int.toNat_natCast, Int.reduceToNat, if_true, if_false, mi_110, i110_0, i110_1, i110_4, i110_5, i110_6, i110_9, i110_10, i110_11, i110_14, i110_15, i110_16, i110_19, i110_20, i110_21, i110_24, i110_27, i110_28, i110_29, i110_30, i110_33, i110_36, i110_37, i110_38, i110_39, i110_40, i110_41, i110_42, i110_46, i110_48, i110_51, i110_52, i110_54, i110_55, i110_58, i110_61, i110_62, i110_63, i110_64, i110_65, i110_67, i110_68, i110_71, i110_73, i110_76, i110_79, i110_80, i110_83, i110_85, i110_86, i110_88, i110_91, i110_92, i110_95, i110_98, k30, k57, k111, g10_0, g10_2, g10_4, g10_6, g1_4, g1_5, p10_6, hG, ca_68 hC, ca_73 hC, tg_st h0 h1, ma_0 hM, ca_131 hC, tI, bi_z, Classical.not_not, c, n5, l2, l3, l4, l5, hx]
      exact q
  · intro p v5 n5 hp
    rw [i110_44]
    simp (disch := omega) only [s_1, s_2, s_3, s_4, s_76, s_5, s_6, s_7, s_8, s_9, s_10, s_11, s_12, s_13, s_14, s_15, s_16, s_17, s_18, s_19, s_20, s_21, s_22, s_23, s_24, s_25, s_26, s_27, s_28, s_29, s_30, s_31, s_32, s_33, s_34, s_35, s_36, s_37, s_38, s_39, s_40l, s_40i, s_40r, s_41, s_43, t_44, t_45, t_46, t_47, s_48, s_49, s_50, s_51, s_52, s_53, s_54, s_55, s_56, s_57, s_58, s_59, s_60, s_61, s_62_0, s_62_1, s_62_2, s_66, s_67, s_68, s_69, s_70, s_71, s_72, s_73, sws_n, sws_c, lget, lset, fget, fset, nolg, nolong, avc, stw, cnd, isobj_eo, GCi, GCn, retk, List.length_cons, List.length_nil, ↓reduceIte, and_true, true_and, not_true_eq_false, not_false_eq_true, forall_const, Nat.reduceAdd, Nat.reduceLT, Nat.reduceLeDiff, Nat.lt_add_one, Nat.le_refl, Nat.zero_le, Nat.sub_zero, Int.reduceEq, Int.reduceNe, Int.reduceLT, Int.reduceLE, Int.reduceAdd, Int.reduceSub, Int.reduceMul, Int.reduceNeg, Int.reduceTDiv, Int.reduceTMod, ne_eq, reduceCtorEq, Nat.reduceEqDiff, Int.cast_ofNat_Int, true_or, or_true, false_or, or_false, lcq_0, lcq_2, lcq_3, lcq_4, lcq_5, wu_s, wu_1, wu_w, wu_lt, wu_ne, ar_s, ar_n, rr_s, rr_n, ob_n, nz_c, lt_T, lt_F, le_T, le_F, ie_T, ie_F, nt_T, nt_F, nl_T, nl_F, in_T, and_false, false_and, and_self, not_true_eq_false, Int.toNat_natCast, Int.reduceToNat, if_true, if_false, mi_110, i110_0, i110_1, i110_4, i110_5, i110_6, i110_9, i110_10, i110_11, i110_14, i110_15, i110_16, i110_19, i110_20, i110_21, i110_24, i110_27, i110_28, i110_29, i110_30, i110_33, i110_36, i110_37, i110_38, i110_39, i110_40, i110_41, i110_42, i110_46, i110_48, i110_51, i110_52, i110_54, i110_55, i110_58, i110_61, i110_62, i110_63, i110_64, i110_65, i110_67, i110_68, i110_71, i110_73, i110_76, i110_79, i110_80, i110_83, i110_85, i110_86, i110_88, i110_91, i110_92, i110_95, i110_98, k30, k57, k111, g10_0, g10_2, g10_4, g10_6, g1_4, g1_5, p10_6]
    exact hQ p hp
abbrev ripW (W : AW) (m ll : Nat) (e t : Int) (p : Nat → Int) : AW := wu (wu (wu (wu (wu (wu W (m + 6) (ea 0 180 (fu (ar W (m + 6)) e.toNat t))) (m + 7) (ea 0 180 (fu (ar W (m + 7)) e.toNat 1))) (m + 8) (ea 0 180 (fu (ar W (m + 8)) e.toNat 0))) (m + 11) (ea 0 200 (fu (ar W (m + 11)) t.toNat (ar W (m + 11) t.toNat + 1)))) 130 (o10 m ll (fu (ob W 130) 6 (ob W 130 6 + 1)))) 131 (ea 0 180 p)
set_option maxHeartbeats 1000000 in
theorem c_rip (h : CW W m ll lw) (hk : LwOk lw) (hw : Thou (ar W (m + 1))) (hp : PHp (ar W (m + 6)) (ar W (m + 1)) (lw.2 5) (ar W 131)) (h0 : 0 ≤ e) (h1 : e < 180) (t0 : 0 ≤ t) (t1 : t < 200) (hl : 0 ≤ ar W (m + 11) t.toNat ∧ ar W (m + 11) t.toNat ≤ 1000) (hf : 0 ≤ ob W 130 6 ∧ ob W 130 6 ≤ 1000)
    (hQ : ∀ p, PHp (fu (ar W (m + 6)) e.toNat t) (ar W (m + 1)) (lw.2 5) p → Q none (ripW W m ll e t p)) : Gm 110 [vr 130, vi e, vi t] W Q := by
  have hm := h.hm
  have mw := h.mw
  have q67 : nfz = 67 := rfl
  have hC := h.1
  have hM := h.2.1
  have hG : W.2 130 = o10 m ll (ob W 130) := h.2.2.1
  have hw192 : 192 ≤ W.1 := hC.1
  have l := lin_b h0 h1 (k := 0) (by decide) (by decide)
  have l2 := l.2.2.1
  have l4 := l.2.2.2.2
  have hV : CW (wu (wu (wu (wu (wu W (m + 6) (ea 0 180 (fu (ar W (m + 6)) e.toNat t))) (m + 7) (ea 0 180 (fu (ar W (m + 7)) e.toNat 1))) (m + 8) (ea 0 180 (fu (ar W (m + 8)) e.toNat 0))) (m + 11) (ea 0 200 (fu (ar W (m + 11)) t.toNat (ar W (m + 11) t.toNat + 1)))) 130 (o10 m ll (fu (ob W 130) 6 (ob W 130 6 + 1)))) m ll lw := cw_130 (cwm_11 (cwm_8 (cwm_7 (cwm_6 h))))
  have mr := fun {Q : AQ} => m_rip (Q := Q) hM mw (by omega) h0 h1 t0 t1 hl
  rw [e110]
  simp (disch := omega) only [s_1, s_2, s_3, s_4, s_76, s_5, s_6, s_7, s_8, s_9, s_10, s_11, s_12, s_13, s_14, s_15, s_16, s_17, s_18, s_19, s_20, s_21, s_22, s_23, s_24, s_25, s_26, s_27, s_28, s_29, s_30, s_31, s_32, s_33, s_34, s_35, s_36, s_37, s_38, s_39, s_40l, s_40i, s_40r, s_41, s_43, t_44, t_45, t_46, t_47, s_48, s_49, s_50, s_51, s_52, s_53, s_54, s_55, s_56, s_57, s_58, s_59, s_60, s_61, s_62_0, s_62_1, s_62_2, s_66, s_67, s_68, s_69, s_70, s_71, s_72, s_73, sws_n, sws_c, lget, lset, fget, fset, nolg, nolong, avc, stw, cnd, isobj_eo, GCi, GCn, retk, List.length_cons, List.length_nil, ↓reduceIte, and_true, true_and, not_true_eq_false, not_false_eq_true, forall_const, Nat.reduceAdd, Nat.reduceLT, Nat.reduceLeDiff, Nat.lt_add_one, Nat.le_refl, Nat.zero_le, Nat.sub_zero, Int.reduceEq, Int.reduceNe, Int.reduceLT, Int.reduceLE, Int.reduceAdd, Int.reduceSub, Int.reduceMul, Int.reduceNeg, Int.reduceTDiv, Int.reduceTMod, ne_eq, reduceCtorEq, Nat.reduceEqDiff, Int.cast_ofNat_Int, true_or, or_true, false_or, or_false, lcq_0, lcq_2, lcq_3, lcq_4, lcq_5, wu_s, wu_1, wu_w, wu_lt, wu_ne, ar_s, ar_n, rr_s, rr_n, ob_n, nz_c, lt_T, lt_F, le_T, le_F, ie_T, ie_F, nt_T, nt_F, nl_T, nl_F, in_T, and_false, false_and, and_self, not_true_eq_false, Int.toNat_natCast, Int.reduceToNat, if_true, if_false, mi_110, i110_0, i110_1, i110_4, i110_5, i110_6, i110_9, i110_10, i110_11, i110_14, i110_15, i110_16, i110_19, i110_20, i110_21, i110_24, i110_27, i110_28, i110_29, i110_30, i110_33, i110_36, i110_37, i110_38, i110_39, i110_40, i110_41, i110_42, i110_46, i110_48, i110_51, i110_52, i110_54, i110_55, i110_58, i110_61, i110_62, i110_63, i110_64, i110_65, i110_67, i110_68, i110_71, i110_73, i110_76, i110_79, i110_80, i110_83, i110_85, i110_86, i110_88, i110_91, i110_92, i110_95, i110_98, k30, k57, k111, g10_0, g10_2, g10_4, g10_6, g1_4, g1_5, p10_6, hG, ca_68 hC, ca_73 hC, ca_74 hC, tg_st h0 h1, tg_pl h0 h1, ma_0 hM, mr, l2, l4]
  have key := rip_loop (t := t) (Q := Q) hV hk (by rw [ar_n (by omega), ar_n (by omega), ar_n (by omega), ar_n (by omega), ar_n (by omega)]; exact hw) h0 h1 (v5 := none) trivial (ar W 131) (fun p hp2 => ?_)
  · rw [wu_id (k := 131) (by rw [wu_ne (by omega), wu_ne (by omega), wu_ne (by omega), wu_ne (by omega), wu_ne (by omega)]; exact ca_131 hC)] at key
    exact key
  · refine hQ p ?_
    rw [ar_n (by omega), ar_n (by omega), ar_n (by omega), ar_n (by omega), ar_s, ar_n (by omega), ar_n (by omega), ar_n (by omega), ar_n (by omega), ar_n (by omega)] at hp2
    refine PHp.lin (by omega) (by omega) hp (fun x hx => ?_)
    rw [show ((e.toNat : Nat) : Int) = e by omega]
    exact hp2 x hx
/-- what holds of the class between the steps of a tick -/
def CJ (W : AW) (m ll : Nat) (lw : LW) (c0 : Int) : Prop := CW W m ll lw ∧ Thou (ar W (m + 1)) ∧ (∀ t : Nat, (t : Int) < ob W (m + 9) 0 → ar W (m + 11) t = cn (ar W (m + 6)) t 180) ∧ (ob W 130 6 + cn (ar W (m + 6)) (-1) 180 = c0 ∧ 0 ≤ ob W 130 6 ∧ c0 ≤ 180) ∧ PHp (ar W (m + 6)) (ar W (m + 1)) (lw.2 5) (ar W 131) ∧ (∀ x : Nat, x < 180 → ar W (m + 6) x = -1 → ar W 132 x = sHo lw (cF W m) x)
theorem c_ripJ {c0 : Int} (h : CJ W m ll lw c0) (hk : LwOk lw) (h0 : 0 ≤ e) (h1 : e < 180) (he : ar W (m + 6) e.toNat = -1) (t0 : 0 ≤ t) (t1 : t < ob W (m + 9) 0) (t2 : ob W (m + 9) 0 ≤ 200)
    (hQ : ∀ W', CJ W' m ll lw c0 → Fc m W W' → ob W' (m + 9) = ob W (m + 9) → cF W' m = ripS (cF W m) e t → Q none W') : Gm 110 [vr 130, vi e, vi t] W Q := by
  obtain ⟨hW, hw, hL, ⟨f1, f2, f3⟩, hp, hh⟩ := h
  have hm := hW.hm
  have cb := cn_b (t := ar W (m + 6)) (x := -1) 180
  have cb2 := cn_b (t := ar W (m + 6)) (x := t) 180
  have lt := hL t.toNat (by omega)
  rw [show ((t.toNat : Nat) : Int) = t by omega] at lt
  refine c_rip hW hk hw hp h0 h1 t0 (by omega) (by omega) (by omega) (fun p hp2 => ?_)
  have hF : Fc m W (ripW W m ll e t p) := by
    repeat (first | exact Fc.rf | refine Fc.up ?_ (by omega))
  have h9 : ob (ripW W m ll e t p) (m + 9) = ob W (m + 9) := by
    rw [ob_n (by omega), ob_n (by omega), ob_n (by omega), ob_n (by omega), ob_n (by omega), ob_n (by omega)]
  have h6 : ar (ripW W m ll e t p) (m + 6) = fu (ar W (m + 6)) e.toNat t := by
    rw [ar_n (by omega), ar_n (by omega), ar_n (by omega), ar_n (by omega), ar_n (by omega), ar_s]
  have h11 : ar (ripW W m ll e t p) (m + 11) = fu (ar W (m + 11)) t.toNat (ar W (m + 11) t.toNat + 1) := by
    rw [ar_n (by omega), ar_n (by omega), ar_s]
  have hw1 : ar (ripW W m ll e t p) (m + 1) = ar W (m + 1) := by
    rw [ar_n (by omega), ar_n (by omega), ar_n (by omega), ar_n (by omega), ar_n (by omega), ar_n (by omega)]
  have h132 : ar (ripW W m ll e t p) 132 = ar W 132 := by
    rw [ar_n (by omega), ar_n (by omega), ar_n (by omega), ar_n (by omega), ar_n (by omega), ar_n (by omega)]
  have h131 : ar (ripW W m ll e t p) 131 = p := ar_s
  have h130 : ob (ripW W m ll e t p) 130 6 = ob W 130 6 + 1 := by
    rw [ob_n (by decide), b10_6, fu_eq]
  have hc : cF (ripW W m ll e t p) m = ripS (cF W m) e t := by
    rw [cF_o (by omega), cF_o (by omega), cF_o (by omega), cf_8, cf_7, cf_6]
    rfl
  have hcw : CW (ripW W m ll e t p) m ll lw := cw_131 (cw_130 (cwm_11 (cwm_8 (cwm_7 (cwm_6 hW)))))
  refine hQ _ ⟨hcw, by rw [hw1]; exact hw, ?_, ⟨?_, by rw [h130]; omega, f3⟩, by rw [h6, hw1, h131]; exact hp2, ?_⟩ hF h9 hc
  · intro j hj
    rw [h9] at hj
    have := hL j hj
    rw [h11, h6, cn_u 180 (by omega), he, if_neg (show ¬ (-1 : Int) = (j : Int) by omega)]
    by_cases c : j = t.toNat
    · subst c
      rw [fu_eq, if_pos (by omega), this]
      omega
    · rw [fu_ne _ _ c, if_neg (by omega), this]
      omega
  · rw [h130, h6, cn_u 180 (by omega), he, if_pos rfl, if_neg (by omega)]
    omega
  · intro x hx hx2
    rw [h6] at hx2
    by_cases c : x = e.toNat
    · subst c
      rw [fu_eq] at hx2
      omega
    · rw [fu_ne _ _ c] at hx2
      rw [h132, hh x hx hx2, hc]
      unfold sHo hol
      have e8 : ripS (cF W m) e t 8 ((x : Int)).toNat = cF W m 8 ((x : Int)).toNat := fu_ne _ _ (by rw [Int.toNat_natCast]; exact c)
      rw [e8]
      rfl
end C4
