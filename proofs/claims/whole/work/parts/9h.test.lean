-- TEST of the reference
def anG (k : Int) (x : GT) : GT := anF k (x.1.1 29).toNat x
noncomputable def ts0 (T : Nat → Int) (n : Nat) (x : GT) : GT := (skF T n (anG 9 x).1, (anG 9 x).2)
def tsP (T : Nat → Int) (n : Nat) (x : GT) : Prop := stP T n (x.1.1 21).toNat 11 ∨ stP T n (x.1.1 21).toNat 12
noncomputable def tsO (T : Nat → Int) (n : Nat) (x : GT) : GT :=
  @ite GT (stP T n (x.1.1 21).toNat 11) (Classical.propDecidable _)
    (adX 3 (opF 10 (@ite GT (stP T n (x.1.1 21).toNat 12) (Classical.propDecidable _) (anG 11 (anG 10 x)) (anG 10 x))))
    (adX 2 (opF 11 (@ite GT (stP T n (x.1.1 21).toNat 12) (Classical.propDecidable _) (anG 11 (anG 10 x)) (anG 10 x))))
def tsC (x : GT) : GT := anG 11 (anG 10 x)
noncomputable def clS (T : Nat → Int) (n : Nat) (σ : GS) : GS := if chr T n (σ.1 21).toNat = 93 then σ else flF 0 (σ.1 21) σ
noncomputable def clF (T : Nat → Int) (n : Nat) (x : GT) : GT := ((fu (fu (fu (clS T n x.1).1 21 (x.1.1 21 + 1)) 29 (x.1.1 29 - 1)) 27 (x.1.1 27 - 1), x.1.2), x.2)
noncomputable def tesL (T : Nat → Int) (n : Nat) : Nat → Bool → GT → GT
  | 0, _, x => x
  | f + 1, b, x => if x.1.1 22 = 0 then
      (if b = true then @ite GT (facP T n x) (Classical.propDecidable _) (tesL T n f false (facX T n x)) (tesL T n f true (facX T n x))
       else @ite GT (tsP T n (ts0 T n x)) (Classical.propDecidable _) (tesL T n f true (tsO T n (ts0 T n x)))
         (if topF (tsC (ts0 T n x)) = 12 then tesL T n f false (clF T n (tsC (ts0 T n x))) else tsC (ts0 T n x)))
    else x
noncomputable def tesF (T : Nat → Int) (n : Nat) (x : GT) : GT := tesL T n (n + 2) true ((fu x.1.1 29 0, x.1.2), x.2)
/-- what stays so also after a fault -/
def WB (n : Nat) (σ : GS) : Prop := (σ.1 20 = (n : Int) ∧ (0 ≤ σ.1 23 ∧ σ.1 23 ≤ 15) ∧ σ.1 30 = (if σ.1 23 < 8 then 7 else 11)) ∧ (0 ≤ σ.1 21 ∧ σ.1 21 ≤ (n : Int) + 1) ∧ 0 ≤ σ.1 22
section WLT2
variable {W : AW} {Q : AQ} {T : Nat → Int} {x : GT} {n : Nat} {K D k d : Int}
theorem RI.wb {σ : GS} (h : RI n K D σ) : WB n σ := ⟨h.1, by have := h.2.1; omega, h.2.2.1⟩
theorem RA.ag (h : RA n K D x) (hk : 0 ≤ k ∧ k ≠ 12) : RA n K D (anG k x) ∧ (anG k x).1.1 21 = x.1.1 21 ∧ (anG k x).1.1 22 = x.1.1 22 := RA.ans hk _ x h
theorem y_ansG (hx : TX W T n) (hK : 0 ≤ K) (hk : 0 ≤ k ∧ k ≠ 12) (h : RA n K D x) (hQ : Q none (GX W (anG k x))) : Gm 219 [vr 148, vi k] (GX W x) Q := by
  have hw : 192 ≤ W.1 := hx.1.1
  have h2 := h.2.1
  rw [e219]
  exact y_answers hx hK hk _ x h (by omega) hQ
theorem RA.t0 (h : RA n K 0 x) : RA n K 0 (ts0 T n x) ∧ x.1.1 21 ≤ (ts0 T n x).1.1 21 ∧ (ts0 T n x).1.1 22 = x.1.1 22 := by
  obtain ⟨a1, a2, a3⟩ := h.ag (k := 9) (by decide)
  obtain ⟨b1, b2⟩ := a1.sk (T := T)
  refine ⟨b1, ?_, ?_⟩
  · show _ ≤ (skF T n (anG 9 x).1).1 21
    omega
  · show (skF T n (anG 9 x).1).1 22 = _
    rw [sk_o (by decide), a3]
theorem RA.tc (h : RA n K 0 x) : RA n K 0 (tsC x) ∧ (tsC x).1.1 21 = x.1.1 21 ∧ (tsC x).1.1 22 = x.1.1 22 := by
  obtain ⟨a1, a2, a3⟩ := h.ag (k := 10) (by decide)
  obtain ⟨b1, b2, b3⟩ := a1.ag (k := 11) (by decide)
  exact ⟨b1, b2.trans a2, b3.trans a3⟩
theorem RA.tO (h : RA n (K + 3) 0 x) (hp : tsP T n x) : RA n K 0 (tsO T n x) ∧ x.1.1 21 + 1 ≤ (tsO T n x).1.1 21 := by
  have hq := h.1.2.1
  have hj : RA n (K + 3) 0 (@ite GT (stP T n (x.1.1 21).toNat 12) (Classical.propDecidable _) (anG 11 (anG 10 x)) (anG 10 x)) ∧ (@ite GT (stP T n (x.1.1 21).toNat 12) (Classical.propDecidable _) (anG 11 (anG 10 x)) (anG 10 x)).1.1 21 = x.1.1 21 := by
    obtain ⟨a1, a2, a3⟩ := h.ag (k := 10) (by decide)
    obtain ⟨b1, b2, b3⟩ := a1.ag (k := 11) (by decide)
    split
    · exact ⟨b1, b2.trans a2⟩
    · exact ⟨a1, a2⟩
  unfold tsO
  generalize (@ite GT (stP T n (x.1.1 21).toNat 12) (Classical.propDecidable _) (anG 11 (anG 10 x)) (anG 10 x)) = y at *
  have l11 : (wd 11).length = 3 := by decide +kernel
  have l12 : (wd 12).length = 2 := by decide +kernel
  by_cases c : stP T n (x.1.1 21).toNat 11
  · rw [if_pos c]
    have sn := stP_n c (by decide) (by omega)
    obtain ⟨o1, o2⟩ := hj.1.op (k := 10) (d := 3) (by decide) (by omega)
    exact ⟨o1.wk (by rw [if_neg (by decide)]; omega) (by decide), by omega⟩
  · rw [if_neg c]
    have c2 : stP T n (x.1.1 21).toNat 12 := hp.resolve_left c
    have sn := stP_n c2 (by decide) (by omega)
    obtain ⟨o1, o2⟩ := hj.1.op (k := 11) (d := 2) (by decide) (by omega)
    exact ⟨o1.wk (by rw [if_neg (by decide)]; omega) (by decide), by omega⟩
theorem RA.cl (h : RA n K 0 x) (ht : topF x = 12) : WB n (clF T n x).1 ∧ ((clF T n x).1.1 22 = 0 → RA n K 0 (clF T n x) ∧ x.1.1 21 + 1 ≤ (clF T n x).1.1 21) := by
  obtain ⟨h1, h2, h3⟩ := h
  have h0 : ¬ x.1.1 29 = 0 := fun z => by
    unfold topF at ht
    rw [if_pos z] at ht
    omega
  unfold topF at ht
  rw [if_neg h0] at ht
  obtain ⟨m, hm⟩ : ∃ m : Nat, x.1.1 29 = ((m + 1 : Nat) : Int) := ⟨(x.1.1 29 - 1).toNat, by omega⟩
  rw [show (x.1.1 29 - 1).toNat = m by omega] at ht
  rw [show (x.1.1 29).toNat = m + 1 by omega] at h1 h3
  have es : stN x.2 (m + 1) = stN x.2 m := by
    show stN x.2 m + (if x.2 m = 12 then 0 else 3) = _
    rw [if_pos ht]
    omega
  have ed : dpN x.2 (m + 1) = dpN x.2 m + 1 := by
    show dpN x.2 m + (if x.2 m = 9 ∨ x.2 m = 12 then 1 else 0) = _
    rw [if_pos (Or.inr ht)]
  have hq := h1.2.1
  have cs : RI n (stN x.2 m + K) 0 (clS T n x.1) ∧ ((clS T n x.1).1 22 = 0 → chr T n (x.1.1 21).toNat = 93) := by
    rw [es] at h1
    unfold clS
    split
    · next c => exact ⟨h1, fun _ => c⟩
    · exact ⟨h1.fl hq.1 (by decide), fun z => (fl_z z hq.1 (by decide)).elim⟩
  have eo : ∀ j, j ≠ 21 → j ≠ 27 → j ≠ 29 → (clF T n x).1.1 j = (clS T n x.1).1 j := fun j a b c => by
    show fu (fu (fu (clS T n x.1).1 21 (x.1.1 21 + 1)) 29 (x.1.1 29 - 1)) 27 (x.1.1 27 - 1) j = _
    rw [fu_ne _ _ b, fu_ne _ _ c, fu_ne _ _ a]
  have e21 : (clF T n x).1.1 21 = x.1.1 21 + 1 := by
    show fu (fu (fu (clS T n x.1).1 21 (x.1.1 21 + 1)) 29 (x.1.1 29 - 1)) 27 (x.1.1 27 - 1) 21 = _
    rw [fu_ne _ _ (by decide), fu_ne _ _ (by decide), fu_eq]
  have e29 : (clF T n x).1.1 29 = x.1.1 29 - 1 := by
    show fu (fu (fu (clS T n x.1).1 21 (x.1.1 21 + 1)) 29 (x.1.1 29 - 1)) 27 (x.1.1 27 - 1) 29 = _
    rw [fu_ne _ _ (by decide), fu_eq]
  have e27 : (clF T n x).1.1 27 = x.1.1 27 - 1 := by
    unfold clF
    dsimp only
    exact fu_eq _ _ _
  have k1 := cs.1.1
  have k3 := cs.1.2.2.1
  refine ⟨?_, fun z => ⟨⟨?_, ?_, ?_⟩, by omega⟩⟩
  · unfold WB
    rw [eo 20 (by decide) (by decide) (by decide), eo 23 (by decide) (by decide) (by decide), eo 30 (by decide) (by decide) (by decide), eo 22 (by decide) (by decide) (by decide), e21]
    exact ⟨k1, by omega, k3⟩
  · rw [eo 22 (by decide) (by decide) (by decide)] at z
    have hl := chr_lt (cs.2 z) (by decide)
    rw [e29, show (x.1.1 29 - 1).toNat = m by omega]
    show RI n (stN x.2 m + K) 0 (clF T n x).1
    have q21 : (clS T n x.1).1 21 = x.1.1 21 := by
      unfold clS
      split
      · rfl
      · exact fl_o (by decide)
    have r := (cs.1.ad (d := 1) (by decide) (by omega)).wk (K' := stN x.2 m + K) (D' := 0) (by omega) (by decide)
    refine r.cg (fun j a b => ?_)
    by_cases c : j = 21
    · subst c
      rw [e21, ad_e, q21]
    · rw [eo j c a b, ad_o c]
  · rw [e29, e21]
    omega
  · rw [e29, e27, e21, show (x.1.1 29 - 1).toNat = m by omega]
    show dpN x.2 m ≤ _ ∧ _
    omega
theorem RA.b29 (h : RA n K D x) (hn : n ≤ 400) : (0 ≤ x.1.1 29 ∧ x.1.1 29 ≤ 401) ∧ (-1000 ≤ x.1.1 27 ∧ x.1.1 27 ≤ 1000) := by
  have h1 := h.1.2.1
  have h2 := h.2.1
  have h3 := h.2.2
  have d0 := dpN_p x.2 (x.1.1 29).toNat
  exact ⟨by omega, by omega⟩
theorem y_opG (hx : TX W T n) (h : RA n K D x) (hQ : Q none (GX W (opF k x))) : Gm 207 [vr 148, vi k] (GX W x) Q := (y_opens hx h.1 (h.b29 hx.2.2.2.2).1 (h.b29 hx.2.2.2.2).2).mpr hQ
theorem y_tloop (hx : TX W T n) (hK : 0 ≤ K) : ∀ (f : Nat) (b : Bool) (x : GT) (y3 y4 : Option AV), WB n x.1 → (x.1.1 22 = 0 → RA n (K + cond b 0 3) 0 x ∧ n + 1 < f + (x.1.1 21).toNat) → 1 ≤ f → Q none (GX W (tesL T n f b x)) → G 205 9 [some (vr 148), some (vi (cond b 1 0)), some (vi 1), y3, y4] [] (GX W x) 0 0 Q := by
  have hw : 192 ≤ W.1 := hx.1.1
  have hn := hx.2.2.2.2
  intro f
  induction f with
  | zero =>
    intro b x y3 y4 h1 h2 h3
    omega
  | succ f ih =>
    intro b x y3 y4 h1 h2 h3 hQ
    have hp := h1.2.1
    by_cases c0 : x.1.1 22 = 0
    · obtain ⟨ra, hf⟩ := h2 c0
      have hpr := ra.1.2.1
      cases b with
      | true =>
        change Q none (GX W (if x.1.1 22 = 0 then @ite GT (facP T n x) (Classical.propDecidable _) (tesL T n f false (facX T n x)) (tesL T n f true (facX T n x)) else x)) at hQ
        rw [if_pos c0] at hQ
        change RA n (K + 0) 0 x at ra
        obtain ⟨r1, r2, r3⟩ := ra.fac (T := T)
        change G 205 9 [some (vr 148), some (vi 1), some (vi 1), y3, y4] [] (GX W x) 0 0 Q
        rw [i205_9]
        simp (disch := omega) only [s_1, s_2, s_3, s_4, s_76, s_5, s_6, s_7, s_8, s_9, s_10, s_11, s_12, s_13, s_14, s_15, s_16, s_17, s_18, s_19, s_20, s_21, s_22, s_23, s_24, s_25, s_26, s_27, s_28, s_29, s_30, s_31, s_32, s_33, s_34, s_35, s_36, s_37, s_38, s_39, s_40l, s_40i, s_40r, s_41, s_43, t_44, t_45, t_46, t_47, s_48, s_49, s_50, s_51, s_52, s_53, s_54, s_55, s_56, s_57, s_58, s_59, s_60, s_61, s_62_0, s_62_1, s_62_2, s_66, s_67, s_68, s_69, s_70, s_71, s_72, s_73, sws_n, sws_c, lget, lset, fget, fset, nolg, nolong, avc, stw, cnd, isobj_eo, GCi, GCn, retk, List.length_cons, List.length_nil, ↓reduceIte, and_true, true_and, not_true_eq_false, not_false_eq_true, forall_const, Nat.reduceAdd, Nat.reduceLT, Nat.reduceLeDiff, Nat.lt_add_one, Nat.le_refl, Nat.zero_le, Nat.sub_zero, Int.reduceEq, Int.reduceNe, Int.reduceLT, Int.reduceLE, Int.reduceAdd, Int.reduceSub, Int.reduceMul, Int.reduceNeg, Int.reduceTDiv, Int.reduceTMod, ne_eq, reduceCtorEq, Nat.reduceEqDiff, Int.cast_ofNat_Int, true_or, or_true, false_or, or_false, lcq_0, lcq_2, lcq_3, lcq_4, lcq_5, wu_s, wu_1, wu_w, wu_lt, wu_ne, ar_s, ar_n, rr_s, rr_n, ob_n, nz_c, lt_T, lt_F, le_T, le_F, ie_T, ie_F, nt_T, nt_F, nl_T, nl_F, in_T, and_false, false_and, and_self, not_true_eq_false, Int.toNat_natCast, Int.reduceToNat, if_true, if_false, mi_205, i205_0, i205_1, i205_2, i205_5, i205_6, i205_7, i205_8, i205_10, i205_13, i205_14, i205_17, i205_20, i205_21, i205_24, i205_25, i205_28, i205_31, i205_32, i205_35, i205_36, i205_37, i205_40, i205_41, i205_43, i205_46, i205_47, i205_50, i205_51, i205_54, i205_57, i205_58, i205_59, i205_62, i205_65, i205_67, i205_68, i205_70, i205_73, i205_74, i205_77, i205_79, i205_82, i205_84, i205_87, i205_88, i205_90, i205_93, i205_94, i205_95, i205_98, i205_100, i205_103, i205_105, i205_108, i205_109, i205_110, i205_113, i205_114, i205_117, i205_118, i205_121, i205_122, i205_123, i205_126, i205_127, i205_128, i205_131, i205_132, i205_134, i205_137, i205_138, i205_141, i205_143, i205_146, i205_147, i205_150, i205_152, i205_155, i205_156, i205_157, i205_158, i205_161, i205_164, i205_165, i205_166, i205_169, i205_170, i205_171, i205_174, i205_175, i205_176, i205_179, i205_180, i205_181, i205_184, i205_185, i205_186, i205_189, i205_190, i205_191, i205_194, i205_197, i205_198, i205_199, i205_202, k199, k200, k202, k203, k206, k207, k219, k220, g12_21, g12_22, g12_27, g12_29, p12_21, p12_27, p12_29, c0]
        refine y_fact hx ra (by omega) ?_
        by_cases cf : facP T n x
        · rw [if_pos cf] at hQ r1
          rw [bi_p cf]
          simp (disch := omega) only [s_1, s_2, s_3, s_4, s_76, s_5, s_6, s_7, s_8, s_9, s_10, s_11, s_12, s_13, s_14, s_15, s_16, s_17, s_18, s_19, s_20, s_21, s_22, s_23, s_24, s_25, s_26, s_27, s_28, s_29, s_30, s_31, s_32, s_33, s_34, s_35, s_36, s_37, s_38, s_39, s_40l, s_40i, s_40r, s_41, s_43, t_44, t_45, t_46, t_47, s_48, s_49, s_50, s_51, s_52, s_53, s_54, s_55, s_56, s_57, s_58, s_59, s_60, s_61, s_62_0, s_62_1, s_62_2, s_66, s_67, s_68, s_69, s_70, s_71, s_72, s_73, sws_n, sws_c, lget, lset, fget, fset, nolg, nolong, avc, stw, cnd, isobj_eo, GCi, GCn, retk, List.length_cons, List.length_nil, ↓reduceIte, and_true, true_and, not_true_eq_false, not_false_eq_true, forall_const, Nat.reduceAdd, Nat.reduceLT, Nat.reduceLeDiff, Nat.lt_add_one, Nat.le_refl, Nat.zero_le, Nat.sub_zero, Int.reduceEq, Int.reduceNe, Int.reduceLT, Int.reduceLE, Int.reduceAdd, Int.reduceSub, Int.reduceMul, Int.reduceNeg, Int.reduceTDiv, Int.reduceTMod, ne_eq, reduceCtorEq, Nat.reduceEqDiff, Int.cast_ofNat_Int, true_or, or_true, false_or, or_false, lcq_0, lcq_2, lcq_3, lcq_4, lcq_5, wu_s, wu_1, wu_w, wu_lt, wu_ne, ar_s, ar_n, rr_s, rr_n, ob_n, nz_c, lt_T, lt_F, le_T, le_F, ie_T, ie_F, nt_T, nt_F, nl_T, nl_F, in_T, and_false, false_and, and_self, not_true_eq_false, Int.toNat_natCast, Int.reduceToNat, if_true, if_false, mi_205, i205_0, i205_1, i205_2, i205_5, i205_6, i205_7, i205_8, i205_10, i205_13, i205_14, i205_17, i205_20, i205_21, i205_24, i205_25, i205_28, i205_31, i205_32, i205_35, i205_36, i205_37, i205_40, i205_41, i205_43, i205_46, i205_47, i205_50, i205_51, i205_54, i205_57, i205_58, i205_59, i205_62, i205_65, i205_67, i205_68, i205_70, i205_73, i205_74, i205_77, i205_79, i205_82, i205_84, i205_87, i205_88, i205_90, i205_93, i205_94, i205_95, i205_98, i205_100, i205_103, i205_105, i205_108, i205_109, i205_110, i205_113, i205_114, i205_117, i205_118, i205_121, i205_122, i205_123, i205_126, i205_127, i205_128, i205_131, i205_132, i205_134, i205_137, i205_138, i205_141, i205_143, i205_146, i205_147, i205_150, i205_152, i205_155, i205_156, i205_157, i205_158, i205_161, i205_164, i205_165, i205_166, i205_169, i205_170, i205_171, i205_174, i205_175, i205_176, i205_179, i205_180, i205_181, i205_184, i205_185, i205_186, i205_189, i205_190, i205_191, i205_194, i205_197, i205_198, i205_199, i205_202, k199, k200, k202, k203, k206, k207, k219, k220, g12_21, g12_22, g12_27, g12_29, p12_21, p12_27, p12_29]
          exact ih false _ _ _ r1.1.wb (fun z => ⟨(r1.d0 z).wk (by show K + 3 ≤ _; omega) (by decide), by have := r3 z; omega⟩) (by omega) hQ
        · rw [if_neg cf] at hQ r1
          rw [bi_n cf]
          simp (disch := omega) only [s_1, s_2, s_3, s_4, s_76, s_5, s_6, s_7, s_8, s_9, s_10, s_11, s_12, s_13, s_14, s_15, s_16, s_17, s_18, s_19, s_20, s_21, s_22, s_23, s_24, s_25, s_26, s_27, s_28, s_29, s_30, s_31, s_32, s_33, s_34, s_35, s_36, s_37, s_38, s_39, s_40l, s_40i, s_40r, s_41, s_43, t_44, t_45, t_46, t_47, s_48, s_49, s_50, s_51, s_52, s_53, s_54, s_55, s_56, s_57, s_58, s_59, s_60, s_61, s_62_0, s_62_1, s_62_2, s_66, s_67, s_68, s_69, s_70, s_71, s_72, s_73, sws_n, sws_c, lget, lset, fget, fset, nolg, nolong, avc, stw, cnd, isobj_eo, GCi, GCn, retk, List.length_cons, List.length_nil, ↓reduceIte, and_true, true_and, not_true_eq_false, not_false_eq_true, forall_const, Nat.reduceAdd, Nat.reduceLT, Nat.reduceLeDiff, Nat.lt_add_one, Nat.le_refl, Nat.zero_le, Nat.sub_zero, Int.reduceEq, Int.reduceNe, Int.reduceLT, Int.reduceLE, Int.reduceAdd, Int.reduceSub, Int.reduceMul, Int.reduceNeg, Int.reduceTDiv, Int.reduceTMod, ne_eq, reduceCtorEq, Nat.reduceEqDiff, Int.cast_ofNat_Int, true_or, or_true, false_or, or_false, lcq_0, lcq_2, lcq_3, lcq_4, lcq_5, wu_s, wu_1, wu_w, wu_lt, wu_ne, ar_s, ar_n, rr_s, rr_n, ob_n, nz_c, lt_T, lt_F, le_T, le_F, ie_T, ie_F, nt_T, nt_F, nl_T, nl_F, in_T, and_false, false_and, and_self, not_true_eq_false, Int.toNat_natCast, Int.reduceToNat, if_true, if_false, mi_205, i205_0, i205_1, i205_2, i205_5, i205_6, i205_7, i205_8, i205_10, i205_13, i205_14, i205_17, i205_20, i205_21, i205_24, i205_25, i205_28, i205_31, i205_32, i205_35, i205_36, i205_37, i205_40, i205_41, i205_43, i205_46, i205_47, i205_50, i205_51, i205_54, i205_57, i205_58, i205_59, i205_62, i205_65, i205_67, i205_68, i205_70, i205_73, i205_74, i205_77, i205_79, i205_82, i205_84, i205_87, i205_88, i205_90, i205_93, i205_94, i205_95, i205_98, i205_100, i205_103, i205_105, i205_108, i205_109, i205_110, i205_113, i205_114, i205_117, i205_118, i205_121, i205_122, i205_123, i205_126, i205_127, i205_128, i205_131, i205_132, i205_134, i205_137, i205_138, i205_141, i205_143, i205_146, i205_147, i205_150, i205_152, i205_155, i205_156, i205_157, i205_158, i205_161, i205_164, i205_165, i205_166, i205_169, i205_170, i205_171, i205_174, i205_175, i205_176, i205_179, i205_180, i205_181, i205_184, i205_185, i205_186, i205_189, i205_190, i205_191, i205_194, i205_197, i205_198, i205_199, i205_202, k199, k200, k202, k203, k206, k207, k219, k220, g12_21, g12_22, g12_27, g12_29, p12_21, p12_27, p12_29]
          exact ih true _ _ _ r1.1.wb (fun z => ⟨(r1.d0 z).wk (by show K + 0 ≤ _; omega) (by decide), by have := r3 z; omega⟩) (by omega) hQ
      | false =>
        change Q none (GX W (if x.1.1 22 = 0 then @ite GT (tsP T n (ts0 T n x)) (Classical.propDecidable _) (tesL T n f true (tsO T n (ts0 T n x))) (if topF (tsC (ts0 T n x)) = 12 then tesL T n f false (clF T n (tsC (ts0 T n x))) else tsC (ts0 T n x)) else x)) at hQ
        rw [if_pos c0] at hQ
        change RA n (K + 3) 0 x at ra
        obtain ⟨a1, a2, a3⟩ := ra.ag (k := 9) (by decide)
        obtain ⟨t1, t2, t3⟩ := ra.t0 (T := T)
        change G 205 9 [some (vr 148), some (vi 0), some (vi 1), y3, y4] [] (GX W x) 0 0 Q
        rw [i205_9]
        simp (disch := omega) only [s_1, s_2, s_3, s_4, s_76, s_5, s_6, s_7, s_8, s_9, s_10, s_11, s_12, s_13, s_14, s_15, s_16, s_17, s_18, s_19, s_20, s_21, s_22, s_23, s_24, s_25, s_26, s_27, s_28, s_29, s_30, s_31, s_32, s_33, s_34, s_35, s_36, s_37, s_38, s_39, s_40l, s_40i, s_40r, s_41, s_43, t_44, t_45, t_46, t_47, s_48, s_49, s_50, s_51, s_52, s_53, s_54, s_55, s_56, s_57, s_58, s_59, s_60, s_61, s_62_0, s_62_1, s_62_2, s_66, s_67, s_68, s_69, s_70, s_71, s_72, s_73, sws_n, sws_c, lget, lset, fget, fset, nolg, nolong, avc, stw, cnd, isobj_eo, GCi, GCn, retk, List.length_cons, List.length_nil, ↓reduceIte, and_true, true_and, not_true_eq_false, not_false_eq_true, forall_const, Nat.reduceAdd, Nat.reduceLT, Nat.reduceLeDiff, Nat.lt_add_one, Nat.le_refl, Nat.zero_le, Nat.sub_zero, Int.reduceEq, Int.reduceNe, Int.reduceLT, Int.reduceLE, Int.reduceAdd, Int.reduceSub, Int.reduceMul, Int.reduceNeg, Int.reduceTDiv, Int.reduceTMod, ne_eq, reduceCtorEq, Nat.reduceEqDiff, Int.cast_ofNat_Int, true_or, or_true, false_or, or_false, lcq_0, lcq_2, lcq_3, lcq_4, lcq_5, wu_s, wu_1, wu_w, wu_lt, wu_ne, ar_s, ar_n, rr_s, rr_n, ob_n, nz_c, lt_T, lt_F, le_T, le_F, ie_T, ie_F, nt_T, nt_F, nl_T, nl_F, in_T, and_false, false_and, and_self, not_true_eq_false, Int.toNat_natCast, Int.reduceToNat, if_true, if_false, mi_205, i205_0, i205_1, i205_2, i205_5, i205_6, i205_7, i205_8, i205_10, i205_13, i205_14, i205_17, i205_20, i205_21, i205_24, i205_25, i205_28, i205_31, i205_32, i205_35, i205_36, i205_37, i205_40, i205_41, i205_43, i205_46, i205_47, i205_50, i205_51, i205_54, i205_57, i205_58, i205_59, i205_62, i205_65, i205_67, i205_68, i205_70, i205_73, i205_74, i205_77, i205_79, i205_82, i205_84, i205_87, i205_88, i205_90, i205_93, i205_94, i205_95, i205_98, i205_100, i205_103, i205_105, i205_108, i205_109, i205_110, i205_113, i205_114, i205_117, i205_118, i205_121, i205_122, i205_123, i205_126, i205_127, i205_128, i205_131, i205_132, i205_134, i205_137, i205_138, i205_141, i205_143, i205_146, i205_147, i205_150, i205_152, i205_155, i205_156, i205_157, i205_158, i205_161, i205_164, i205_165, i205_166, i205_169, i205_170, i205_171, i205_174, i205_175, i205_176, i205_179, i205_180, i205_181, i205_184, i205_185, i205_186, i205_189, i205_190, i205_191, i205_194, i205_197, i205_198, i205_199, i205_202, k199, k200, k202, k203, k206, k207, k219, k220, g12_21, g12_22, g12_27, g12_29, p12_21, p12_27, p12_29, c0]
        refine y_ansG hx (by omega) (by decide) ra ?_
        simp (disch := omega) only [s_1, s_2, s_3, s_4, s_76, s_5, s_6, s_7, s_8, s_9, s_10, s_11, s_12, s_13, s_14, s_15, s_16, s_17, s_18, s_19, s_20, s_21, s_22, s_23, s_24, s_25, s_26, s_27, s_28, s_29, s_30, s_31, s_32, s_33, s_34, s_35, s_36, s_37, s_38, s_39, s_40l, s_40i, s_40r, s_41, s_43, t_44, t_45, t_46, t_47, s_48, s_49, s_50, s_51, s_52, s_53, s_54, s_55, s_56, s_57, s_58, s_59, s_60, s_61, s_62_0, s_62_1, s_62_2, s_66, s_67, s_68, s_69, s_70, s_71, s_72, s_73, sws_n, sws_c, lget, lset, fget, fset, nolg, nolong, avc, stw, cnd, isobj_eo, GCi, GCn, retk, List.length_cons, List.length_nil, ↓reduceIte, and_true, true_and, not_true_eq_false, not_false_eq_true, forall_const, Nat.reduceAdd, Nat.reduceLT, Nat.reduceLeDiff, Nat.lt_add_one, Nat.le_refl, Nat.zero_le, Nat.sub_zero, Int.reduceEq, Int.reduceNe, Int.reduceLT, Int.reduceLE, Int.reduceAdd, Int.reduceSub, Int.reduceMul, Int.reduceNeg, Int.reduceTDiv, Int.reduceTMod, ne_eq, reduceCtorEq, Nat.reduceEqDiff, Int.cast_ofNat_Int, true_or, or_true, false_or, or_false, lcq_0, lcq_2, lcq_3, lcq_4, lcq_5, wu_s, wu_1, wu_w, wu_lt, wu_ne, ar_s, ar_n, rr_s, rr_n, ob_n, nz_c, lt_T, lt_F, le_T, le_F, ie_T, ie_F, nt_T, nt_F, nl_T, nl_F, in_T, and_false, false_and, and_self, not_true_eq_false, Int.toNat_natCast, Int.reduceToNat, if_true, if_false, mi_205, i205_0, i205_1, i205_2, i205_5, i205_6, i205_7, i205_8, i205_10, i205_13, i205_14, i205_17, i205_20, i205_21, i205_24, i205_25, i205_28, i205_31, i205_32, i205_35, i205_36, i205_37, i205_40, i205_41, i205_43, i205_46, i205_47, i205_50, i205_51, i205_54, i205_57, i205_58, i205_59, i205_62, i205_65, i205_67, i205_68, i205_70, i205_73, i205_74, i205_77, i205_79, i205_82, i205_84, i205_87, i205_88, i205_90, i205_93, i205_94, i205_95, i205_98, i205_100, i205_103, i205_105, i205_108, i205_109, i205_110, i205_113, i205_114, i205_117, i205_118, i205_121, i205_122, i205_123, i205_126, i205_127, i205_128, i205_131, i205_132, i205_134, i205_137, i205_138, i205_141, i205_143, i205_146, i205_147, i205_150, i205_152, i205_155, i205_156, i205_157, i205_158, i205_161, i205_164, i205_165, i205_166, i205_169, i205_170, i205_171, i205_174, i205_175, i205_176, i205_179, i205_180, i205_181, i205_184, i205_185, i205_186, i205_189, i205_190, i205_191, i205_194, i205_197, i205_198, i205_199, i205_202, k199, k200, k202, k203, k206, k207, k219, k220, g12_21, g12_22, g12_27, g12_29, p12_21, p12_27, p12_29]
        refine yv_blanks hx a1.1 ?_
        change G 205 50 [some (vr 148), some (vi 0), some (vi 1), y3, y4] [] (GX W (ts0 T n x)) 0 0 Q
        generalize ts0 T n x = x0 at *
        rw [i205_50]
        have hp0 := t1.1.2.1
        have ysA := fun {Q : AQ} => yv_stands (Q := Q) (o := x0.2) (i := 11) hx t1.1 (by decide)
        have ysR := fun {Q : AQ} => yv_stands (Q := Q) (o := x0.2) (i := 12) hx t1.1 (by decide)
        have l11 : (wd 11).length = 3 := by decide +kernel
        have l12 : (wd 12).length = 2 := by decide +kernel
        obtain ⟨b1, b2, b3⟩ := t1.ag (k := 10) (by decide)
        by_cases cA : stP T n (x0.1.1 21).toNat 11
        · have cR : ¬ stP T n (x0.1.1 21).toNat 12 := fun z => by
            have z1 := cA.1
            have z2 := z.1
            omega
          have tO := t1.tO (T := T) (Or.inl cA)
          rw [if_pos (show tsP T n x0 from Or.inl cA)] at hQ
          rw [bi_p cA] at ysA
          rw [bi_n cR] at ysR
          unfold tsO at hQ tO
          rw [if_pos cA, if_neg cR] at hQ tO
          simp (disch := omega) only [s_1, s_2, s_3, s_4, s_76, s_5, s_6, s_7, s_8, s_9, s_10, s_11, s_12, s_13, s_14, s_15, s_16, s_17, s_18, s_19, s_20, s_21, s_22, s_23, s_24, s_25, s_26, s_27, s_28, s_29, s_30, s_31, s_32, s_33, s_34, s_35, s_36, s_37, s_38, s_39, s_40l, s_40i, s_40r, s_41, s_43, t_44, t_45, t_46, t_47, s_48, s_49, s_50, s_51, s_52, s_53, s_54, s_55, s_56, s_57, s_58, s_59, s_60, s_61, s_62_0, s_62_1, s_62_2, s_66, s_67, s_68, s_69, s_70, s_71, s_72, s_73, sws_n, sws_c, lget, lset, fget, fset, nolg, nolong, avc, stw, cnd, isobj_eo, GCi, GCn, retk, List.length_cons, List.length_nil, ↓reduceIte, and_true, true_and, not_true_eq_false, not_false_eq_true, forall_const, Nat.reduceAdd, Nat.reduceLT, Nat.reduceLeDiff, Nat.lt_add_one, Nat.le_refl, Nat.zero_le, Nat.sub_zero, Int.reduceEq, Int.reduceNe, Int.reduceLT, Int.reduceLE, Int.reduceAdd, Int.reduceSub, Int.reduceMul, Int.reduceNeg, Int.reduceTDiv, Int.reduceTMod, ne_eq, reduceCtorEq, Nat.reduceEqDiff, Int.cast_ofNat_Int, true_or, or_true, false_or, or_false, lcq_0, lcq_2, lcq_3, lcq_4, lcq_5, wu_s, wu_1, wu_w, wu_lt, wu_ne, ar_s, ar_n, rr_s, rr_n, ob_n, nz_c, lt_T, lt_F, le_T, le_F, ie_T, ie_F, nt_T, nt_F, nl_T, nl_F, in_T, and_false, false_and, and_self, not_true_eq_false, Int.toNat_natCast, Int.reduceToNat, if_true, if_false, mi_205, i205_0, i205_1, i205_2, i205_5, i205_6, i205_7, i205_8, i205_10, i205_13, i205_14, i205_17, i205_20, i205_21, i205_24, i205_25, i205_28, i205_31, i205_32, i205_35, i205_36, i205_37, i205_40, i205_41, i205_43, i205_46, i205_47, i205_50, i205_51, i205_54, i205_57, i205_58, i205_59, i205_62, i205_65, i205_67, i205_68, i205_70, i205_73, i205_74, i205_77, i205_79, i205_82, i205_84, i205_87, i205_88, i205_90, i205_93, i205_94, i205_95, i205_98, i205_100, i205_103, i205_105, i205_108, i205_109, i205_110, i205_113, i205_114, i205_117, i205_118, i205_121, i205_122, i205_123, i205_126, i205_127, i205_128, i205_131, i205_132, i205_134, i205_137, i205_138, i205_141, i205_143, i205_146, i205_147, i205_150, i205_152, i205_155, i205_156, i205_157, i205_158, i205_161, i205_164, i205_165, i205_166, i205_169, i205_170, i205_171, i205_174, i205_175, i205_176, i205_179, i205_180, i205_181, i205_184, i205_185, i205_186, i205_189, i205_190, i205_191, i205_194, i205_197, i205_198, i205_199, i205_202, k199, k200, k202, k203, k206, k207, k219, k220, g12_21, g12_22, g12_27, g12_29, p12_21, p12_27, p12_29, ysA, ysR]
          refine y_ansG hx (by omega) (by decide) t1 ?_
          simp (disch := omega) only [s_1, s_2, s_3, s_4, s_76, s_5, s_6, s_7, s_8, s_9, s_10, s_11, s_12, s_13, s_14, s_15, s_16, s_17, s_18, s_19, s_20, s_21, s_22, s_23, s_24, s_25, s_26, s_27, s_28, s_29, s_30, s_31, s_32, s_33, s_34, s_35, s_36, s_37, s_38, s_39, s_40l, s_40i, s_40r, s_41, s_43, t_44, t_45, t_46, t_47, s_48, s_49, s_50, s_51, s_52, s_53, s_54, s_55, s_56, s_57, s_58, s_59, s_60, s_61, s_62_0, s_62_1, s_62_2, s_66, s_67, s_68, s_69, s_70, s_71, s_72, s_73, sws_n, sws_c, lget, lset, fget, fset, nolg, nolong, avc, stw, cnd, isobj_eo, GCi, GCn, retk, List.length_cons, List.length_nil, ↓reduceIte, and_true, true_and, not_true_eq_false, not_false_eq_true, forall_const, Nat.reduceAdd, Nat.reduceLT, Nat.reduceLeDiff, Nat.lt_add_one, Nat.le_refl, Nat.zero_le, Nat.sub_zero, Int.reduceEq, Int.reduceNe, Int.reduceLT, Int.reduceLE, Int.reduceAdd, Int.reduceSub, Int.reduceMul, Int.reduceNeg, Int.reduceTDiv, Int.reduceTMod, ne_eq, reduceCtorEq, Nat.reduceEqDiff, Int.cast_ofNat_Int, true_or, or_true, false_or, or_false, lcq_0, lcq_2, lcq_3, lcq_4, lcq_5, wu_s, wu_1, wu_w, wu_lt, wu_ne, ar_s, ar_n, rr_s, rr_n, ob_n, nz_c, lt_T, lt_F, le_T, le_F, ie_T, ie_F, nt_T, nt_F, nl_T, nl_F, in_T, and_false, false_and, and_self, not_true_eq_false, Int.toNat_natCast, Int.reduceToNat, if_true, if_false, mi_205, i205_0, i205_1, i205_2, i205_5, i205_6, i205_7, i205_8, i205_10, i205_13, i205_14, i205_17, i205_20, i205_21, i205_24, i205_25, i205_28, i205_31, i205_32, i205_35, i205_36, i205_37, i205_40, i205_41, i205_43, i205_46, i205_47, i205_50, i205_51, i205_54, i205_57, i205_58, i205_59, i205_62, i205_65, i205_67, i205_68, i205_70, i205_73, i205_74, i205_77, i205_79, i205_82, i205_84, i205_87, i205_88, i205_90, i205_93, i205_94, i205_95, i205_98, i205_100, i205_103, i205_105, i205_108, i205_109, i205_110, i205_113, i205_114, i205_117, i205_118, i205_121, i205_122, i205_123, i205_126, i205_127, i205_128, i205_131, i205_132, i205_134, i205_137, i205_138, i205_141, i205_143, i205_146, i205_147, i205_150, i205_152, i205_155, i205_156, i205_157, i205_158, i205_161, i205_164, i205_165, i205_166, i205_169, i205_170, i205_171, i205_174, i205_175, i205_176, i205_179, i205_180, i205_181, i205_184, i205_185, i205_186, i205_189, i205_190, i205_191, i205_194, i205_197, i205_198, i205_199, i205_202, k199, k200, k202, k203, k206, k207, k219, k220, g12_21, g12_22, g12_27, g12_29, p12_21, p12_27, p12_29]
          refine y_opG hx b1 ?_
          generalize opF 10 (anG 10 x0) = x2 at *
          have e21 : (adX 3 x2).1.1 21 = x2.1.1 21 + 3 := ad_e
          have hb := tO.1.1.2.1
          have i21 : in32 (x2.1.1 21 + 3) := by unfold in32; omega
          simp (disch := omega) only [s_1, s_2, s_3, s_4, s_76, s_5, s_6, s_7, s_8, s_9, s_10, s_11, s_12, s_13, s_14, s_15, s_16, s_17, s_18, s_19, s_20, s_21, s_22, s_23, s_24, s_25, s_26, s_27, s_28, s_29, s_30, s_31, s_32, s_33, s_34, s_35, s_36, s_37, s_38, s_39, s_40l, s_40i, s_40r, s_41, s_43, t_44, t_45, t_46, t_47, s_48, s_49, s_50, s_51, s_52, s_53, s_54, s_55, s_56, s_57, s_58, s_59, s_60, s_61, s_62_0, s_62_1, s_62_2, s_66, s_67, s_68, s_69, s_70, s_71, s_72, s_73, sws_n, sws_c, lget, lset, fget, fset, nolg, nolong, avc, stw, cnd, isobj_eo, GCi, GCn, retk, List.length_cons, List.length_nil, ↓reduceIte, and_true, true_and, not_true_eq_false, not_false_eq_true, forall_const, Nat.reduceAdd, Nat.reduceLT, Nat.reduceLeDiff, Nat.lt_add_one, Nat.le_refl, Nat.zero_le, Nat.sub_zero, Int.reduceEq, Int.reduceNe, Int.reduceLT, Int.reduceLE, Int.reduceAdd, Int.reduceSub, Int.reduceMul, Int.reduceNeg, Int.reduceTDiv, Int.reduceTMod, ne_eq, reduceCtorEq, Nat.reduceEqDiff, Int.cast_ofNat_Int, true_or, or_true, false_or, or_false, lcq_0, lcq_2, lcq_3, lcq_4, lcq_5, wu_s, wu_1, wu_w, wu_lt, wu_ne, ar_s, ar_n, rr_s, rr_n, ob_n, nz_c, lt_T, lt_F, le_T, le_F, ie_T, ie_F, nt_T, nt_F, nl_T, nl_F, in_T, and_false, false_and, and_self, not_true_eq_false, Int.toNat_natCast, Int.reduceToNat, if_true, if_false, mi_205, i205_0, i205_1, i205_2, i205_5, i205_6, i205_7, i205_8, i205_10, i205_13, i205_14, i205_17, i205_20, i205_21, i205_24, i205_25, i205_28, i205_31, i205_32, i205_35, i205_36, i205_37, i205_40, i205_41, i205_43, i205_46, i205_47, i205_50, i205_51, i205_54, i205_57, i205_58, i205_59, i205_62, i205_65, i205_67, i205_68, i205_70, i205_73, i205_74, i205_77, i205_79, i205_82, i205_84, i205_87, i205_88, i205_90, i205_93, i205_94, i205_95, i205_98, i205_100, i205_103, i205_105, i205_108, i205_109, i205_110, i205_113, i205_114, i205_117, i205_118, i205_121, i205_122, i205_123, i205_126, i205_127, i205_128, i205_131, i205_132, i205_134, i205_137, i205_138, i205_141, i205_143, i205_146, i205_147, i205_150, i205_152, i205_155, i205_156, i205_157, i205_158, i205_161, i205_164, i205_165, i205_166, i205_169, i205_170, i205_171, i205_174, i205_175, i205_176, i205_179, i205_180, i205_181, i205_184, i205_185, i205_186, i205_189, i205_190, i205_191, i205_194, i205_197, i205_198, i205_199, i205_202, k199, k200, k202, k203, k206, k207, k219, k220, g12_21, g12_22, g12_27, g12_29, p12_21, p12_27, p12_29, i21]
          exact ih true _ _ _ tO.1.1.wb (fun z => ⟨tO.1.wk (by show K + 0 ≤ _; omega) (by decide), by have := tO.2; omega⟩) (by omega) hQ
        · by_cases cR : stP T n (x0.1.1 21).toNat 12
          · have tO := t1.tO (T := T) (Or.inr cR)
            rw [if_pos (show tsP T n x0 from Or.inr cR)] at hQ
            rw [bi_n cA] at ysA
            rw [bi_p cR] at ysR
            unfold tsO at hQ tO
            rw [if_neg cA, if_pos cR] at hQ tO
            obtain ⟨d1, d2, d3⟩ := b1.ag (k := 11) (by decide)
            simp (disch := omega) only [s_1, s_2, s_3, s_4, s_76, s_5, s_6, s_7, s_8, s_9, s_10, s_11, s_12, s_13, s_14, s_15, s_16, s_17, s_18, s_19, s_20, s_21, s_22, s_23, s_24, s_25, s_26, s_27, s_28, s_29, s_30, s_31, s_32, s_33, s_34, s_35, s_36, s_37, s_38, s_39, s_40l, s_40i, s_40r, s_41, s_43, t_44, t_45, t_46, t_47, s_48, s_49, s_50, s_51, s_52, s_53, s_54, s_55, s_56, s_57, s_58, s_59, s_60, s_61, s_62_0, s_62_1, s_62_2, s_66, s_67, s_68, s_69, s_70, s_71, s_72, s_73, sws_n, sws_c, lget, lset, fget, fset, nolg, nolong, avc, stw, cnd, isobj_eo, GCi, GCn, retk, List.length_cons, List.length_nil, ↓reduceIte, and_true, true_and, not_true_eq_false, not_false_eq_true, forall_const, Nat.reduceAdd, Nat.reduceLT, Nat.reduceLeDiff, Nat.lt_add_one, Nat.le_refl, Nat.zero_le, Nat.sub_zero, Int.reduceEq, Int.reduceNe, Int.reduceLT, Int.reduceLE, Int.reduceAdd, Int.reduceSub, Int.reduceMul, Int.reduceNeg, Int.reduceTDiv, Int.reduceTMod, ne_eq, reduceCtorEq, Nat.reduceEqDiff, Int.cast_ofNat_Int, true_or, or_true, false_or, or_false, lcq_0, lcq_2, lcq_3, lcq_4, lcq_5, wu_s, wu_1, wu_w, wu_lt, wu_ne, ar_s, ar_n, rr_s, rr_n, ob_n, nz_c, lt_T, lt_F, le_T, le_F, ie_T, ie_F, nt_T, nt_F, nl_T, nl_F, in_T, and_false, false_and, and_self, not_true_eq_false, Int.toNat_natCast, Int.reduceToNat, if_true, if_false, mi_205, i205_0, i205_1, i205_2, i205_5, i205_6, i205_7, i205_8, i205_10, i205_13, i205_14, i205_17, i205_20, i205_21, i205_24, i205_25, i205_28, i205_31, i205_32, i205_35, i205_36, i205_37, i205_40, i205_41, i205_43, i205_46, i205_47, i205_50, i205_51, i205_54, i205_57, i205_58, i205_59, i205_62, i205_65, i205_67, i205_68, i205_70, i205_73, i205_74, i205_77, i205_79, i205_82, i205_84, i205_87, i205_88, i205_90, i205_93, i205_94, i205_95, i205_98, i205_100, i205_103, i205_105, i205_108, i205_109, i205_110, i205_113, i205_114, i205_117, i205_118, i205_121, i205_122, i205_123, i205_126, i205_127, i205_128, i205_131, i205_132, i205_134, i205_137, i205_138, i205_141, i205_143, i205_146, i205_147, i205_150, i205_152, i205_155, i205_156, i205_157, i205_158, i205_161, i205_164, i205_165, i205_166, i205_169, i205_170, i205_171, i205_174, i205_175, i205_176, i205_179, i205_180, i205_181, i205_184, i205_185, i205_186, i205_189, i205_190, i205_191, i205_194, i205_197, i205_198, i205_199, i205_202, k199, k200, k202, k203, k206, k207, k219, k220, g12_21, g12_22, g12_27, g12_29, p12_21, p12_27, p12_29, ysA, ysR]
            refine y_ansG hx (by omega) (by decide) t1 ?_
            simp (disch := omega) only [s_1, s_2, s_3, s_4, s_76, s_5, s_6, s_7, s_8, s_9, s_10, s_11, s_12, s_13, s_14, s_15, s_16, s_17, s_18, s_19, s_20, s_21, s_22, s_23, s_24, s_25, s_26, s_27, s_28, s_29, s_30, s_31, s_32, s_33, s_34, s_35, s_36, s_37, s_38, s_39, s_40l, s_40i, s_40r, s_41, s_43, t_44, t_45, t_46, t_47, s_48, s_49, s_50, s_51, s_52, s_53, s_54, s_55, s_56, s_57, s_58, s_59, s_60, s_61, s_62_0, s_62_1, s_62_2, s_66, s_67, s_68, s_69, s_70, s_71, s_72, s_73, sws_n, sws_c, lget, lset, fget, fset, nolg, nolong, avc, stw, cnd, isobj_eo, GCi, GCn, retk, List.length_cons, List.length_nil, ↓reduceIte, and_true, true_and, not_true_eq_false, not_false_eq_true, forall_const, Nat.reduceAdd, Nat.reduceLT, Nat.reduceLeDiff, Nat.lt_add_one, Nat.le_refl, Nat.zero_le, Nat.sub_zero, Int.reduceEq, Int.reduceNe, Int.reduceLT, Int.reduceLE, Int.reduceAdd, Int.reduceSub, Int.reduceMul, Int.reduceNeg, Int.reduceTDiv, Int.reduceTMod, ne_eq, reduceCtorEq, Nat.reduceEqDiff, Int.cast_ofNat_Int, true_or, or_true, false_or, or_false, lcq_0, lcq_2, lcq_3, lcq_4, lcq_5, wu_s, wu_1, wu_w, wu_lt, wu_ne, ar_s, ar_n, rr_s, rr_n, ob_n, nz_c, lt_T, lt_F, le_T, le_F, ie_T, ie_F, nt_T, nt_F, nl_T, nl_F, in_T, and_false, false_and, and_self, not_true_eq_false, Int.toNat_natCast, Int.reduceToNat, if_true, if_false, mi_205, i205_0, i205_1, i205_2, i205_5, i205_6, i205_7, i205_8, i205_10, i205_13, i205_14, i205_17, i205_20, i205_21, i205_24, i205_25, i205_28, i205_31, i205_32, i205_35, i205_36, i205_37, i205_40, i205_41, i205_43, i205_46, i205_47, i205_50, i205_51, i205_54, i205_57, i205_58, i205_59, i205_62, i205_65, i205_67, i205_68, i205_70, i205_73, i205_74, i205_77, i205_79, i205_82, i205_84, i205_87, i205_88, i205_90, i205_93, i205_94, i205_95, i205_98, i205_100, i205_103, i205_105, i205_108, i205_109, i205_110, i205_113, i205_114, i205_117, i205_118, i205_121, i205_122, i205_123, i205_126, i205_127, i205_128, i205_131, i205_132, i205_134, i205_137, i205_138, i205_141, i205_143, i205_146, i205_147, i205_150, i205_152, i205_155, i205_156, i205_157, i205_158, i205_161, i205_164, i205_165, i205_166, i205_169, i205_170, i205_171, i205_174, i205_175, i205_176, i205_179, i205_180, i205_181, i205_184, i205_185, i205_186, i205_189, i205_190, i205_191, i205_194, i205_197, i205_198, i205_199, i205_202, k199, k200, k202, k203, k206, k207, k219, k220, g12_21, g12_22, g12_27, g12_29, p12_21, p12_27, p12_29]
            refine y_ansG hx (by omega) (by decide) b1 ?_
            simp (disch := omega) only [s_1, s_2, s_3, s_4, s_76, s_5, s_6, s_7, s_8, s_9, s_10, s_11, s_12, s_13, s_14, s_15, s_16, s_17, s_18, s_19, s_20, s_21, s_22, s_23, s_24, s_25, s_26, s_27, s_28, s_29, s_30, s_31, s_32, s_33, s_34, s_35, s_36, s_37, s_38, s_39, s_40l, s_40i, s_40r, s_41, s_43, t_44, t_45, t_46, t_47, s_48, s_49, s_50, s_51, s_52, s_53, s_54, s_55, s_56, s_57, s_58, s_59, s_60, s_61, s_62_0, s_62_1, s_62_2, s_66, s_67, s_68, s_69, s_70, s_71, s_72, s_73, sws_n, sws_c, lget, lset, fget, fset, nolg, nolong, avc, stw, cnd, isobj_eo, GCi, GCn, retk, List.length_cons, List.length_nil, ↓reduceIte, and_true, true_and, not_true_eq_false, not_false_eq_true, forall_const, Nat.reduceAdd, Nat.reduceLT, Nat.reduceLeDiff, Nat.lt_add_one, Nat.le_refl, Nat.zero_le, Nat.sub_zero, Int.reduceEq, Int.reduceNe, Int.reduceLT, Int.reduceLE, Int.reduceAdd, Int.reduceSub, Int.reduceMul, Int.reduceNeg, Int.reduceTDiv, Int.reduceTMod, ne_eq, reduceCtorEq, Nat.reduceEqDiff, Int.cast_ofNat_Int, true_or, or_true, false_or, or_false, lcq_0, lcq_2, lcq_3, lcq_4, lcq_5, wu_s, wu_1, wu_w, wu_lt, wu_ne, ar_s, ar_n, rr_s, rr_n, ob_n, nz_c, lt_T, lt_F, le_T, le_F, ie_T, ie_F, nt_T, nt_F, nl_T, nl_F, in_T, and_false, false_and, and_self, not_true_eq_false, Int.toNat_natCast, Int.reduceToNat, if_true, if_false, mi_205, i205_0, i205_1, i205_2, i205_5, i205_6, i205_7, i205_8, i205_10, i205_13, i205_14, i205_17, i205_20, i205_21, i205_24, i205_25, i205_28, i205_31, i205_32, i205_35, i205_36, i205_37, i205_40, i205_41, i205_43, i205_46, i205_47, i205_50, i205_51, i205_54, i205_57, i205_58, i205_59, i205_62, i205_65, i205_67, i205_68, i205_70, i205_73, i205_74, i205_77, i205_79, i205_82, i205_84, i205_87, i205_88, i205_90, i205_93, i205_94, i205_95, i205_98, i205_100, i205_103, i205_105, i205_108, i205_109, i205_110, i205_113, i205_114, i205_117, i205_118, i205_121, i205_122, i205_123, i205_126, i205_127, i205_128, i205_131, i205_132, i205_134, i205_137, i205_138, i205_141, i205_143, i205_146, i205_147, i205_150, i205_152, i205_155, i205_156, i205_157, i205_158, i205_161, i205_164, i205_165, i205_166, i205_169, i205_170, i205_171, i205_174, i205_175, i205_176, i205_179, i205_180, i205_181, i205_184, i205_185, i205_186, i205_189, i205_190, i205_191, i205_194, i205_197, i205_198, i205_199, i205_202, k199, k200, k202, k203, k206, k207, k219, k220, g12_21, g12_22, g12_27, g12_29, p12_21, p12_27, p12_29]
            refine y_opG hx d1 ?_
            generalize opF 11 (anG 11 (anG 10 x0)) = x2 at *
            have e21 : (adX 2 x2).1.1 21 = x2.1.1 21 + 2 := ad_e
            have hb := tO.1.1.2.1
            have i21 : in32 (x2.1.1 21 + 2) := by unfold in32; omega
            simp (disch := omega) only [s_1, s_2, s_3, s_4, s_76, s_5, s_6, s_7, s_8, s_9, s_10, s_11, s_12, s_13, s_14, s_15, s_16, s_17, s_18, s_19, s_20, s_21, s_22, s_23, s_24, s_25, s_26, s_27, s_28, s_29, s_30, s_31, s_32, s_33, s_34, s_35, s_36, s_37, s_38, s_39, s_40l, s_40i, s_40r, s_41, s_43, t_44, t_45, t_46, t_47, s_48, s_49, s_50, s_51, s_52, s_53, s_54, s_55, s_56, s_57, s_58, s_59, s_60, s_61, s_62_0, s_62_1, s_62_2, s_66, s_67, s_68, s_69, s_70, s_71, s_72, s_73, sws_n, sws_c, lget, lset, fget, fset, nolg, nolong, avc, stw, cnd, isobj_eo, GCi, GCn, retk, List.length_cons, List.length_nil, ↓reduceIte, and_true, true_and, not_true_eq_false, not_false_eq_true, forall_const, Nat.reduceAdd, Nat.reduceLT, Nat.reduceLeDiff, Nat.lt_add_one, Nat.le_refl, Nat.zero_le, Nat.sub_zero, Int.reduceEq, Int.reduceNe, Int.reduceLT, Int.reduceLE, Int.reduceAdd, Int.reduceSub, Int.reduceMul, Int.reduceNeg, Int.reduceTDiv, Int.reduceTMod, ne_eq, reduceCtorEq, Nat.reduceEqDiff, Int.cast_ofNat_Int, true_or, or_true, false_or, or_false, lcq_0, lcq_2, lcq_3, lcq_4, lcq_5, wu_s, wu_1, wu_w, wu_lt, wu_ne, ar_s, ar_n, rr_s, rr_n, ob_n, nz_c, lt_T, lt_F, le_T, le_F, ie_T, ie_F, nt_T, nt_F, nl_T, nl_F, in_T, and_false, false_and, and_self, not_true_eq_false, Int.toNat_natCast, Int.reduceToNat, if_true, if_false, mi_205, i205_0, i205_1, i205_2, i205_5, i205_6, i205_7, i205_8, i205_10, i205_13, i205_14, i205_17, i205_20, i205_21, i205_24, i205_25, i205_28, i205_31, i205_32, i205_35, i205_36, i205_37, i205_40, i205_41, i205_43, i205_46, i205_47, i205_50, i205_51, i205_54, i205_57, i205_58, i205_59, i205_62, i205_65, i205_67, i205_68, i205_70, i205_73, i205_74, i205_77, i205_79, i205_82, i205_84, i205_87, i205_88, i205_90, i205_93, i205_94, i205_95, i205_98, i205_100, i205_103, i205_105, i205_108, i205_109, i205_110, i205_113, i205_114, i205_117, i205_118, i205_121, i205_122, i205_123, i205_126, i205_127, i205_128, i205_131, i205_132, i205_134, i205_137, i205_138, i205_141, i205_143, i205_146, i205_147, i205_150, i205_152, i205_155, i205_156, i205_157, i205_158, i205_161, i205_164, i205_165, i205_166, i205_169, i205_170, i205_171, i205_174, i205_175, i205_176, i205_179, i205_180, i205_181, i205_184, i205_185, i205_186, i205_189, i205_190, i205_191, i205_194, i205_197, i205_198, i205_199, i205_202, k199, k200, k202, k203, k206, k207, k219, k220, g12_21, g12_22, g12_27, g12_29, p12_21, p12_27, p12_29, i21]
            exact ih true _ _ _ tO.1.1.wb (fun z => ⟨tO.1.wk (by show K + 0 ≤ _; omega) (by decide), by have := tO.2; omega⟩) (by omega) hQ
          · rw [if_neg (show ¬ tsP T n x0 from fun z => z.elim cA cR)] at hQ
            rw [bi_n cA] at ysA
            rw [bi_n cR] at ysR
            simp (disch := omega) only [s_1, s_2, s_3, s_4, s_76, s_5, s_6, s_7, s_8, s_9, s_10, s_11, s_12, s_13, s_14, s_15, s_16, s_17, s_18, s_19, s_20, s_21, s_22, s_23, s_24, s_25, s_26, s_27, s_28, s_29, s_30, s_31, s_32, s_33, s_34, s_35, s_36, s_37, s_38, s_39, s_40l, s_40i, s_40r, s_41, s_43, t_44, t_45, t_46, t_47, s_48, s_49, s_50, s_51, s_52, s_53, s_54, s_55, s_56, s_57, s_58, s_59, s_60, s_61, s_62_0, s_62_1, s_62_2, s_66, s_67, s_68, s_69, s_70, s_71, s_72, s_73, sws_n, sws_c, lget, lset, fget, fset, nolg, nolong, avc, stw, cnd, isobj_eo, GCi, GCn, retk, List.length_cons, List.length_nil, ↓reduceIte, and_true, true_and, not_true_eq_false, not_false_eq_true, forall_const, Nat.reduceAdd, Nat.reduceLT, Nat.reduceLeDiff, Nat.lt_add_one, Nat.le_refl, Nat.zero_le, Nat.sub_zero, Int.reduceEq, Int.reduceNe, Int.reduceLT, Int.reduceLE, Int.reduceAdd, Int.reduceSub, Int.reduceMul, Int.reduceNeg, Int.reduceTDiv, Int.reduceTMod, ne_eq, reduceCtorEq, Nat.reduceEqDiff, Int.cast_ofNat_Int, true_or, or_true, false_or, or_false, lcq_0, lcq_2, lcq_3, lcq_4, lcq_5, wu_s, wu_1, wu_w, wu_lt, wu_ne, ar_s, ar_n, rr_s, rr_n, ob_n, nz_c, lt_T, lt_F, le_T, le_F, ie_T, ie_F, nt_T, nt_F, nl_T, nl_F, in_T, and_false, false_and, and_self, not_true_eq_false, Int.toNat_natCast, Int.reduceToNat, if_true, if_false, mi_205, i205_0, i205_1, i205_2, i205_5, i205_6, i205_7, i205_8, i205_10, i205_13, i205_14, i205_17, i205_20, i205_21, i205_24, i205_25, i205_28, i205_31, i205_32, i205_35, i205_36, i205_37, i205_40, i205_41, i205_43, i205_46, i205_47, i205_50, i205_51, i205_54, i205_57, i205_58, i205_59, i205_62, i205_65, i205_67, i205_68, i205_70, i205_73, i205_74, i205_77, i205_79, i205_82, i205_84, i205_87, i205_88, i205_90, i205_93, i205_94, i205_95, i205_98, i205_100, i205_103, i205_105, i205_108, i205_109, i205_110, i205_113, i205_114, i205_117, i205_118, i205_121, i205_122, i205_123, i205_126, i205_127, i205_128, i205_131, i205_132, i205_134, i205_137, i205_138, i205_141, i205_143, i205_146, i205_147, i205_150, i205_152, i205_155, i205_156, i205_157, i205_158, i205_161, i205_164, i205_165, i205_166, i205_169, i205_170, i205_171, i205_174, i205_175, i205_176, i205_179, i205_180, i205_181, i205_184, i205_185, i205_186, i205_189, i205_190, i205_191, i205_194, i205_197, i205_198, i205_199, i205_202, k199, k200, k202, k203, k206, k207, k219, k220, g12_21, g12_22, g12_27, g12_29, p12_21, p12_27, p12_29, ysA, ysR]
            refine y_ansG hx (by omega) (by decide) t1 ?_
            simp (disch := omega) only [s_1, s_2, s_3, s_4, s_76, s_5, s_6, s_7, s_8, s_9, s_10, s_11, s_12, s_13, s_14, s_15, s_16, s_17, s_18, s_19, s_20, s_21, s_22, s_23, s_24, s_25, s_26, s_27, s_28, s_29, s_30, s_31, s_32, s_33, s_34, s_35, s_36, s_37, s_38, s_39, s_40l, s_40i, s_40r, s_41, s_43, t_44, t_45, t_46, t_47, s_48, s_49, s_50, s_51, s_52, s_53, s_54, s_55, s_56, s_57, s_58, s_59, s_60, s_61, s_62_0, s_62_1, s_62_2, s_66, s_67, s_68, s_69, s_70, s_71, s_72, s_73, sws_n, sws_c, lget, lset, fget, fset, nolg, nolong, avc, stw, cnd, isobj_eo, GCi, GCn, retk, List.length_cons, List.length_nil, ↓reduceIte, and_true, true_and, not_true_eq_false, not_false_eq_true, forall_const, Nat.reduceAdd, Nat.reduceLT, Nat.reduceLeDiff, Nat.lt_add_one, Nat.le_refl, Nat.zero_le, Nat.sub_zero, Int.reduceEq, Int.reduceNe, Int.reduceLT, Int.reduceLE, Int.reduceAdd, Int.reduceSub, Int.reduceMul, Int.reduceNeg, Int.reduceTDiv, Int.reduceTMod, ne_eq, reduceCtorEq, Nat.reduceEqDiff, Int.cast_ofNat_Int, true_or, or_true, false_or, or_false, lcq_0, lcq_2, lcq_3, lcq_4, lcq_5, wu_s, wu_1, wu_w, wu_lt, wu_ne, ar_s, ar_n, rr_s, rr_n, ob_n, nz_c, lt_T, lt_F, le_T, le_F, ie_T, ie_F, nt_T, nt_F, nl_T, nl_F, in_T, and_false, false_and, and_self, not_true_eq_false, Int.toNat_natCast, Int.reduceToNat, if_true, if_false, mi_205, i205_0, i205_1, i205_2, i205_5, i205_6, i205_7, i205_8, i205_10, i205_13, i205_14, i205_17, i205_20, i205_21, i205_24, i205_25, i205_28, i205_31, i205_32, i205_35, i205_36, i205_37, i205_40, i205_41, i205_43, i205_46, i205_47, i205_50, i205_51, i205_54, i205_57, i205_58, i205_59, i205_62, i205_65, i205_67, i205_68, i205_70, i205_73, i205_74, i205_77, i205_79, i205_82, i205_84, i205_87, i205_88, i205_90, i205_93, i205_94, i205_95, i205_98, i205_100, i205_103, i205_105, i205_108, i205_109, i205_110, i205_113, i205_114, i205_117, i205_118, i205_121, i205_122, i205_123, i205_126, i205_127, i205_128, i205_131, i205_132, i205_134, i205_137, i205_138, i205_141, i205_143, i205_146, i205_147, i205_150, i205_152, i205_155, i205_156, i205_157, i205_158, i205_161, i205_164, i205_165, i205_166, i205_169, i205_170, i205_171, i205_174, i205_175, i205_176, i205_179, i205_180, i205_181, i205_184, i205_185, i205_186, i205_189, i205_190, i205_191, i205_194, i205_197, i205_198, i205_199, i205_202, k199, k200, k202, k203, k206, k207, k219, k220, g12_21, g12_22, g12_27, g12_29, p12_21, p12_27, p12_29]
            refine y_ansG hx (by omega) (by decide) b1 ?_
            change G 205 137 [some (vr 148), some (vi 0), some (vi 1), some (vi 0), some (vi 0)] [] (GX W (tsC x0)) 0 0 Q
            obtain ⟨g1, g2, g3⟩ := t1.tc
            generalize tsC x0 = x1 at *
            have yt := fun {Q : AQ} => y_top (W := W) (Q := Q) (x := x1) hx.1 (g1.b29 hn).1
            rw [i205_137]
            by_cases ct : topF x1 = 12
            · rw [if_pos ct] at hQ
              have ysg := fun {Q : AQ} => yv_sign (Q := Q) (o := x1.2) hx g1.1
              have cl := g1.cl (T := T) ct
              have hp1 := g1.1.2.1
              have hb := (g1.b29 hn)
              have i21 : in32 (x1.1.1 21 + 1) := by unfold in32; omega
              have i29 : in32 (x1.1.1 29 - 1) := by unfold in32; omega
              have i27 : in32 (x1.1.1 27 - 1) := by unfold in32; omega
              have key : ∀ y, clF T n x1 = y → WB n y.1 ∧ (y.1.1 22 = 0 → RA n (K + 3) 0 y ∧ x1.1.1 21 + 1 ≤ y.1.1 21) ∧ Q none (GX W (tesL T n f false y)) := by
                intro y hy
                rw [← hy]
                exact ⟨cl.1, cl.2, hQ⟩
              have stp : ∀ y y3 y4, clF T n x1 = y → G 205 9 [some (vr 148), some (vi 0), some (vi 1), y3, y4] [] (GX W y) 0 0 Q := by
                intro y y3 y4 hy
                obtain ⟨k1, k2, k3⟩ := key y hy
                exact ih false y _ _ k1 (fun z => ⟨(k2 z).1, by have := (k2 z).2; omega⟩) (by omega) k3
              by_cases c93 : chr T n (x1.1.1 21).toNat = 93
              · have w29 : ∀ v, fu x1.1.1 21 v 29 = x1.1.1 29 := fun v => fu_ne _ _ (by decide)
                have w27 : ∀ v w, fu (fu x1.1.1 21 v) 29 w 27 = x1.1.1 27 := fun v w => by rw [fu_ne _ _ (by decide), fu_ne _ _ (by decide)]
                simp (disch := omega) only [s_1, s_2, s_3, s_4, s_76, s_5, s_6, s_7, s_8, s_9, s_10, s_11, s_12, s_13, s_14, s_15, s_16, s_17, s_18, s_19, s_20, s_21, s_22, s_23, s_24, s_25, s_26, s_27, s_28, s_29, s_30, s_31, s_32, s_33, s_34, s_35, s_36, s_37, s_38, s_39, s_40l, s_40i, s_40r, s_41, s_43, t_44, t_45, t_46, t_47, s_48, s_49, s_50, s_51, s_52, s_53, s_54, s_55, s_56, s_57, s_58, s_59, s_60, s_61, s_62_0, s_62_1, s_62_2, s_66, s_67, s_68, s_69, s_70, s_71, s_72, s_73, sws_n, sws_c, lget, lset, fget, fset, nolg, nolong, avc, stw, cnd, isobj_eo, GCi, GCn, retk, List.length_cons, List.length_nil, ↓reduceIte, and_true, true_and, not_true_eq_false, not_false_eq_true, forall_const, Nat.reduceAdd, Nat.reduceLT, Nat.reduceLeDiff, Nat.lt_add_one, Nat.le_refl, Nat.zero_le, Nat.sub_zero, Int.reduceEq, Int.reduceNe, Int.reduceLT, Int.reduceLE, Int.reduceAdd, Int.reduceSub, Int.reduceMul, Int.reduceNeg, Int.reduceTDiv, Int.reduceTMod, ne_eq, reduceCtorEq, Nat.reduceEqDiff, Int.cast_ofNat_Int, true_or, or_true, false_or, or_false, lcq_0, lcq_2, lcq_3, lcq_4, lcq_5, wu_s, wu_1, wu_w, wu_lt, wu_ne, ar_s, ar_n, rr_s, rr_n, ob_n, nz_c, lt_T, lt_F, le_T, le_F, ie_T, ie_F, nt_T, nt_F, nl_T, nl_F, in_T, and_false, false_and, and_self, not_true_eq_false, Int.toNat_natCast, Int.reduceToNat, if_true, if_false, mi_205, i205_0, i205_1, i205_2, i205_5, i205_6, i205_7, i205_8, i205_10, i205_13, i205_14, i205_17, i205_20, i205_21, i205_24, i205_25, i205_28, i205_31, i205_32, i205_35, i205_36, i205_37, i205_40, i205_41, i205_43, i205_46, i205_47, i205_50, i205_51, i205_54, i205_57, i205_58, i205_59, i205_62, i205_65, i205_67, i205_68, i205_70, i205_73, i205_74, i205_77, i205_79, i205_82, i205_84, i205_87, i205_88, i205_90, i205_93, i205_94, i205_95, i205_98, i205_100, i205_103, i205_105, i205_108, i205_109, i205_110, i205_113, i205_114, i205_117, i205_118, i205_121, i205_122, i205_123, i205_126, i205_127, i205_128, i205_131, i205_132, i205_134, i205_137, i205_138, i205_141, i205_143, i205_146, i205_147, i205_150, i205_152, i205_155, i205_156, i205_157, i205_158, i205_161, i205_164, i205_165, i205_166, i205_169, i205_170, i205_171, i205_174, i205_175, i205_176, i205_179, i205_180, i205_181, i205_184, i205_185, i205_186, i205_189, i205_190, i205_191, i205_194, i205_197, i205_198, i205_199, i205_202, k199, k200, k202, k203, k206, k207, k219, k220, g12_21, g12_22, g12_27, g12_29, p12_21, p12_27, p12_29, yt, ct, ysg, c93, w29, w27, i21, i29, i27]
                exact stp _ _ _ (by unfold clF clS; rw [if_pos c93])
              · have yf := fun {Q : AQ} => yv_fails (W := W) (Q := Q) (σ := x1.1) (o := x1.2) (c := 0) (pl := x1.1.1 21) hx (by omega) (by decide)
                have v21 : (flF 0 (x1.1.1 21) x1.1).1 21 = x1.1.1 21 := fl_o (by decide)
                have w29 : ∀ v, fu (flF 0 (x1.1.1 21) x1.1).1 21 v 29 = x1.1.1 29 := fun v => by rw [fu_ne _ _ (by decide)]; exact fl_o (by decide)
                have w27 : ∀ v w, fu (fu (flF 0 (x1.1.1 21) x1.1).1 21 v) 29 w 27 = x1.1.1 27 := fun v w => by rw [fu_ne _ _ (by decide), fu_ne _ _ (by decide)]; exact fl_o (by decide)
                simp (disch := omega) only [s_1, s_2, s_3, s_4, s_76, s_5, s_6, s_7, s_8, s_9, s_10, s_11, s_12, s_13, s_14, s_15, s_16, s_17, s_18, s_19, s_20, s_21, s_22, s_23, s_24, s_25, s_26, s_27, s_28, s_29, s_30, s_31, s_32, s_33, s_34, s_35, s_36, s_37, s_38, s_39, s_40l, s_40i, s_40r, s_41, s_43, t_44, t_45, t_46, t_47, s_48, s_49, s_50, s_51, s_52, s_53, s_54, s_55, s_56, s_57, s_58, s_59, s_60, s_61, s_62_0, s_62_1, s_62_2, s_66, s_67, s_68, s_69, s_70, s_71, s_72, s_73, sws_n, sws_c, lget, lset, fget, fset, nolg, nolong, avc, stw, cnd, isobj_eo, GCi, GCn, retk, List.length_cons, List.length_nil, ↓reduceIte, and_true, true_and, not_true_eq_false, not_false_eq_true, forall_const, Nat.reduceAdd, Nat.reduceLT, Nat.reduceLeDiff, Nat.lt_add_one, Nat.le_refl, Nat.zero_le, Nat.sub_zero, Int.reduceEq, Int.reduceNe, Int.reduceLT, Int.reduceLE, Int.reduceAdd, Int.reduceSub, Int.reduceMul, Int.reduceNeg, Int.reduceTDiv, Int.reduceTMod, ne_eq, reduceCtorEq, Nat.reduceEqDiff, Int.cast_ofNat_Int, true_or, or_true, false_or, or_false, lcq_0, lcq_2, lcq_3, lcq_4, lcq_5, wu_s, wu_1, wu_w, wu_lt, wu_ne, ar_s, ar_n, rr_s, rr_n, ob_n, nz_c, lt_T, lt_F, le_T, le_F, ie_T, ie_F, nt_T, nt_F, nl_T, nl_F, in_T, and_false, false_and, and_self, not_true_eq_false, Int.toNat_natCast, Int.reduceToNat, if_true, if_false, mi_205, i205_0, i205_1, i205_2, i205_5, i205_6, i205_7, i205_8, i205_10, i205_13, i205_14, i205_17, i205_20, i205_21, i205_24, i205_25, i205_28, i205_31, i205_32, i205_35, i205_36, i205_37, i205_40, i205_41, i205_43, i205_46, i205_47, i205_50, i205_51, i205_54, i205_57, i205_58, i205_59, i205_62, i205_65, i205_67, i205_68, i205_70, i205_73, i205_74, i205_77, i205_79, i205_82, i205_84, i205_87, i205_88, i205_90, i205_93, i205_94, i205_95, i205_98, i205_100, i205_103, i205_105, i205_108, i205_109, i205_110, i205_113, i205_114, i205_117, i205_118, i205_121, i205_122, i205_123, i205_126, i205_127, i205_128, i205_131, i205_132, i205_134, i205_137, i205_138, i205_141, i205_143, i205_146, i205_147, i205_150, i205_152, i205_155, i205_156, i205_157, i205_158, i205_161, i205_164, i205_165, i205_166, i205_169, i205_170, i205_171, i205_174, i205_175, i205_176, i205_179, i205_180, i205_181, i205_184, i205_185, i205_186, i205_189, i205_190, i205_191, i205_194, i205_197, i205_198, i205_199, i205_202, k199, k200, k202, k203, k206, k207, k219, k220, g12_21, g12_22, g12_27, g12_29, p12_21, p12_27, p12_29, yt, ct, ysg, c93, yf, v21, w29, w27, i21, i29, i27]
                exact stp _ _ _ (by unfold clF clS; rw [if_neg c93])
            · rw [if_neg ct] at hQ
              simp (disch := omega) only [s_1, s_2, s_3, s_4, s_76, s_5, s_6, s_7, s_8, s_9, s_10, s_11, s_12, s_13, s_14, s_15, s_16, s_17, s_18, s_19, s_20, s_21, s_22, s_23, s_24, s_25, s_26, s_27, s_28, s_29, s_30, s_31, s_32, s_33, s_34, s_35, s_36, s_37, s_38, s_39, s_40l, s_40i, s_40r, s_41, s_43, t_44, t_45, t_46, t_47, s_48, s_49, s_50, s_51, s_52, s_53, s_54, s_55, s_56, s_57, s_58, s_59, s_60, s_61, s_62_0, s_62_1, s_62_2, s_66, s_67, s_68, s_69, s_70, s_71, s_72, s_73, sws_n, sws_c, lget, lset, fget, fset, nolg, nolong, avc, stw, cnd, isobj_eo, GCi, GCn, retk, List.length_cons, List.length_nil, ↓reduceIte, and_true, true_and, not_true_eq_false, not_false_eq_true, forall_const, Nat.reduceAdd, Nat.reduceLT, Nat.reduceLeDiff, Nat.lt_add_one, Nat.le_refl, Nat.zero_le, Nat.sub_zero, Int.reduceEq, Int.reduceNe, Int.reduceLT, Int.reduceLE, Int.reduceAdd, Int.reduceSub, Int.reduceMul, Int.reduceNeg, Int.reduceTDiv, Int.reduceTMod, ne_eq, reduceCtorEq, Nat.reduceEqDiff, Int.cast_ofNat_Int, true_or, or_true, false_or, or_false, lcq_0, lcq_2, lcq_3, lcq_4, lcq_5, wu_s, wu_1, wu_w, wu_lt, wu_ne, ar_s, ar_n, rr_s, rr_n, ob_n, nz_c, lt_T, lt_F, le_T, le_F, ie_T, ie_F, nt_T, nt_F, nl_T, nl_F, in_T, and_false, false_and, and_self, not_true_eq_false, Int.toNat_natCast, Int.reduceToNat, if_true, if_false, mi_205, i205_0, i205_1, i205_2, i205_5, i205_6, i205_7, i205_8, i205_10, i205_13, i205_14, i205_17, i205_20, i205_21, i205_24, i205_25, i205_28, i205_31, i205_32, i205_35, i205_36, i205_37, i205_40, i205_41, i205_43, i205_46, i205_47, i205_50, i205_51, i205_54, i205_57, i205_58, i205_59, i205_62, i205_65, i205_67, i205_68, i205_70, i205_73, i205_74, i205_77, i205_79, i205_82, i205_84, i205_87, i205_88, i205_90, i205_93, i205_94, i205_95, i205_98, i205_100, i205_103, i205_105, i205_108, i205_109, i205_110, i205_113, i205_114, i205_117, i205_118, i205_121, i205_122, i205_123, i205_126, i205_127, i205_128, i205_131, i205_132, i205_134, i205_137, i205_138, i205_141, i205_143, i205_146, i205_147, i205_150, i205_152, i205_155, i205_156, i205_157, i205_158, i205_161, i205_164, i205_165, i205_166, i205_169, i205_170, i205_171, i205_174, i205_175, i205_176, i205_179, i205_180, i205_181, i205_184, i205_185, i205_186, i205_189, i205_190, i205_191, i205_194, i205_197, i205_198, i205_199, i205_202, k199, k200, k202, k203, k206, k207, k219, k220, g12_21, g12_22, g12_27, g12_29, p12_21, p12_27, p12_29, yt, ct]
              rw [i205_9]
              simp (disch := omega) only [s_1, s_2, s_3, s_4, s_76, s_5, s_6, s_7, s_8, s_9, s_10, s_11, s_12, s_13, s_14, s_15, s_16, s_17, s_18, s_19, s_20, s_21, s_22, s_23, s_24, s_25, s_26, s_27, s_28, s_29, s_30, s_31, s_32, s_33, s_34, s_35, s_36, s_37, s_38, s_39, s_40l, s_40i, s_40r, s_41, s_43, t_44, t_45, t_46, t_47, s_48, s_49, s_50, s_51, s_52, s_53, s_54, s_55, s_56, s_57, s_58, s_59, s_60, s_61, s_62_0, s_62_1, s_62_2, s_66, s_67, s_68, s_69, s_70, s_71, s_72, s_73, sws_n, sws_c, lget, lset, fget, fset, nolg, nolong, avc, stw, cnd, isobj_eo, GCi, GCn, retk, List.length_cons, List.length_nil, ↓reduceIte, and_true, true_and, not_true_eq_false, not_false_eq_true, forall_const, Nat.reduceAdd, Nat.reduceLT, Nat.reduceLeDiff, Nat.lt_add_one, Nat.le_refl, Nat.zero_le, Nat.sub_zero, Int.reduceEq, Int.reduceNe, Int.reduceLT, Int.reduceLE, Int.reduceAdd, Int.reduceSub, Int.reduceMul, Int.reduceNeg, Int.reduceTDiv, Int.reduceTMod, ne_eq, reduceCtorEq, Nat.reduceEqDiff, Int.cast_ofNat_Int, true_or, or_true, false_or, or_false, lcq_0, lcq_2, lcq_3, lcq_4, lcq_5, wu_s, wu_1, wu_w, wu_lt, wu_ne, ar_s, ar_n, rr_s, rr_n, ob_n, nz_c, lt_T, lt_F, le_T, le_F, ie_T, ie_F, nt_T, nt_F, nl_T, nl_F, in_T, and_false, false_and, and_self, not_true_eq_false, Int.toNat_natCast, Int.reduceToNat, if_true, if_false, mi_205, i205_0, i205_1, i205_2, i205_5, i205_6, i205_7, i205_8, i205_9, i205_10, i205_13, i205_14, i205_17, i205_20, i205_21, i205_24, i205_25, i205_28, i205_31, i205_32, i205_35, i205_36, i205_37, i205_40, i205_41, i205_43, i205_46, i205_47, i205_50, i205_51, i205_54, i205_57, i205_58, i205_59, i205_62, i205_65, i205_67, i205_68, i205_70, i205_73, i205_74, i205_77, i205_79, i205_82, i205_84, i205_87, i205_88, i205_90, i205_93, i205_94, i205_95, i205_98, i205_100, i205_103, i205_105, i205_108, i205_109, i205_110, i205_113, i205_114, i205_117, i205_118, i205_121, i205_122, i205_123, i205_126, i205_127, i205_128, i205_131, i205_132, i205_134, i205_137, i205_138, i205_141, i205_143, i205_146, i205_147, i205_150, i205_152, i205_155, i205_156, i205_157, i205_158, i205_161, i205_164, i205_165, i205_166, i205_169, i205_170, i205_171, i205_174, i205_175, i205_176, i205_179, i205_180, i205_181, i205_184, i205_185, i205_186, i205_189, i205_190, i205_191, i205_194, i205_197, i205_198, i205_199, i205_202, k199, k200, k202, k203, k206, k207, k219, k220, g12_21, g12_22, g12_27, g12_29, p12_21, p12_27, p12_29]
              exact hQ
    · have e : tesL T n (f + 1) b x = x := if_neg c0
      rw [e] at hQ
      rw [i205_9]
      simp (disch := omega) only [s_1, s_2, s_3, s_4, s_76, s_5, s_6, s_7, s_8, s_9, s_10, s_11, s_12, s_13, s_14, s_15, s_16, s_17, s_18, s_19, s_20, s_21, s_22, s_23, s_24, s_25, s_26, s_27, s_28, s_29, s_30, s_31, s_32, s_33, s_34, s_35, s_36, s_37, s_38, s_39, s_40l, s_40i, s_40r, s_41, s_43, t_44, t_45, t_46, t_47, s_48, s_49, s_50, s_51, s_52, s_53, s_54, s_55, s_56, s_57, s_58, s_59, s_60, s_61, s_62_0, s_62_1, s_62_2, s_66, s_67, s_68, s_69, s_70, s_71, s_72, s_73, sws_n, sws_c, lget, lset, fget, fset, nolg, nolong, avc, stw, cnd, isobj_eo, GCi, GCn, retk, List.length_cons, List.length_nil, ↓reduceIte, and_true, true_and, not_true_eq_false, not_false_eq_true, forall_const, Nat.reduceAdd, Nat.reduceLT, Nat.reduceLeDiff, Nat.lt_add_one, Nat.le_refl, Nat.zero_le, Nat.sub_zero, Int.reduceEq, Int.reduceNe, Int.reduceLT, Int.reduceLE, Int.reduceAdd, Int.reduceSub, Int.reduceMul, Int.reduceNeg, Int.reduceTDiv, Int.reduceTMod, ne_eq, reduceCtorEq, Nat.reduceEqDiff, Int.cast_ofNat_Int, true_or, or_true, false_or, or_false, lcq_0, lcq_2, lcq_3, lcq_4, lcq_5, wu_s, wu_1, wu_w, wu_lt, wu_ne, ar_s, ar_n, rr_s, rr_n, ob_n, nz_c, lt_T, lt_F, le_T, le_F, ie_T, ie_F, nt_T, nt_F, nl_T, nl_F, in_T, and_false, false_and, and_self, not_true_eq_false, Int.toNat_natCast, Int.reduceToNat, if_true, if_false, mi_205, i205_0, i205_1, i205_2, i205_5, i205_6, i205_7, i205_8, i205_10, i205_13, i205_14, i205_17, i205_20, i205_21, i205_24, i205_25, i205_28, i205_31, i205_32, i205_35, i205_36, i205_37, i205_40, i205_41, i205_43, i205_46, i205_47, i205_50, i205_51, i205_54, i205_57, i205_58, i205_59, i205_62, i205_65, i205_67, i205_68, i205_70, i205_73, i205_74, i205_77, i205_79, i205_82, i205_84, i205_87, i205_88, i205_90, i205_93, i205_94, i205_95, i205_98, i205_100, i205_103, i205_105, i205_108, i205_109, i205_110, i205_113, i205_114, i205_117, i205_118, i205_121, i205_122, i205_123, i205_126, i205_127, i205_128, i205_131, i205_132, i205_134, i205_137, i205_138, i205_141, i205_143, i205_146, i205_147, i205_150, i205_152, i205_155, i205_156, i205_157, i205_158, i205_161, i205_164, i205_165, i205_166, i205_169, i205_170, i205_171, i205_174, i205_175, i205_176, i205_179, i205_180, i205_181, i205_184, i205_185, i205_186, i205_189, i205_190, i205_191, i205_194, i205_197, i205_198, i205_199, i205_202, k199, k200, k202, k203, k206, k207, k219, k220, g12_21, g12_22, g12_27, g12_29, p12_21, p12_27, p12_29, c0]
      exact hQ
theorem RA.st {x : GT} (h : RI n K 0 x.1) (hd : 0 ≤ x.1.1 27 ∧ x.1.1 27 ≤ x.1.1 21) : RA n K 0 ((fu x.1.1 29 0, x.1.2), x.2) := by
  have e : ((fu x.1.1 29 0, x.1.2) : GS).1 29 = 0 := by
    dsimp only
    exact fu_eq _ _ _
  have e27 : ((fu x.1.1 29 0, x.1.2) : GS).1 27 = x.1.1 27 := by
    dsimp only
    rw [fu_ne _ _ (by decide)]
  have e21 : ((fu x.1.1 29 0, x.1.2) : GS).1 21 = x.1.1 21 := by
    dsimp only
    rw [fu_ne _ _ (by decide)]
  have hp := h.2.1
  refine ⟨?_, ?_, ?_⟩
  · show RI n (stN x.2 (((fu x.1.1 29 0, x.1.2) : GS).1 29).toNat + K) 0 (fu x.1.1 29 0, x.1.2)
    rw [e]
    have r : RI n K 0 (fu x.1.1 29 0, x.1.2) := h.cg (fun j a b => fu_ne _ _ b)
    exact r.wk (by show 0 + K ≤ K; omega) (by decide)
  · show 0 ≤ ((fu x.1.1 29 0, x.1.2) : GS).1 29 ∧ ((fu x.1.1 29 0, x.1.2) : GS).1 29 ≤ ((fu x.1.1 29 0, x.1.2) : GS).1 21
    rw [e, e21]
    omega
  · show dpN x.2 (((fu x.1.1 29 0, x.1.2) : GS).1 29).toNat ≤ ((fu x.1.1 29 0, x.1.2) : GS).1 27 ∧ ((fu x.1.1 29 0, x.1.2) : GS).1 27 ≤ ((fu x.1.1 29 0, x.1.2) : GS).1 21
    rw [e, e21, e27]
    show 0 ≤ _ ∧ _
    omega
theorem y_test (hx : TX W T n) (hK : 0 ≤ K) (h : RI n K 0 x.1) (hd : 0 ≤ x.1.1 27 ∧ x.1.1 27 ≤ x.1.1 21) (hf : x.1.1 22 = 0) (hQ : Q none (GX W (tesF T n x))) : Gm 205 [vr 148] (GX W x) Q := by
  have hw : 192 ≤ W.1 := hx.1.1
  have ra := RA.st h hd
  have hp := h.2.1
  have e21 : ((fu x.1.1 29 0, x.1.2) : GS).1 21 = x.1.1 21 := by
    dsimp only
    rw [fu_ne _ _ (by decide)]
  rw [e205]
  simp (disch := omega) only [s_1, s_2, s_3, s_4, s_76, s_5, s_6, s_7, s_8, s_9, s_10, s_11, s_12, s_13, s_14, s_15, s_16, s_17, s_18, s_19, s_20, s_21, s_22, s_23, s_24, s_25, s_26, s_27, s_28, s_29, s_30, s_31, s_32, s_33, s_34, s_35, s_36, s_37, s_38, s_39, s_40l, s_40i, s_40r, s_41, s_43, t_44, t_45, t_46, t_47, s_48, s_49, s_50, s_51, s_52, s_53, s_54, s_55, s_56, s_57, s_58, s_59, s_60, s_61, s_62_0, s_62_1, s_62_2, s_66, s_67, s_68, s_69, s_70, s_71, s_72, s_73, sws_n, sws_c, lget, lset, fget, fset, nolg, nolong, avc, stw, cnd, isobj_eo, GCi, GCn, retk, List.length_cons, List.length_nil, ↓reduceIte, and_true, true_and, not_true_eq_false, not_false_eq_true, forall_const, Nat.reduceAdd, Nat.reduceLT, Nat.reduceLeDiff, Nat.lt_add_one, Nat.le_refl, Nat.zero_le, Nat.sub_zero, Int.reduceEq, Int.reduceNe, Int.reduceLT, Int.reduceLE, Int.reduceAdd, Int.reduceSub, Int.reduceMul, Int.reduceNeg, Int.reduceTDiv, Int.reduceTMod, ne_eq, reduceCtorEq, Nat.reduceEqDiff, Int.cast_ofNat_Int, true_or, or_true, false_or, or_false, lcq_0, lcq_2, lcq_3, lcq_4, lcq_5, wu_s, wu_1, wu_w, wu_lt, wu_ne, ar_s, ar_n, rr_s, rr_n, ob_n, nz_c, lt_T, lt_F, le_T, le_F, ie_T, ie_F, nt_T, nt_F, nl_T, nl_F, in_T, and_false, false_and, and_self, not_true_eq_false, Int.toNat_natCast, Int.reduceToNat, if_true, if_false, mi_205, i205_0, i205_1, i205_2, i205_5, i205_6, i205_7, i205_8, i205_10, i205_13, i205_14, i205_17, i205_20, i205_21, i205_24, i205_25, i205_28, i205_31, i205_32, i205_35, i205_36, i205_37, i205_40, i205_41, i205_43, i205_46, i205_47, i205_50, i205_51, i205_54, i205_57, i205_58, i205_59, i205_62, i205_65, i205_67, i205_68, i205_70, i205_73, i205_74, i205_77, i205_79, i205_82, i205_84, i205_87, i205_88, i205_90, i205_93, i205_94, i205_95, i205_98, i205_100, i205_103, i205_105, i205_108, i205_109, i205_110, i205_113, i205_114, i205_117, i205_118, i205_121, i205_122, i205_123, i205_126, i205_127, i205_128, i205_131, i205_132, i205_134, i205_137, i205_138, i205_141, i205_143, i205_146, i205_147, i205_150, i205_152, i205_155, i205_156, i205_157, i205_158, i205_161, i205_164, i205_165, i205_166, i205_169, i205_170, i205_171, i205_174, i205_175, i205_176, i205_179, i205_180, i205_181, i205_184, i205_185, i205_186, i205_189, i205_190, i205_191, i205_194, i205_197, i205_198, i205_199, i205_202, k199, k200, k202, k203, k206, k207, k219, k220, g12_21, g12_22, g12_27, g12_29, p12_21, p12_27, p12_29]
  exact y_tloop hx hK (n + 2) true ((fu x.1.1 29 0, x.1.2), x.2) _ _ ra.1.wb (fun z => ⟨ra.wk (by show K + 0 ≤ K; omega) (by decide), by show _ < _ + (((fu x.1.1 29 0, x.1.2) : GS).1 21).toNat; rw [e21]; omega⟩) (by omega) hQ
theorem tes_b (hK : 0 ≤ K) : ∀ (f : Nat) (b : Bool) (x : GT), WB n x.1 → (x.1.1 22 = 0 → RA n (K + cond b 0 3) 0 x) → WB n (tesL T n f b x).1 ∧ ((tesL T n f b x).1.1 22 = 0 → RA n K 0 (tesL T n f b x) ∧ x.1.1 21 ≤ (tesL T n f b x).1.1 21)
  | 0, b, x, h1, h2 => ⟨h1, fun z => ⟨(h2 z).wk (by cases b <;> simp only [cond_true, cond_false] <;> omega) (by decide), Int.le_refl _⟩⟩
  | f + 1, b, x, h1, h2 => by
    by_cases c0 : x.1.1 22 = 0
    · have ra := h2 c0
      cases b with
      | true =>
        have e : tesL T n (f + 1) true x = @ite GT (facP T n x) (Classical.propDecidable _) (tesL T n f false (facX T n x)) (tesL T n f true (facX T n x)) := if_pos c0
        rw [e]
        change RA n (K + 0) 0 x at ra
        obtain ⟨r1, r2, r3⟩ := ra.fac (T := T)
        by_cases cf : facP T n x
        · rw [if_pos cf] at r1 ⊢
          obtain ⟨q1, q2⟩ := tes_b hK f false _ r1.1.wb (fun z => (r1.d0 z).wk (by show K + 3 ≤ _; omega) (by decide))
          exact ⟨q1, fun z => ⟨(q2 z).1, by have := (q2 z).2; omega⟩⟩
        · rw [if_neg cf] at r1 ⊢
          obtain ⟨q1, q2⟩ := tes_b hK f true _ r1.1.wb (fun z => (r1.d0 z).wk (by show K + 0 ≤ _; omega) (by decide))
          exact ⟨q1, fun z => ⟨(q2 z).1, by have := (q2 z).2; omega⟩⟩
      | false =>
        have e : tesL T n (f + 1) false x = @ite GT (tsP T n (ts0 T n x)) (Classical.propDecidable _) (tesL T n f true (tsO T n (ts0 T n x))) (if topF (tsC (ts0 T n x)) = 12 then tesL T n f false (clF T n (tsC (ts0 T n x))) else tsC (ts0 T n x)) := if_pos c0
        rw [e]
        change RA n (K + 3) 0 x at ra
        obtain ⟨t1, t2, t3⟩ := ra.t0 (T := T)
        by_cases cp : tsP T n (ts0 T n x)
        · rw [if_pos cp]
          obtain ⟨o1, o2⟩ := t1.tO cp
          obtain ⟨q1, q2⟩ := tes_b hK f true _ o1.1.wb (fun z => o1.wk (by show K + 0 ≤ _; omega) (by decide))
          exact ⟨q1, fun z => ⟨(q2 z).1, by have := (q2 z).2; omega⟩⟩
        · rw [if_neg cp]
          obtain ⟨g1, g2, g3⟩ := t1.tc
          by_cases ct : topF (tsC (ts0 T n x)) = 12
          · rw [if_pos ct]
            obtain ⟨k1, k2⟩ := g1.cl (T := T) ct
            obtain ⟨q1, q2⟩ := tes_b hK f false (clF T n (tsC (ts0 T n x))) k1 (fun z => (k2 z).1)
            refine ⟨q1, fun z => ⟨(q2 z).1, ?_⟩⟩
            have := (q2 z).2
            have : (clF T n (tsC (ts0 T n x))).1.1 21 = (tsC (ts0 T n x)).1.1 21 + 1 := by
              unfold clF
              dsimp only
              rw [fu_ne _ _ (by decide), fu_ne _ _ (by decide), fu_eq]
            omega
          · rw [if_neg ct]
            exact ⟨g1.1.wb, fun _ => ⟨g1.wk (by omega) (by decide), by omega⟩⟩
    · have e : tesL T n (f + 1) b x = x := if_neg c0
      rw [e]
      exact ⟨h1, fun z => absurd z c0⟩
theorem RI.tes (hK : 0 ≤ K) (h : RI n K 0 x.1) (hd : 0 ≤ x.1.1 27 ∧ x.1.1 27 ≤ x.1.1 21) : WB n (tesF T n x).1 ∧ ((tesF T n x).1.1 22 = 0 → RA n K 0 (tesF T n x) ∧ x.1.1 21 ≤ (tesF T n x).1.1 21) := by
  have ra := RA.st h hd
  obtain ⟨a, b⟩ := tes_b (T := T) hK (n + 2) true _ ra.1.wb (fun _ => ra.wk (by show K + 0 ≤ K; omega) (by decide))
  refine ⟨a, fun z => ⟨(b z).1, ?_⟩⟩
  have := (b z).2
  have e21 : ((fu x.1.1 29 0, x.1.2) : GS).1 21 = x.1.1 21 := by
    dsimp only
    rw [fu_ne _ _ (by decide)]
  have e22 : (((fu x.1.1 29 0, x.1.2), x.2) : GT).1.1 21 = x.1.1 21 := e21
  rw [e22] at this
  exact this
end WLT2
