-- FACT of the reference; what its readers leave alone
def adX (d : Int) (x : GT) : GT := (adF d x.1, x.2)
def facP (T : Nat → Int) (n : Nat) (x : GT) : Prop := ¬ stP T n ((skF T n x.1).1 21).toNat 9 ∧ ¬ chr T n ((skF T n x.1).1 21).toNat = 91
noncomputable def facX (T : Nat → Int) (n : Nat) (x : GT) : GT :=
  @ite GT (stP T n ((skF T n x.1).1 21).toNat 9) (Classical.propDecidable _) (adX 3 (opF 9 (skF T n x.1, x.2)))
    (if chr T n ((skF T n x.1).1 21).toNat = 91 then adX 1 (opF 12 (skF T n x.1, x.2))
     else (coF T n (skF T n x.1), x.2))
section FRM
variable {T : Nat → Int} {n : Nat} {K D c pl k v d : Int} {σ : GS} {j : Nat}
theorem sk_o (h : j ≠ 21) : (skF T n σ).1 j = σ.1 j := fu_ne _ _ h
theorem dg_o {most : Int} (h : j ≠ 21) (h2 : j ≠ 22) : (dgF T n most σ).1 j = σ.1 j := by
  show dgG σ.1 T n (σ.1 21).toNat most j = _
  unfold dgG flG
  split
  · split
    · rw [fu_ne _ _ h2, fu_ne _ _ h]
    · rw [fu_ne _ _ h]
  · rw [fu_ne _ _ h2]
theorem va_o (h : j ≠ 21) (h2 : j ≠ 22) (h3 : j ≠ 26) (h4 : j ≠ 28) : (vaF T n σ).1 j = σ.1 j := by
  unfold vaF
  dsimp only
  split
  · rw [en_o h3, cn_o h4 h2, dg_o h h2, sk_o h]
  · split
    · rw [fl_o h2, sk_o h]
    · rw [en_o h3, ad_o h, cn_o h4 h2, sk_o h]
theorem teL_o (h : j ≠ 21) (h2 : j ≠ 22) (h3 : j ≠ 26) (h4 : j ≠ 28) : ∀ (f : Nat) (σ : GS), (teL T n f σ).1 j = σ.1 j
  | 0, σ => rfl
  | f + 1, σ => by
    show (if σ.1 22 = 0 ∧ (chr T n (σ.1 21).toNat = 42 ∨ chr T n (σ.1 21).toNat = 47) then teL T n f (skF T n (enF (if chr T n (σ.1 21).toNat = 42 then 13 else 14) 0 (vaF T n (adF 1 σ)))) else σ).1 j = _
    split
    · rw [teL_o h h2 h3 h4 f, sk_o h, en_o h3, va_o h h2 h3 h4, ad_o h]
    · rfl
theorem te_o (h : j ≠ 21) (h2 : j ≠ 22) (h3 : j ≠ 26) (h4 : j ≠ 28) : (teF T n σ).1 j = σ.1 j := by
  unfold teF
  rw [teL_o h h2 h3 h4, sk_o h, va_o h h2 h3 h4]
theorem suL_o (h : j ≠ 21) (h2 : j ≠ 22) (h3 : j ≠ 26) (h4 : j ≠ 28) : ∀ (f : Nat) (σ : GS), (suL T n f σ).1 j = σ.1 j
  | 0, σ => rfl
  | f + 1, σ => by
    show (if σ.1 22 = 0 ∧ (chr T n (σ.1 21).toNat = 43 ∨ chr T n (σ.1 21).toNat = 45) then suL T n f (enF (if chr T n (σ.1 21).toNat = 43 then 2 else 3) 0 (teF T n (adF 1 σ))) else σ).1 j = _
    split
    · rw [suL_o h h2 h3 h4 f, en_o h3, te_o h h2 h3 h4, ad_o h]
    · rfl
theorem su_o (h : j ≠ 21) (h2 : j ≠ 22) (h3 : j ≠ 26) (h4 : j ≠ 28) : (suF T n σ).1 j = σ.1 j := by
  unfold suF
  rw [suL_o h h2 h3 h4, te_o h h2 h3 h4]
theorem co_o (h : j ≠ 21) (h2 : j ≠ 22) (h3 : j ≠ 26) (h4 : j ≠ 28) : (coF T n σ).1 j = σ.1 j := by
  unfold coF
  split
  · rw [en_o h3, su_o h h2 h3 h4, ad_o h, ad_o h, cn_o h4 h2, su_o h h2 h3 h4]
  · rw [fl_o h2, su_o h h2 h3 h4]
theorem RI.cg {τ : GS} (h : RI n K D σ) (e : ∀ j, j ≠ 27 → j ≠ 29 → τ.1 j = σ.1 j) : RI n K D τ := by
  unfold RI at h ⊢
  rw [e 20 (by decide) (by decide), e 21 (by decide) (by decide), e 22 (by decide) (by decide), e 23 (by decide) (by decide), e 26 (by decide) (by decide), e 28 (by decide) (by decide), e 30 (by decide) (by decide)]
  exact h
end FRM
section WLV
variable {W : AW} {Q : AQ} {T : Nat → Int} {x : GT} {n : Nat} {K D k d : Int}
theorem RA.wk {K' D' : Int} (h : RA n K D x) (h1 : K' ≤ K) (h2 : D ≤ D') : RA n K' D' x := ⟨h.1.wk (by omega) h2, h.2⟩
theorem RA.d0 (h : RA n K D x) (hf : x.1.1 22 = 0) : RA n K 0 x := ⟨h.1.d0 hf, h.2⟩
theorem RA.sk (h : RA n K D x) : RA n K D (skF T n x.1, x.2) ∧ x.1.1 21 ≤ (skF T n x.1).1 21 := by
  obtain ⟨a, b⟩ := h.1.sk (T := T)
  refine ⟨⟨?_, ?_, ?_⟩, b⟩
  · show RI n (stN x.2 ((skF T n x.1).1 29).toNat + K) D (skF T n x.1)
    rw [sk_o (by decide)]
    exact a
  · show 0 ≤ (skF T n x.1).1 29 ∧ (skF T n x.1).1 29 ≤ (skF T n x.1).1 21
    rw [sk_o (by decide)]
    have := h.2.1
    omega
  · show dpN x.2 ((skF T n x.1).1 29).toNat ≤ (skF T n x.1).1 27 ∧ (skF T n x.1).1 27 ≤ (skF T n x.1).1 21
    rw [sk_o (j := 29) (by decide), sk_o (j := 27) (by decide)]
    have := h.2.2
    omega
theorem RA.co (h : RA n K 0 x) : RA n (K + 10) 3 (coF T n x.1, x.2) ∧ x.1.1 21 ≤ (coF T n x.1).1 21 ∧ ((coF T n x.1).1 22 = 0 → x.1.1 21 + 1 ≤ (coF T n x.1).1 21) := by
  obtain ⟨a, b, c⟩ := h.1.co (T := T) (by decide)
  refine ⟨⟨?_, ?_, ?_⟩, b, c⟩
  · show RI n (stN x.2 ((coF T n x.1).1 29).toNat + (K + 10)) 3 (coF T n x.1)
    rw [co_o (by decide) (by decide) (by decide) (by decide)]
    exact a.wk (by omega) (by decide)
  · show 0 ≤ (coF T n x.1).1 29 ∧ (coF T n x.1).1 29 ≤ (coF T n x.1).1 21
    rw [co_o (by decide) (by decide) (by decide) (by decide)]
    have := h.2.1
    omega
  · show dpN x.2 ((coF T n x.1).1 29).toNat ≤ (coF T n x.1).1 27 ∧ (coF T n x.1).1 27 ≤ (coF T n x.1).1 21
    rw [co_o (j := 29) (by decide) (by decide) (by decide) (by decide), co_o (j := 27) (by decide) (by decide) (by decide) (by decide)]
    have := h.2.2
    omega
theorem opD_o {pl : Int} {σ : GS} {j : Nat} (h : j ≠ 22) (h2 : j ≠ 27) : (opD k pl σ).1 j = σ.1 j := by
  unfold opD
  split
  · show fu (if σ.1 27 = 10 then flF 2 pl σ else σ).1 27 (σ.1 27 + 1) j = _
    rw [fu_ne _ _ h2]
    split
    · exact fl_o h
    · rfl
  · rfl
theorem opD_i {pl : Int} {σ : GS} (h : RI n K D σ) (hp : 0 ≤ pl) : RI n K D (opD k pl σ) := by
  unfold opD
  split
  · have h2 : RI n K D (if σ.1 27 = 10 then flF 2 pl σ else σ) := by
      split
      · exact h.fl hp (by decide)
      · exact h
    exact h2.cg (fun j a b => fu_ne _ _ a)
  · exact h
theorem opD_7 {pl : Int} {σ : GS} : (opD k pl σ).1 27 = σ.1 27 + (if k = 9 ∨ k = 12 then 1 else 0) := by
  unfold opD
  split
  · dsimp only
    exact fu_eq _ _ _
  · omega
theorem RA.op (h : RA n K D x) (hd : 1 ≤ d) (hp : x.1.1 21 + d ≤ (n : Int)) : RA n (K + d - (if k = 12 then 0 else 3)) D (adX d (opF k x)) ∧ (adX d (opF k x)).1.1 21 = x.1.1 21 + d := by
  obtain ⟨h1, h2, h3⟩ := h
  have hq := h1.2.1
  have hm := Int.toNat_of_nonneg h2.1
  have e21 : (opF k x).1.1 21 = x.1.1 21 := by
    show fu (opD k (x.1.1 21) x.1).1 29 (x.1.1 29 + 1) 21 = _
    rw [fu_ne _ _ (by decide), opD_o (by decide) (by decide)]
  have f21 : (adX d (opF k x)).1.1 21 = x.1.1 21 + d := by
    show (adF d (opF k x).1).1 21 = _
    rw [ad_e, e21]
  have e29 : (adX d (opF k x)).1.1 29 = x.1.1 29 + 1 := by
    show (adF d (opF k x).1).1 29 = _
    rw [ad_o (by decide)]
    show fu (opD k (x.1.1 21) x.1).1 29 (x.1.1 29 + 1) 29 = _
    exact fu_eq _ _ _
  have e27 : (adX d (opF k x)).1.1 27 = x.1.1 27 + (if k = 9 ∨ k = 12 then 1 else 0) := by
    show (adF d (opF k x).1).1 27 = _
    rw [ad_o (by decide)]
    show fu (opD k (x.1.1 21) x.1).1 29 (x.1.1 29 + 1) 27 = _
    rw [fu_ne _ _ (by decide), opD_7]
  have eh : (x.1.1 29 + 1).toNat = (x.1.1 29).toNat + 1 := by omega
  have es : stN (fu x.2 (x.1.1 29).toNat k) ((x.1.1 29).toNat + 1) = stN x.2 (x.1.1 29).toNat + (if k = 12 then 0 else 3) := by
    show stN (fu x.2 (x.1.1 29).toNat k) (x.1.1 29).toNat + (if fu x.2 (x.1.1 29).toNat k (x.1.1 29).toNat = 12 then 0 else 3) = _
    rw [fu_eq, stN_u _ (Nat.le_refl _)]
  have ed : dpN (fu x.2 (x.1.1 29).toNat k) ((x.1.1 29).toNat + 1) = dpN x.2 (x.1.1 29).toNat + (if k = 9 ∨ k = 12 then 1 else 0) := by
    show dpN (fu x.2 (x.1.1 29).toNat k) (x.1.1 29).toNat + (if fu x.2 (x.1.1 29).toNat k (x.1.1 29).toNat = 9 ∨ fu x.2 (x.1.1 29).toNat k (x.1.1 29).toNat = 12 then 1 else 0) = _
    rw [fu_eq, dpN_u _ (Nat.le_refl _)]
  refine ⟨⟨?_, ?_, ?_⟩, f21⟩
  · rw [e29, eh]
    show RI n (stN (fu x.2 (x.1.1 29).toNat k) ((x.1.1 29).toNat + 1) + _) D (adF d (opF k x).1)
    rw [es]
    have r := (opD_i (k := k) h1 hq.1).cg (τ := (opF k x).1) (fun j a b => fu_ne _ _ b)
    exact (r.ad (by omega) (by omega)).wk (by omega) (Int.le_refl _)
  · rw [e29, f21]
    omega
  · rw [e29, f21, e27, eh]
    show dpN (fu x.2 (x.1.1 29).toNat k) ((x.1.1 29).toNat + 1) ≤ _ ∧ _
    rw [ed]
    split <;> omega
theorem RA.fac (h : RA n K 0 x) : RA n (K + (@ite Int (facP T n x) (Classical.propDecidable _) 3 0)) 3 (facX T n x) ∧ x.1.1 21 ≤ (facX T n x).1.1 21 ∧ ((facX T n x).1.1 22 = 0 → x.1.1 21 + 1 ≤ (facX T n x).1.1 21) := by
  obtain ⟨s1, s2⟩ := h.sk (T := T)
  have hp : 0 ≤ (skF T n x.1).1 21 ∧ (skF T n x.1).1 21 ≤ (n : Int) := s1.1.2.1
  unfold facX facP
  by_cases c : stP T n ((skF T n x.1).1 21).toNat 9
  · rw [if_pos c, if_neg (fun z => z.1 c)]
    have sn := stP_n c (by decide) (by omega)
    have hl : (wd 9).length = 3 := by decide +kernel
    obtain ⟨o1, o2⟩ := s1.op (k := 9) (d := 3) (by decide) (by show (skF T n x.1).1 21 + 3 ≤ _; omega)
    refine ⟨o1.wk (by rw [if_neg (by decide)]; omega) (by decide), ?_⟩
    rw [o2]
    show _ ≤ (skF T n x.1).1 21 + 3 ∧ _
    exact ⟨by omega, fun _ => by show _ ≤ (skF T n x.1).1 21 + 3; omega⟩
  · rw [if_neg c]
    by_cases c2 : chr T n ((skF T n x.1).1 21).toNat = 91
    · rw [if_pos c2, if_neg (fun z => z.2 c2)]
      have sn := chr_lt c2 (by decide)
      obtain ⟨o1, o2⟩ := s1.op (k := 12) (d := 1) (by decide) (by show (skF T n x.1).1 21 + 1 ≤ _; omega)
      refine ⟨o1.wk (by rw [if_pos rfl]; omega) (by decide), ?_⟩
      rw [o2]
      exact ⟨by show _ ≤ (skF T n x.1).1 21 + 1; omega, fun _ => by show _ ≤ (skF T n x.1).1 21 + 1; omega⟩
    · rw [if_neg c2, if_pos ⟨c, c2⟩]
      obtain ⟨o1, o2, o3⟩ := s1.co (T := T)
      refine ⟨o1.wk (by omega) (by decide), ?_, ?_⟩
      · exact Int.le_trans s2 o2
      · intro z
        have q : (skF T n x.1).1 21 + 1 ≤ (coF T n (skF T n x.1)).1 21 := o3 z
        show _ ≤ (coF T n (skF T n x.1)).1 21
        omega
theorem y_fact (hx : TX W T n) (h : RA n K 0 x) (hK : 0 ≤ K) (hQ : Q (some (vi (bi (facP T n x)))) (GX W (facX T n x))) : Gm 206 [vr 148] (GX W x) Q := by
  have hw : 192 ≤ W.1 := hx.1.1
  have hn := hx.2.2.2.2
  obtain ⟨s1, s2⟩ := h.sk (T := T)
  have hp : 0 ≤ (skF T n x.1).1 21 ∧ (skF T n x.1).1 21 ≤ (n : Int) := s1.1.2.1
  have st0 := stN_p x.2 (x.1.1 29).toNat
  unfold facX facP at hQ
  rw [e206]
  simp (disch := omega) only [s_1, s_2, s_3, s_4, s_76, s_5, s_6, s_7, s_8, s_9, s_10, s_11, s_12, s_13, s_14, s_15, s_16, s_17, s_18, s_19, s_20, s_21, s_22, s_23, s_24, s_25, s_26, s_27, s_28, s_29, s_30, s_31, s_32, s_33, s_34, s_35, s_36, s_37, s_38, s_39, s_40l, s_40i, s_40r, s_41, s_43, t_44, t_45, t_46, t_47, s_48, s_49, s_50, s_51, s_52, s_53, s_54, s_55, s_56, s_57, s_58, s_59, s_60, s_61, s_62_0, s_62_1, s_62_2, s_66, s_67, s_68, s_69, s_70, s_71, s_72, s_73, sws_n, sws_c, lget, lset, fget, fset, nolg, nolong, avc, stw, cnd, isobj_eo, GCi, GCn, retk, List.length_cons, List.length_nil, ↓reduceIte, and_true, true_and, not_true_eq_false, not_false_eq_true, forall_const, Nat.reduceAdd, Nat.reduceLT, Nat.reduceLeDiff, Nat.lt_add_one, Nat.le_refl, Nat.zero_le, Nat.sub_zero, Int.reduceEq, Int.reduceNe, Int.reduceLT, Int.reduceLE, Int.reduceAdd, Int.reduceSub, Int.reduceMul, Int.reduceNeg, Int.reduceTDiv, Int.reduceTMod, ne_eq, reduceCtorEq, Nat.reduceEqDiff, Int.cast_ofNat_Int, true_or, or_true, false_or, or_false, lcq_0, lcq_2, lcq_3, lcq_4, lcq_5, wu_s, wu_1, wu_w, wu_lt, wu_ne, ar_s, ar_n, rr_s, rr_n, ob_n, nz_c, lt_T, lt_F, le_T, le_F, ie_T, ie_F, nt_T, nt_F, nl_T, nl_F, in_T, and_false, false_and, and_self, not_true_eq_false, Int.toNat_natCast, Int.reduceToNat, if_true, if_false, mi_206, i206_0, i206_1, i206_4, i206_5, i206_8, i206_11, i206_14, i206_15, i206_17, i206_20, i206_21, i206_22, i206_25, i206_26, i206_27, i206_30, i206_31, i206_32, i206_33, i206_36, i206_38, i206_41, i206_42, i206_44, i206_47, i206_48, i206_49, i206_52, i206_53, i206_54, i206_57, i206_58, i206_59, i206_60, i206_63, i206_64, k199, k200, k202, k207, k208, g12_21, p12_21]
  refine yv_blanks hx h.1 ?_
  generalize skF T n x.1 = σ1 at *
  have ys := fun {Q : AQ} => yv_stands (Q := Q) (o := x.2) (i := 9) hx s1.1 (by decide)
  have ysg := fun {Q : AQ} => yv_sign (Q := Q) (o := x.2) hx s1.1
  have b29 : 0 ≤ σ1.1 29 ∧ σ1.1 29 ≤ 401 := by
    have z : 0 ≤ σ1.1 29 ∧ σ1.1 29 ≤ σ1.1 21 := s1.2.1
    omega
  have b27 : -1000 ≤ σ1.1 27 ∧ σ1.1 27 ≤ 1000 := by
    have z : dpN x.2 (σ1.1 29).toNat ≤ σ1.1 27 ∧ σ1.1 27 ≤ σ1.1 21 := s1.2.2
    have d0 := dpN_p x.2 (σ1.1 29).toNat
    omega
  have yo := fun {Q : AQ} {k : Int} => y_opens (Q := Q) (k := k) (x := (σ1, x.2)) hx s1.1 b29 b27
  have e9 : (wd 9).length = 3 := by decide +kernel
  by_cases c : stP T n (σ1.1 21).toNat 9
  · rw [if_pos c, bi_n (fun z => z.1 c)] at hQ
    rw [bi_p c] at ys
    have sn := stP_n c (by decide) (by omega)
    have yo9 := fun {Q : AQ} => yo (Q := Q) (k := 9)
    have e21 : (opF 9 (σ1, x.2)).1.1 21 = σ1.1 21 := by
      show fu (opD 9 (σ1.1 21) σ1).1 29 (σ1.1 29 + 1) 21 = _
      rw [fu_ne _ _ (by decide), opD_o (by decide) (by decide)]
    simp (disch := omega) only [s_1, s_2, s_3, s_4, s_76, s_5, s_6, s_7, s_8, s_9, s_10, s_11, s_12, s_13, s_14, s_15, s_16, s_17, s_18, s_19, s_20, s_21, s_22, s_23, s_24, s_25, s_26, s_27, s_28, s_29, s_30, s_31, s_32, s_33, s_34, s_35, s_36, s_37, s_38, s_39, s_40l, s_40i, s_40r, s_41, s_43, t_44, t_45, t_46, t_47, s_48, s_49, s_50, s_51, s_52, s_53, s_54, s_55, s_56, s_57, s_58, s_59, s_60, s_61, s_62_0, s_62_1, s_62_2, s_66, s_67, s_68, s_69, s_70, s_71, s_72, s_73, sws_n, sws_c, lget, lset, fget, fset, nolg, nolong, avc, stw, cnd, isobj_eo, GCi, GCn, retk, List.length_cons, List.length_nil, ↓reduceIte, and_true, true_and, not_true_eq_false, not_false_eq_true, forall_const, Nat.reduceAdd, Nat.reduceLT, Nat.reduceLeDiff, Nat.lt_add_one, Nat.le_refl, Nat.zero_le, Nat.sub_zero, Int.reduceEq, Int.reduceNe, Int.reduceLT, Int.reduceLE, Int.reduceAdd, Int.reduceSub, Int.reduceMul, Int.reduceNeg, Int.reduceTDiv, Int.reduceTMod, ne_eq, reduceCtorEq, Nat.reduceEqDiff, Int.cast_ofNat_Int, true_or, or_true, false_or, or_false, lcq_0, lcq_2, lcq_3, lcq_4, lcq_5, wu_s, wu_1, wu_w, wu_lt, wu_ne, ar_s, ar_n, rr_s, rr_n, ob_n, nz_c, lt_T, lt_F, le_T, le_F, ie_T, ie_F, nt_T, nt_F, nl_T, nl_F, in_T, and_false, false_and, and_self, not_true_eq_false, Int.toNat_natCast, Int.reduceToNat, if_true, if_false, mi_206, i206_0, i206_1, i206_4, i206_5, i206_8, i206_11, i206_14, i206_15, i206_17, i206_20, i206_21, i206_22, i206_25, i206_26, i206_27, i206_30, i206_31, i206_32, i206_33, i206_36, i206_38, i206_41, i206_42, i206_44, i206_47, i206_48, i206_49, i206_52, i206_53, i206_54, i206_57, i206_58, i206_59, i206_60, i206_63, i206_64, k199, k200, k202, k207, k208, g12_21, p12_21, ys]
    refine yo9.mpr ?_
    generalize opF 9 (σ1, x.2) = x2 at *
    have i21 : in32 (x2.1.1 21 + 3) := by unfold in32; omega
    simp (disch := omega) only [s_1, s_2, s_3, s_4, s_76, s_5, s_6, s_7, s_8, s_9, s_10, s_11, s_12, s_13, s_14, s_15, s_16, s_17, s_18, s_19, s_20, s_21, s_22, s_23, s_24, s_25, s_26, s_27, s_28, s_29, s_30, s_31, s_32, s_33, s_34, s_35, s_36, s_37, s_38, s_39, s_40l, s_40i, s_40r, s_41, s_43, t_44, t_45, t_46, t_47, s_48, s_49, s_50, s_51, s_52, s_53, s_54, s_55, s_56, s_57, s_58, s_59, s_60, s_61, s_62_0, s_62_1, s_62_2, s_66, s_67, s_68, s_69, s_70, s_71, s_72, s_73, sws_n, sws_c, lget, lset, fget, fset, nolg, nolong, avc, stw, cnd, isobj_eo, GCi, GCn, retk, List.length_cons, List.length_nil, ↓reduceIte, and_true, true_and, not_true_eq_false, not_false_eq_true, forall_const, Nat.reduceAdd, Nat.reduceLT, Nat.reduceLeDiff, Nat.lt_add_one, Nat.le_refl, Nat.zero_le, Nat.sub_zero, Int.reduceEq, Int.reduceNe, Int.reduceLT, Int.reduceLE, Int.reduceAdd, Int.reduceSub, Int.reduceMul, Int.reduceNeg, Int.reduceTDiv, Int.reduceTMod, ne_eq, reduceCtorEq, Nat.reduceEqDiff, Int.cast_ofNat_Int, true_or, or_true, false_or, or_false, lcq_0, lcq_2, lcq_3, lcq_4, lcq_5, wu_s, wu_1, wu_w, wu_lt, wu_ne, ar_s, ar_n, rr_s, rr_n, ob_n, nz_c, lt_T, lt_F, le_T, le_F, ie_T, ie_F, nt_T, nt_F, nl_T, nl_F, in_T, and_false, false_and, and_self, not_true_eq_false, Int.toNat_natCast, Int.reduceToNat, if_true, if_false, mi_206, i206_0, i206_1, i206_4, i206_5, i206_8, i206_11, i206_14, i206_15, i206_17, i206_20, i206_21, i206_22, i206_25, i206_26, i206_27, i206_30, i206_31, i206_32, i206_33, i206_36, i206_38, i206_41, i206_42, i206_44, i206_47, i206_48, i206_49, i206_52, i206_53, i206_54, i206_57, i206_58, i206_59, i206_60, i206_63, i206_64, k199, k200, k202, k207, k208, g12_21, p12_21, i21]
    exact hQ
  · rw [if_neg c] at hQ
    rw [bi_n c] at ys
    by_cases c2 : chr T n (σ1.1 21).toNat = 91
    · rw [if_pos c2, bi_n (fun z => z.2 c2)] at hQ
      have sn := chr_lt c2 (by decide)
      have yo9 := fun {Q : AQ} => yo (Q := Q) (k := 12)
      have e21 : (opF 12 (σ1, x.2)).1.1 21 = σ1.1 21 := by
        show fu (opD 12 (σ1.1 21) σ1).1 29 (σ1.1 29 + 1) 21 = _
        rw [fu_ne _ _ (by decide), opD_o (by decide) (by decide)]
      simp (disch := omega) only [s_1, s_2, s_3, s_4, s_76, s_5, s_6, s_7, s_8, s_9, s_10, s_11, s_12, s_13, s_14, s_15, s_16, s_17, s_18, s_19, s_20, s_21, s_22, s_23, s_24, s_25, s_26, s_27, s_28, s_29, s_30, s_31, s_32, s_33, s_34, s_35, s_36, s_37, s_38, s_39, s_40l, s_40i, s_40r, s_41, s_43, t_44, t_45, t_46, t_47, s_48, s_49, s_50, s_51, s_52, s_53, s_54, s_55, s_56, s_57, s_58, s_59, s_60, s_61, s_62_0, s_62_1, s_62_2, s_66, s_67, s_68, s_69, s_70, s_71, s_72, s_73, sws_n, sws_c, lget, lset, fget, fset, nolg, nolong, avc, stw, cnd, isobj_eo, GCi, GCn, retk, List.length_cons, List.length_nil, ↓reduceIte, and_true, true_and, not_true_eq_false, not_false_eq_true, forall_const, Nat.reduceAdd, Nat.reduceLT, Nat.reduceLeDiff, Nat.lt_add_one, Nat.le_refl, Nat.zero_le, Nat.sub_zero, Int.reduceEq, Int.reduceNe, Int.reduceLT, Int.reduceLE, Int.reduceAdd, Int.reduceSub, Int.reduceMul, Int.reduceNeg, Int.reduceTDiv, Int.reduceTMod, ne_eq, reduceCtorEq, Nat.reduceEqDiff, Int.cast_ofNat_Int, true_or, or_true, false_or, or_false, lcq_0, lcq_2, lcq_3, lcq_4, lcq_5, wu_s, wu_1, wu_w, wu_lt, wu_ne, ar_s, ar_n, rr_s, rr_n, ob_n, nz_c, lt_T, lt_F, le_T, le_F, ie_T, ie_F, nt_T, nt_F, nl_T, nl_F, in_T, and_false, false_and, and_self, not_true_eq_false, Int.toNat_natCast, Int.reduceToNat, if_true, if_false, mi_206, i206_0, i206_1, i206_4, i206_5, i206_8, i206_11, i206_14, i206_15, i206_17, i206_20, i206_21, i206_22, i206_25, i206_26, i206_27, i206_30, i206_31, i206_32, i206_33, i206_36, i206_38, i206_41, i206_42, i206_44, i206_47, i206_48, i206_49, i206_52, i206_53, i206_54, i206_57, i206_58, i206_59, i206_60, i206_63, i206_64, k199, k200, k202, k207, k208, g12_21, p12_21, ys, ysg, c2]
      refine yo9.mpr ?_
      generalize opF 12 (σ1, x.2) = x2 at *
      have i21 : in32 (x2.1.1 21 + 1) := by unfold in32; omega
      simp (disch := omega) only [s_1, s_2, s_3, s_4, s_76, s_5, s_6, s_7, s_8, s_9, s_10, s_11, s_12, s_13, s_14, s_15, s_16, s_17, s_18, s_19, s_20, s_21, s_22, s_23, s_24, s_25, s_26, s_27, s_28, s_29, s_30, s_31, s_32, s_33, s_34, s_35, s_36, s_37, s_38, s_39, s_40l, s_40i, s_40r, s_41, s_43, t_44, t_45, t_46, t_47, s_48, s_49, s_50, s_51, s_52, s_53, s_54, s_55, s_56, s_57, s_58, s_59, s_60, s_61, s_62_0, s_62_1, s_62_2, s_66, s_67, s_68, s_69, s_70, s_71, s_72, s_73, sws_n, sws_c, lget, lset, fget, fset, nolg, nolong, avc, stw, cnd, isobj_eo, GCi, GCn, retk, List.length_cons, List.length_nil, ↓reduceIte, and_true, true_and, not_true_eq_false, not_false_eq_true, forall_const, Nat.reduceAdd, Nat.reduceLT, Nat.reduceLeDiff, Nat.lt_add_one, Nat.le_refl, Nat.zero_le, Nat.sub_zero, Int.reduceEq, Int.reduceNe, Int.reduceLT, Int.reduceLE, Int.reduceAdd, Int.reduceSub, Int.reduceMul, Int.reduceNeg, Int.reduceTDiv, Int.reduceTMod, ne_eq, reduceCtorEq, Nat.reduceEqDiff, Int.cast_ofNat_Int, true_or, or_true, false_or, or_false, lcq_0, lcq_2, lcq_3, lcq_4, lcq_5, wu_s, wu_1, wu_w, wu_lt, wu_ne, ar_s, ar_n, rr_s, rr_n, ob_n, nz_c, lt_T, lt_F, le_T, le_F, ie_T, ie_F, nt_T, nt_F, nl_T, nl_F, in_T, and_false, false_and, and_self, not_true_eq_false, Int.toNat_natCast, Int.reduceToNat, if_true, if_false, mi_206, i206_0, i206_1, i206_4, i206_5, i206_8, i206_11, i206_14, i206_15, i206_17, i206_20, i206_21, i206_22, i206_25, i206_26, i206_27, i206_30, i206_31, i206_32, i206_33, i206_36, i206_38, i206_41, i206_42, i206_44, i206_47, i206_48, i206_49, i206_52, i206_53, i206_54, i206_57, i206_58, i206_59, i206_60, i206_63, i206_64, k199, k200, k202, k207, k208, g12_21, p12_21, i21]
      exact hQ
    · rw [if_neg c2, bi_p ⟨c, c2⟩] at hQ
      simp (disch := omega) only [s_1, s_2, s_3, s_4, s_76, s_5, s_6, s_7, s_8, s_9, s_10, s_11, s_12, s_13, s_14, s_15, s_16, s_17, s_18, s_19, s_20, s_21, s_22, s_23, s_24, s_25, s_26, s_27, s_28, s_29, s_30, s_31, s_32, s_33, s_34, s_35, s_36, s_37, s_38, s_39, s_40l, s_40i, s_40r, s_41, s_43, t_44, t_45, t_46, t_47, s_48, s_49, s_50, s_51, s_52, s_53, s_54, s_55, s_56, s_57, s_58, s_59, s_60, s_61, s_62_0, s_62_1, s_62_2, s_66, s_67, s_68, s_69, s_70, s_71, s_72, s_73, sws_n, sws_c, lget, lset, fget, fset, nolg, nolong, avc, stw, cnd, isobj_eo, GCi, GCn, retk, List.length_cons, List.length_nil, ↓reduceIte, and_true, true_and, not_true_eq_false, not_false_eq_true, forall_const, Nat.reduceAdd, Nat.reduceLT, Nat.reduceLeDiff, Nat.lt_add_one, Nat.le_refl, Nat.zero_le, Nat.sub_zero, Int.reduceEq, Int.reduceNe, Int.reduceLT, Int.reduceLE, Int.reduceAdd, Int.reduceSub, Int.reduceMul, Int.reduceNeg, Int.reduceTDiv, Int.reduceTMod, ne_eq, reduceCtorEq, Nat.reduceEqDiff, Int.cast_ofNat_Int, true_or, or_true, false_or, or_false, lcq_0, lcq_2, lcq_3, lcq_4, lcq_5, wu_s, wu_1, wu_w, wu_lt, wu_ne, ar_s, ar_n, rr_s, rr_n, ob_n, nz_c, lt_T, lt_F, le_T, le_F, ie_T, ie_F, nt_T, nt_F, nl_T, nl_F, in_T, and_false, false_and, and_self, not_true_eq_false, Int.toNat_natCast, Int.reduceToNat, if_true, if_false, mi_206, i206_0, i206_1, i206_4, i206_5, i206_8, i206_11, i206_14, i206_15, i206_17, i206_20, i206_21, i206_22, i206_25, i206_26, i206_27, i206_30, i206_31, i206_32, i206_33, i206_36, i206_38, i206_41, i206_42, i206_44, i206_47, i206_48, i206_49, i206_52, i206_53, i206_54, i206_57, i206_58, i206_59, i206_60, i206_63, i206_64, k199, k200, k202, k207, k208, g12_21, p12_21, ys, ysg, c2]
      refine y_compared hx s1.1 ?_ (by decide) ?_
      · show 0 ≤ stN x.2 (σ1.1 29).toNat + K
        have := stN_p x.2 (σ1.1 29).toNat
        omega
      · simp (disch := omega) only [s_1, s_2, s_3, s_4, s_76, s_5, s_6, s_7, s_8, s_9, s_10, s_11, s_12, s_13, s_14, s_15, s_16, s_17, s_18, s_19, s_20, s_21, s_22, s_23, s_24, s_25, s_26, s_27, s_28, s_29, s_30, s_31, s_32, s_33, s_34, s_35, s_36, s_37, s_38, s_39, s_40l, s_40i, s_40r, s_41, s_43, t_44, t_45, t_46, t_47, s_48, s_49, s_50, s_51, s_52, s_53, s_54, s_55, s_56, s_57, s_58, s_59, s_60, s_61, s_62_0, s_62_1, s_62_2, s_66, s_67, s_68, s_69, s_70, s_71, s_72, s_73, sws_n, sws_c, lget, lset, fget, fset, nolg, nolong, avc, stw, cnd, isobj_eo, GCi, GCn, retk, List.length_cons, List.length_nil, ↓reduceIte, and_true, true_and, not_true_eq_false, not_false_eq_true, forall_const, Nat.reduceAdd, Nat.reduceLT, Nat.reduceLeDiff, Nat.lt_add_one, Nat.le_refl, Nat.zero_le, Nat.sub_zero, Int.reduceEq, Int.reduceNe, Int.reduceLT, Int.reduceLE, Int.reduceAdd, Int.reduceSub, Int.reduceMul, Int.reduceNeg, Int.reduceTDiv, Int.reduceTMod, ne_eq, reduceCtorEq, Nat.reduceEqDiff, Int.cast_ofNat_Int, true_or, or_true, false_or, or_false, lcq_0, lcq_2, lcq_3, lcq_4, lcq_5, wu_s, wu_1, wu_w, wu_lt, wu_ne, ar_s, ar_n, rr_s, rr_n, ob_n, nz_c, lt_T, lt_F, le_T, le_F, ie_T, ie_F, nt_T, nt_F, nl_T, nl_F, in_T, and_false, false_and, and_self, not_true_eq_false, Int.toNat_natCast, Int.reduceToNat, if_true, if_false, mi_206, i206_0, i206_1, i206_4, i206_5, i206_8, i206_11, i206_14, i206_15, i206_17, i206_20, i206_21, i206_22, i206_25, i206_26, i206_27, i206_30, i206_31, i206_32, i206_33, i206_36, i206_38, i206_41, i206_42, i206_44, i206_47, i206_48, i206_49, i206_52, i206_53, i206_54, i206_57, i206_58, i206_59, i206_60, i206_63, i206_64, k199, k200, k202, k207, k208, g12_21, p12_21]
        exact hQ
end WLV
