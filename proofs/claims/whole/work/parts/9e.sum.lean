-- VALUE, TERM, SUM of the reference, walked
noncomputable def teL (T : Nat → Int) (n : Nat) : Nat → GS → GS
  | 0, σ => σ
  | f + 1, σ => if σ.1 22 = 0 ∧ (chr T n (σ.1 21).toNat = 42 ∨ chr T n (σ.1 21).toNat = 47) then teL T n f (skF T n (enF (if chr T n (σ.1 21).toNat = 42 then 13 else 14) 0 (vaF T n (adF 1 σ)))) else σ
noncomputable def teF (T : Nat → Int) (n : Nat) (σ : GS) : GS := teL T n (n + 1) (skF T n (vaF T n σ))
noncomputable def suL (T : Nat → Int) (n : Nat) : Nat → GS → GS
  | 0, σ => σ
  | f + 1, σ => if σ.1 22 = 0 ∧ (chr T n (σ.1 21).toNat = 43 ∨ chr T n (σ.1 21).toNat = 45) then suL T n f (enF (if chr T n (σ.1 21).toNat = 43 then 2 else 3) 0 (teF T n (adF 1 σ))) else σ
noncomputable def suF (T : Nat → Int) (n : Nat) (σ : GS) : GS := suL T n (n + 1) (teF T n σ)
section RI2
variable {T : Nat → Int} {n : Nat} {K D c pl k v d : Int} {σ : GS}
theorem RI.d0 (h : RI n K D σ) (hf : σ.1 22 = 0) : RI n K 0 σ := by
  obtain ⟨a1, a2, a3, a4, a5, a6⟩ := h
  exact ⟨a1, a2, a3, ⟨a4.1, by have := a6 hf; omega⟩, a5, a6⟩
theorem chr_lt {p : Nat} {x : Int} (h : chr T n p = x) (hx : ¬ x = -1) : p < n := by
  unfold chr at h
  split at h <;> omega
/-- one more factor -/
theorem RI.tst (h : RI n (K + 3) D σ) (hD : 1 ≤ D) (hf : σ.1 22 = 0) (hp : (σ.1 21).toNat < n) {k : Int} : RI n (K + 3) D (skF T n (enF k 0 (vaF T n (adF 1 σ)))) ∧ σ.1 21 + 1 ≤ (skF T n (enF k 0 (vaF T n (adF 1 σ)))).1 21 := by
  have h2 := h.2.1
  have e21 : (adF 1 σ).1 21 = σ.1 21 + 1 := ad_e
  obtain ⟨v1, v2⟩ := ((h.d0 hf).ad (d := 1) (by decide) (by omega)).va (T := T)
  obtain ⟨s1, s2⟩ := (v1.ent (k := k) (v := 0)).sk (T := T)
  rw [en_o (by decide)] at s2
  exact ⟨s1.wk (by omega) (by omega), by omega⟩
theorem RI.teq (hD : 1 ≤ D) : ∀ (f : Nat) (σ : GS), RI n (K + 3) D σ → RI n (K + 3) D (teL T n f σ) ∧ σ.1 21 ≤ (teL T n f σ).1 21
  | 0, σ, h => ⟨h, Int.le_refl _⟩
  | f + 1, σ, h => by
    show RI n (K + 3) D (if σ.1 22 = 0 ∧ (chr T n (σ.1 21).toNat = 42 ∨ chr T n (σ.1 21).toNat = 47) then teL T n f (skF T n (enF (if chr T n (σ.1 21).toNat = 42 then 13 else 14) 0 (vaF T n (adF 1 σ)))) else σ) ∧ σ.1 21 ≤ (if σ.1 22 = 0 ∧ (chr T n (σ.1 21).toNat = 42 ∨ chr T n (σ.1 21).toNat = 47) then teL T n f (skF T n (enF (if chr T n (σ.1 21).toNat = 42 then 13 else 14) 0 (vaF T n (adF 1 σ)))) else σ).1 21
    by_cases c : σ.1 22 = 0 ∧ (chr T n (σ.1 21).toNat = 42 ∨ chr T n (σ.1 21).toNat = 47)
    · rw [if_pos c]
      have hp : (σ.1 21).toNat < n := by
        rcases c.2 with q | q
        · exact chr_lt q (by decide)
        · exact chr_lt q (by decide)
      obtain ⟨t1, t2⟩ := h.tst (T := T) hD c.1 hp (k := if chr T n (σ.1 21).toNat = 42 then 13 else 14)
      obtain ⟨r1, r2⟩ := RI.teq hD f _ t1
      exact ⟨r1, by omega⟩
    · rw [if_neg c]
      exact ⟨h, Int.le_refl _⟩
theorem RI.te (h : RI n K D σ) (hD : 0 ≤ D) : RI n (K + 3) (D + 1) (teF T n σ) ∧ σ.1 21 ≤ (teF T n σ).1 21 := by
  obtain ⟨v1, v2⟩ := h.va (T := T)
  obtain ⟨s1, s2⟩ := v1.sk (T := T)
  obtain ⟨t1, t2⟩ := RI.teq (T := T) (K := K) (D := D + 1) (by omega) (n + 1) _ s1
  exact ⟨t1, by unfold teF; omega⟩
theorem RI.sst (h : RI n (K + 3) D σ) (hD : 1 ≤ D) (hf : σ.1 22 = 0) (hp : (σ.1 21).toNat < n) {k : Int} : RI n (K + 3) D (enF k 0 (teF T n (adF 1 σ))) ∧ σ.1 21 + 1 ≤ (enF k 0 (teF T n (adF 1 σ))).1 21 := by
  have h2 := h.2.1
  have e21 : (adF 1 σ).1 21 = σ.1 21 + 1 := ad_e
  obtain ⟨v1, v2⟩ := ((h.d0 hf).ad (d := 1) (by decide) (by omega)).te (T := T) (by decide)
  have s1 := v1.ent (k := k) (v := 0)
  rw [en_o (by decide)]
  exact ⟨s1.wk (by omega) (by omega), by omega⟩
theorem RI.suq (hD : 1 ≤ D) : ∀ (f : Nat) (σ : GS), RI n (K + 3) D σ → RI n (K + 3) D (suL T n f σ) ∧ σ.1 21 ≤ (suL T n f σ).1 21
  | 0, σ, h => ⟨h, Int.le_refl _⟩
  | f + 1, σ, h => by
    show RI n (K + 3) D (if σ.1 22 = 0 ∧ (chr T n (σ.1 21).toNat = 43 ∨ chr T n (σ.1 21).toNat = 45) then suL T n f (enF (if chr T n (σ.1 21).toNat = 43 then 2 else 3) 0 (teF T n (adF 1 σ))) else σ) ∧ σ.1 21 ≤ (if σ.1 22 = 0 ∧ (chr T n (σ.1 21).toNat = 43 ∨ chr T n (σ.1 21).toNat = 45) then suL T n f (enF (if chr T n (σ.1 21).toNat = 43 then 2 else 3) 0 (teF T n (adF 1 σ))) else σ).1 21
    by_cases c : σ.1 22 = 0 ∧ (chr T n (σ.1 21).toNat = 43 ∨ chr T n (σ.1 21).toNat = 45)
    · rw [if_pos c]
      have hp : (σ.1 21).toNat < n := by
        rcases c.2 with q | q
        · exact chr_lt q (by decide)
        · exact chr_lt q (by decide)
      obtain ⟨t1, t2⟩ := h.sst (T := T) hD c.1 hp (k := if chr T n (σ.1 21).toNat = 43 then 2 else 3)
      obtain ⟨r1, r2⟩ := RI.suq hD f _ t1
      exact ⟨r1, by omega⟩
    · rw [if_neg c]
      exact ⟨h, Int.le_refl _⟩
theorem RI.su (h : RI n K D σ) (hD : 0 ≤ D) : RI n (K + 3) (D + 1) (suF T n σ) ∧ σ.1 21 ≤ (suF T n σ).1 21 := by
  obtain ⟨v1, v2⟩ := h.te (T := T) hD
  obtain ⟨t1, t2⟩ := RI.suq (T := T) (K := K) (D := D + 1) (by omega) (n + 1) _ v1
  exact ⟨t1, by unfold suF; omega⟩
end RI2
/-- the text at hand -/
abbrev TX (W : AW) (T : Nat → Int) (n : Nat) : Prop := RS W ∧ FZ W ∧ ar W 167 = T ∧ Ty T ∧ n ≤ 400
section WLK
variable {W : AW} {Q : AQ} {o T : Nat → Int} {σ : GS} {n : Nat} {K D c pl k v most : Int}
theorem yv_sign (hx : TX W T n) (h : RI n K D σ) : Gm 200 [vr 148] (GW W σ o) Q ↔ Q (some (vi (chr T n (σ.1 21).toNat))) (GW W σ o) := y_sign hx.1 hx.2.2.1 hx.2.2.2.1 h.1.1 (Int.toNat_of_nonneg h.2.1.1).symm hx.2.2.2.2
theorem yv_blanks (hx : TX W T n) (h : RI n K D σ) (hQ : Q none (GW W (skF T n σ) o)) : Gm 199 [vr 148] (GW W σ o) Q := y_blanks hx.1 hx.2.2.1 hx.2.2.2.1 h.1.1 (Int.toNat_of_nonneg h.2.1.1).symm hx.2.2.2.2 (by have := h.2.1; have := hx.2.2.2.2; omega) hQ
theorem yv_fails (hx : TX W T n) (hp : 0 ≤ pl ∧ pl ≤ 1000) (hc : 0 ≤ c ∧ c ≤ 4) : Gm 203 [vr 148, vi c, vi pl] (GW W σ o) Q ↔ Q none (GW W (flF c pl σ) o) := y_fails hx.1 (by omega) hc
theorem yv_counted (hx : TX W T n) (h : RI n K D σ) (hD : D ≤ 1000) (hp : 0 ≤ pl ∧ pl ≤ 1000) : Gm 214 [vr 148, vi pl] (GW W σ o) Q ↔ Q none (GW W (cnF pl σ) o) := y_counted hx.1 (by omega) (by have := h.2.2.2.1; omega)
theorem yv_entry (hx : TX W T n) (h : RI n K D σ) (hK : 0 ≤ K) : Gm 215 [vr 148, vi k, vi v] (GW W σ o) Q ↔ Q none (GW W (enF k v σ) o) := by
  by_cases d : σ.1 22 = 0
  · have h6 := h.2.2.2.2.2 d
    have := h.2.1
    have := hx.2.2.2.2
    exact y_entry hx.1 h.1.2.1 ⟨h.2.2.2.2.1, by omega⟩
  · have hR := hx.1
    have hw : 192 ≤ W.1 := hR.1
    have e : enF k v σ = σ := by
      unfold enF enG enS
      rw [if_neg d, if_neg d, if_neg d]
    rw [e, e215]
    simp (disch := omega) only [s_1, s_2, s_3, s_4, s_76, s_5, s_6, s_7, s_8, s_9, s_10, s_11, s_12, s_13, s_14, s_15, s_16, s_17, s_18, s_19, s_20, s_21, s_22, s_23, s_24, s_25, s_26, s_27, s_28, s_29, s_30, s_31, s_32, s_33, s_34, s_35, s_36, s_37, s_38, s_39, s_40l, s_40i, s_40r, s_41, s_43, t_44, t_45, t_46, t_47, s_48, s_49, s_50, s_51, s_52, s_53, s_54, s_55, s_56, s_57, s_58, s_59, s_60, s_61, s_62_0, s_62_1, s_62_2, s_66, s_67, s_68, s_69, s_70, s_71, s_72, s_73, sws_n, sws_c, lget, lset, fget, fset, nolg, nolong, avc, stw, cnd, isobj_eo, GCi, GCn, retk, List.length_cons, List.length_nil, ↓reduceIte, and_true, true_and, not_true_eq_false, not_false_eq_true, forall_const, Nat.reduceAdd, Nat.reduceLT, Nat.reduceLeDiff, Nat.lt_add_one, Nat.le_refl, Nat.zero_le, Nat.sub_zero, Int.reduceEq, Int.reduceNe, Int.reduceLT, Int.reduceLE, Int.reduceAdd, Int.reduceSub, Int.reduceMul, Int.reduceNeg, Int.reduceTDiv, Int.reduceTMod, ne_eq, reduceCtorEq, Nat.reduceEqDiff, Int.cast_ofNat_Int, true_or, or_true, false_or, or_false, lcq_0, lcq_2, lcq_3, lcq_4, lcq_5, wu_s, wu_1, wu_w, wu_lt, wu_ne, ar_s, ar_n, rr_s, rr_n, ob_n, nz_c, lt_T, lt_F, le_T, le_F, ie_T, ie_F, nt_T, nt_F, nl_T, nl_F, in_T, and_false, false_and, and_self, not_true_eq_false, Int.toNat_natCast, Int.reduceToNat, if_true, if_false, mi_215, i215_0, i215_1, i215_4, i215_7, i215_8, i215_11, i215_14, i215_15, i215_18, i215_19, i215_20, i215_23, i215_24, i215_25, i215_26, i215_27, i215_30, i215_33, i215_34, i215_37, i215_38, i215_39, i215_42, i215_43, i215_44, i215_45, i215_46, i215_47, i215_50, i215_51, i215_52, i215_55, g12_22, g12_23, g12_26, g12_32, g12_33, p12_26, eq_false d]
theorem yv_digits (hx : TX W T n) (h : RI n K D σ) (hQ : Q (some (vi (dgV T n (σ.1 21).toNat))) (GW W (dgF T n most σ) o)) : Gm 213 [vr 148, vi most] (GW W σ o) Q := y_digits hx.1 hx.2.2.1 hx.2.2.2.1 h.1.1 (Int.toNat_of_nonneg h.2.1.1).symm hx.2.2.2.2 (by have := h.2.1; have := hx.2.2.2.2; omega) hQ
theorem yv_isDigit (hx : TX W T n) (h : RI n K D σ) : Gm 212 [vr 148] (GW W σ o) Q ↔ Q (some (vi (bi ((σ.1 21).toNat < n ∧ isDg (T (σ.1 21).toNat) = true)))) (GW W σ o) := y_isDigit hx.1 hx.2.2.1 hx.2.2.2.1 h.1.1 (Int.toNat_of_nonneg h.2.1.1).symm hx.2.2.2.2
theorem yv_stands {i : Nat} (hx : TX W T n) (h : RI n K D σ) (hi : i < 30) : Gm 202 [vr 148, vr (6 + i)] (GW W σ o) Q ↔ Q (some (vi (bi (stP T n (σ.1 21).toNat i)))) (GW W σ o) := y_stands hx.1 hx.2.1 hx.2.2.1 hx.2.2.2.1 h.1.1 (Int.toNat_of_nonneg h.2.1.1).symm hx.2.2.2.2 (by have := h.2.1; have := hx.2.2.2.2; omega) hi
theorem y_value (hx : TX W T n) (h : RI n K D σ) (hK : 0 ≤ K) (hD : 0 ≤ D ∧ D ≤ 900) (hQ : Q none (GW W (vaF T n σ) o)) : Gm 211 [vr 148] (GW W σ o) Q := by
  have hw : 192 ≤ W.1 := hx.1.1
  have hn := hx.2.2.2.2
  obtain ⟨s1, -⟩ := h.sk (T := T)
  unfold vaF at hQ
  dsimp only at hQ
  rw [e211]
  simp (disch := omega) only [s_1, s_2, s_3, s_4, s_76, s_5, s_6, s_7, s_8, s_9, s_10, s_11, s_12, s_13, s_14, s_15, s_16, s_17, s_18, s_19, s_20, s_21, s_22, s_23, s_24, s_25, s_26, s_27, s_28, s_29, s_30, s_31, s_32, s_33, s_34, s_35, s_36, s_37, s_38, s_39, s_40l, s_40i, s_40r, s_41, s_43, t_44, t_45, t_46, t_47, s_48, s_49, s_50, s_51, s_52, s_53, s_54, s_55, s_56, s_57, s_58, s_59, s_60, s_61, s_62_0, s_62_1, s_62_2, s_66, s_67, s_68, s_69, s_70, s_71, s_72, s_73, sws_n, sws_c, lget, lset, fget, fset, nolg, nolong, avc, stw, cnd, isobj_eo, GCi, GCn, retk, List.length_cons, List.length_nil, ↓reduceIte, and_true, true_and, not_true_eq_false, not_false_eq_true, forall_const, Nat.reduceAdd, Nat.reduceLT, Nat.reduceLeDiff, Nat.lt_add_one, Nat.le_refl, Nat.zero_le, Nat.sub_zero, Int.reduceEq, Int.reduceNe, Int.reduceLT, Int.reduceLE, Int.reduceAdd, Int.reduceSub, Int.reduceMul, Int.reduceNeg, Int.reduceTDiv, Int.reduceTMod, ne_eq, reduceCtorEq, Nat.reduceEqDiff, Int.cast_ofNat_Int, true_or, or_true, false_or, or_false, lcq_0, lcq_2, lcq_3, lcq_4, lcq_5, wu_s, wu_1, wu_w, wu_lt, wu_ne, ar_s, ar_n, rr_s, rr_n, ob_n, nz_c, lt_T, lt_F, le_T, le_F, ie_T, ie_F, nt_T, nt_F, nl_T, nl_F, in_T, and_false, false_and, and_self, not_true_eq_false, Int.toNat_natCast, Int.reduceToNat, if_true, if_false, mi_211, i211_0, i211_1, i211_4, i211_5, i211_8, i211_9, i211_10, i211_13, i211_16, i211_17, i211_20, i211_23, i211_24, i211_25, i211_26, i211_29, i211_30, i211_31, i211_32, i211_35, i211_36, i211_37, i211_39, i211_40, i211_43, i211_46, i211_47, i211_48, i211_49, i211_52, i211_55, i211_58, i211_61, i211_64, i211_65, i211_66, i211_69, i211_72, i211_73, i211_74, i211_75, i211_78, i211_79, i211_80, i211_81, i211_84, i211_85, i211_86, i211_89, i211_90, i211_91, i211_94, i211_97, i211_98, i211_101, i211_102, i211_103, i211_104, i211_107, k71, k199, k202, k203, k212, k213, k214, k215, k216, g12_21, g12_30, p12_21]
  refine yv_blanks hx h ?_
  generalize skF T n σ = σ1 at *
  have hp := s1.2.1
  have hpn : (((σ1.1 21).toNat : Nat) : Int) = σ1.1 21 := Int.toNat_of_nonneg hp.1
  have e30 := s1.1.2.2
  have iD := fun {Q : AQ} => yv_isDigit (Q := Q) (o := o) hx s1
  by_cases c : (σ1.1 21).toNat < n ∧ isDg (T (σ1.1 21).toNat) = true
  · rw [if_pos c, hpn] at hQ
    rw [bi_p c] at iD
    obtain ⟨d1, -⟩ := s1.dg (T := T) (most := 99999)
    have c1 := d1.cnt (pl := σ1.1 21) (by omega)
    have yc := fun {Q : AQ} => yv_counted (Q := Q) (o := o) hx d1 (by omega) (pl := σ1.1 21) (by omega)
    have ye := fun {Q : AQ} => yv_entry (Q := Q) (o := o) (k := 0) (v := dgV T n (σ1.1 21).toNat) hx c1 (by omega)
    simp (disch := omega) only [s_1, s_2, s_3, s_4, s_76, s_5, s_6, s_7, s_8, s_9, s_10, s_11, s_12, s_13, s_14, s_15, s_16, s_17, s_18, s_19, s_20, s_21, s_22, s_23, s_24, s_25, s_26, s_27, s_28, s_29, s_30, s_31, s_32, s_33, s_34, s_35, s_36, s_37, s_38, s_39, s_40l, s_40i, s_40r, s_41, s_43, t_44, t_45, t_46, t_47, s_48, s_49, s_50, s_51, s_52, s_53, s_54, s_55, s_56, s_57, s_58, s_59, s_60, s_61, s_62_0, s_62_1, s_62_2, s_66, s_67, s_68, s_69, s_70, s_71, s_72, s_73, sws_n, sws_c, lget, lset, fget, fset, nolg, nolong, avc, stw, cnd, isobj_eo, GCi, GCn, retk, List.length_cons, List.length_nil, ↓reduceIte, and_true, true_and, not_true_eq_false, not_false_eq_true, forall_const, Nat.reduceAdd, Nat.reduceLT, Nat.reduceLeDiff, Nat.lt_add_one, Nat.le_refl, Nat.zero_le, Nat.sub_zero, Int.reduceEq, Int.reduceNe, Int.reduceLT, Int.reduceLE, Int.reduceAdd, Int.reduceSub, Int.reduceMul, Int.reduceNeg, Int.reduceTDiv, Int.reduceTMod, ne_eq, reduceCtorEq, Nat.reduceEqDiff, Int.cast_ofNat_Int, true_or, or_true, false_or, or_false, lcq_0, lcq_2, lcq_3, lcq_4, lcq_5, wu_s, wu_1, wu_w, wu_lt, wu_ne, ar_s, ar_n, rr_s, rr_n, ob_n, nz_c, lt_T, lt_F, le_T, le_F, ie_T, ie_F, nt_T, nt_F, nl_T, nl_F, in_T, and_false, false_and, and_self, not_true_eq_false, Int.toNat_natCast, Int.reduceToNat, if_true, if_false, mi_211, i211_0, i211_1, i211_4, i211_5, i211_8, i211_9, i211_10, i211_13, i211_16, i211_17, i211_20, i211_23, i211_24, i211_25, i211_26, i211_29, i211_30, i211_31, i211_32, i211_35, i211_36, i211_37, i211_39, i211_40, i211_43, i211_46, i211_47, i211_48, i211_49, i211_52, i211_55, i211_58, i211_61, i211_64, i211_65, i211_66, i211_69, i211_72, i211_73, i211_74, i211_75, i211_78, i211_79, i211_80, i211_81, i211_84, i211_85, i211_86, i211_89, i211_90, i211_91, i211_94, i211_97, i211_98, i211_101, i211_102, i211_103, i211_104, i211_107, k71, k199, k202, k203, k212, k213, k214, k215, k216, g12_21, g12_30, p12_21, iD]
    refine yv_digits hx s1 ?_
    generalize dgF T n 99999 σ1 = σ2 at *
    simp (disch := omega) only [s_1, s_2, s_3, s_4, s_76, s_5, s_6, s_7, s_8, s_9, s_10, s_11, s_12, s_13, s_14, s_15, s_16, s_17, s_18, s_19, s_20, s_21, s_22, s_23, s_24, s_25, s_26, s_27, s_28, s_29, s_30, s_31, s_32, s_33, s_34, s_35, s_36, s_37, s_38, s_39, s_40l, s_40i, s_40r, s_41, s_43, t_44, t_45, t_46, t_47, s_48, s_49, s_50, s_51, s_52, s_53, s_54, s_55, s_56, s_57, s_58, s_59, s_60, s_61, s_62_0, s_62_1, s_62_2, s_66, s_67, s_68, s_69, s_70, s_71, s_72, s_73, sws_n, sws_c, lget, lset, fget, fset, nolg, nolong, avc, stw, cnd, isobj_eo, GCi, GCn, retk, List.length_cons, List.length_nil, ↓reduceIte, and_true, true_and, not_true_eq_false, not_false_eq_true, forall_const, Nat.reduceAdd, Nat.reduceLT, Nat.reduceLeDiff, Nat.lt_add_one, Nat.le_refl, Nat.zero_le, Nat.sub_zero, Int.reduceEq, Int.reduceNe, Int.reduceLT, Int.reduceLE, Int.reduceAdd, Int.reduceSub, Int.reduceMul, Int.reduceNeg, Int.reduceTDiv, Int.reduceTMod, ne_eq, reduceCtorEq, Nat.reduceEqDiff, Int.cast_ofNat_Int, true_or, or_true, false_or, or_false, lcq_0, lcq_2, lcq_3, lcq_4, lcq_5, wu_s, wu_1, wu_w, wu_lt, wu_ne, ar_s, ar_n, rr_s, rr_n, ob_n, nz_c, lt_T, lt_F, le_T, le_F, ie_T, ie_F, nt_T, nt_F, nl_T, nl_F, in_T, and_false, false_and, and_self, not_true_eq_false, Int.toNat_natCast, Int.reduceToNat, if_true, if_false, mi_211, i211_0, i211_1, i211_4, i211_5, i211_8, i211_9, i211_10, i211_13, i211_16, i211_17, i211_20, i211_23, i211_24, i211_25, i211_26, i211_29, i211_30, i211_31, i211_32, i211_35, i211_36, i211_37, i211_39, i211_40, i211_43, i211_46, i211_47, i211_48, i211_49, i211_52, i211_55, i211_58, i211_61, i211_64, i211_65, i211_66, i211_69, i211_72, i211_73, i211_74, i211_75, i211_78, i211_79, i211_80, i211_81, i211_84, i211_85, i211_86, i211_89, i211_90, i211_91, i211_94, i211_97, i211_98, i211_101, i211_102, i211_103, i211_104, i211_107, k71, k199, k202, k203, k212, k213, k214, k215, k216, g12_21, g12_30, p12_21, yc]
    generalize cnF (σ1.1 21) σ2 = σ3 at *
    simp (disch := omega) only [s_1, s_2, s_3, s_4, s_76, s_5, s_6, s_7, s_8, s_9, s_10, s_11, s_12, s_13, s_14, s_15, s_16, s_17, s_18, s_19, s_20, s_21, s_22, s_23, s_24, s_25, s_26, s_27, s_28, s_29, s_30, s_31, s_32, s_33, s_34, s_35, s_36, s_37, s_38, s_39, s_40l, s_40i, s_40r, s_41, s_43, t_44, t_45, t_46, t_47, s_48, s_49, s_50, s_51, s_52, s_53, s_54, s_55, s_56, s_57, s_58, s_59, s_60, s_61, s_62_0, s_62_1, s_62_2, s_66, s_67, s_68, s_69, s_70, s_71, s_72, s_73, sws_n, sws_c, lget, lset, fget, fset, nolg, nolong, avc, stw, cnd, isobj_eo, GCi, GCn, retk, List.length_cons, List.length_nil, ↓reduceIte, and_true, true_and, not_true_eq_false, not_false_eq_true, forall_const, Nat.reduceAdd, Nat.reduceLT, Nat.reduceLeDiff, Nat.lt_add_one, Nat.le_refl, Nat.zero_le, Nat.sub_zero, Int.reduceEq, Int.reduceNe, Int.reduceLT, Int.reduceLE, Int.reduceAdd, Int.reduceSub, Int.reduceMul, Int.reduceNeg, Int.reduceTDiv, Int.reduceTMod, ne_eq, reduceCtorEq, Nat.reduceEqDiff, Int.cast_ofNat_Int, true_or, or_true, false_or, or_false, lcq_0, lcq_2, lcq_3, lcq_4, lcq_5, wu_s, wu_1, wu_w, wu_lt, wu_ne, ar_s, ar_n, rr_s, rr_n, ob_n, nz_c, lt_T, lt_F, le_T, le_F, ie_T, ie_F, nt_T, nt_F, nl_T, nl_F, in_T, and_false, false_and, and_self, not_true_eq_false, Int.toNat_natCast, Int.reduceToNat, if_true, if_false, mi_211, i211_0, i211_1, i211_4, i211_5, i211_8, i211_9, i211_10, i211_13, i211_16, i211_17, i211_20, i211_23, i211_24, i211_25, i211_26, i211_29, i211_30, i211_31, i211_32, i211_35, i211_36, i211_37, i211_39, i211_40, i211_43, i211_46, i211_47, i211_48, i211_49, i211_52, i211_55, i211_58, i211_61, i211_64, i211_65, i211_66, i211_69, i211_72, i211_73, i211_74, i211_75, i211_78, i211_79, i211_80, i211_81, i211_84, i211_85, i211_86, i211_89, i211_90, i211_91, i211_94, i211_97, i211_98, i211_101, i211_102, i211_103, i211_104, i211_107, k71, k199, k202, k203, k212, k213, k214, k215, k216, g12_21, g12_30, p12_21, ye]
    exact hQ
  · rw [if_neg c] at hQ
    rw [bi_n c] at iD
    have hw30 : σ1.1 30 = 7 ∨ σ1.1 30 = 11 := by rw [e30]; split <;> omega
    obtain ⟨N, hN⟩ : ∃ N : Nat, σ1.1 30 = (N : Int) := ⟨(σ1.1 30).toNat, by omega⟩
    rw [hN, Int.toNat_natCast, hpn] at hQ
    have hNw : N = (if σ1.1 23 < 8 then 7 else 11) := by
      rw [hN] at e30
      by_cases c8 : σ1.1 23 < 8
      · rw [if_pos c8] at e30 ⊢; omega
      · rw [if_neg c8] at e30 ⊢; omega
    have hw8 : 8 ≤ W.1 := by omega
    have yw := fun {Q : AQ} {j : Nat} (hj : j < N) => y_wordOf (W := W) (Q := Q) (σ := σ1) (o := o) (j := j) hx.1 s1.1.2.1 (by rw [← hNw]; exact hj)
    have ys := fun {Q : AQ} (j : Nat) => yv_stands (Q := Q) (o := o) (i := wdI (σ1.1 23) j) hx s1 (wdI_b _ _)
    simp (disch := omega) only [s_1, s_2, s_3, s_4, s_76, s_5, s_6, s_7, s_8, s_9, s_10, s_11, s_12, s_13, s_14, s_15, s_16, s_17, s_18, s_19, s_20, s_21, s_22, s_23, s_24, s_25, s_26, s_27, s_28, s_29, s_30, s_31, s_32, s_33, s_34, s_35, s_36, s_37, s_38, s_39, s_40l, s_40i, s_40r, s_41, s_43, t_44, t_45, t_46, t_47, s_48, s_49, s_50, s_51, s_52, s_53, s_54, s_55, s_56, s_57, s_58, s_59, s_60, s_61, s_62_0, s_62_1, s_62_2, s_66, s_67, s_68, s_69, s_70, s_71, s_72, s_73, sws_n, sws_c, lget, lset, fget, fset, nolg, nolong, avc, stw, cnd, isobj_eo, GCi, GCn, retk, List.length_cons, List.length_nil, ↓reduceIte, and_true, true_and, not_true_eq_false, not_false_eq_true, forall_const, Nat.reduceAdd, Nat.reduceLT, Nat.reduceLeDiff, Nat.lt_add_one, Nat.le_refl, Nat.zero_le, Nat.sub_zero, Int.reduceEq, Int.reduceNe, Int.reduceLT, Int.reduceLE, Int.reduceAdd, Int.reduceSub, Int.reduceMul, Int.reduceNeg, Int.reduceTDiv, Int.reduceTMod, ne_eq, reduceCtorEq, Nat.reduceEqDiff, Int.cast_ofNat_Int, true_or, or_true, false_or, or_false, lcq_0, lcq_2, lcq_3, lcq_4, lcq_5, wu_s, wu_1, wu_w, wu_lt, wu_ne, ar_s, ar_n, rr_s, rr_n, ob_n, nz_c, lt_T, lt_F, le_T, le_F, ie_T, ie_F, nt_T, nt_F, nl_T, nl_F, in_T, and_false, false_and, and_self, not_true_eq_false, Int.toNat_natCast, Int.reduceToNat, if_true, if_false, mi_211, i211_0, i211_1, i211_4, i211_5, i211_8, i211_9, i211_10, i211_13, i211_16, i211_17, i211_20, i211_23, i211_24, i211_25, i211_26, i211_29, i211_30, i211_31, i211_32, i211_35, i211_36, i211_37, i211_39, i211_40, i211_43, i211_46, i211_47, i211_48, i211_49, i211_52, i211_55, i211_58, i211_61, i211_64, i211_65, i211_66, i211_69, i211_72, i211_73, i211_74, i211_75, i211_78, i211_79, i211_80, i211_81, i211_84, i211_85, i211_86, i211_89, i211_90, i211_91, i211_94, i211_97, i211_98, i211_101, i211_102, i211_103, i211_104, i211_107, k71, k199, k202, k203, k212, k213, k214, k215, k216, g12_21, g12_30, p12_21, iD]
    have loop : ∀ (f k : Nat), k + f = N → fdW T n (σ1.1 21).toNat (wdI (σ1.1 23)) f k = fdW T n (σ1.1 21).toNat (wdI (σ1.1 23)) N 0 → G 211 38 [some (vr 148), some (vi (σ1.1 21)), some (vi (k : Int))] [] (GW W σ1 o) 0 0 Q := by
      intro f
      induction f with
      | zero =>
        intro k h1 h2
        have hk : k = N := by omega
        subst hk
        rw [if_pos (show fdW T n (σ1.1 21).toNat (wdI (σ1.1 23)) k 0 = k from h2.symm)] at hQ
        have yf := fun {Q : AQ} => yv_fails (W := W) (Q := Q) (σ := σ1) (o := o) (c := 0) (pl := σ1.1 21) hx (by omega) (by decide)
        rw [i211_38]
        simp (disch := omega) only [s_1, s_2, s_3, s_4, s_76, s_5, s_6, s_7, s_8, s_9, s_10, s_11, s_12, s_13, s_14, s_15, s_16, s_17, s_18, s_19, s_20, s_21, s_22, s_23, s_24, s_25, s_26, s_27, s_28, s_29, s_30, s_31, s_32, s_33, s_34, s_35, s_36, s_37, s_38, s_39, s_40l, s_40i, s_40r, s_41, s_43, t_44, t_45, t_46, t_47, s_48, s_49, s_50, s_51, s_52, s_53, s_54, s_55, s_56, s_57, s_58, s_59, s_60, s_61, s_62_0, s_62_1, s_62_2, s_66, s_67, s_68, s_69, s_70, s_71, s_72, s_73, sws_n, sws_c, lget, lset, fget, fset, nolg, nolong, avc, stw, cnd, isobj_eo, GCi, GCn, retk, List.length_cons, List.length_nil, ↓reduceIte, and_true, true_and, not_true_eq_false, not_false_eq_true, forall_const, Nat.reduceAdd, Nat.reduceLT, Nat.reduceLeDiff, Nat.lt_add_one, Nat.le_refl, Nat.zero_le, Nat.sub_zero, Int.reduceEq, Int.reduceNe, Int.reduceLT, Int.reduceLE, Int.reduceAdd, Int.reduceSub, Int.reduceMul, Int.reduceNeg, Int.reduceTDiv, Int.reduceTMod, ne_eq, reduceCtorEq, Nat.reduceEqDiff, Int.cast_ofNat_Int, true_or, or_true, false_or, or_false, lcq_0, lcq_2, lcq_3, lcq_4, lcq_5, wu_s, wu_1, wu_w, wu_lt, wu_ne, ar_s, ar_n, rr_s, rr_n, ob_n, nz_c, lt_T, lt_F, le_T, le_F, ie_T, ie_F, nt_T, nt_F, nl_T, nl_F, in_T, and_false, false_and, and_self, not_true_eq_false, Int.toNat_natCast, Int.reduceToNat, if_true, if_false, mi_211, i211_0, i211_1, i211_4, i211_5, i211_8, i211_9, i211_10, i211_13, i211_16, i211_17, i211_20, i211_23, i211_24, i211_25, i211_26, i211_29, i211_30, i211_31, i211_32, i211_35, i211_36, i211_37, i211_39, i211_40, i211_43, i211_46, i211_47, i211_48, i211_49, i211_52, i211_55, i211_58, i211_61, i211_64, i211_65, i211_66, i211_69, i211_72, i211_73, i211_74, i211_75, i211_78, i211_79, i211_80, i211_81, i211_84, i211_85, i211_86, i211_89, i211_90, i211_91, i211_94, i211_97, i211_98, i211_101, i211_102, i211_103, i211_104, i211_107, k71, k199, k202, k203, k212, k213, k214, k215, k216, g12_21, g12_30, p12_21, hN, yf]
        exact hQ
      | succ f ih =>
        intro k h1 h2
        have hkN : k < N := by omega
        have hk' : (k : Int) < (N : Int) := by omega
        have ywk := fun {Q : AQ} => yw (Q := Q) (j := k) hkN
        have ysk := fun {Q : AQ} => ys (Q := Q) k
        rw [i211_38]
        by_cases c1 : stP T n (σ1.1 21).toNat (wdI (σ1.1 23) k)
        · rw [bi_p c1] at ysk
          have e1 : fdW T n (σ1.1 21).toNat (wdI (σ1.1 23)) (f + 1) k = k := by
            show @ite Nat (stP T n (σ1.1 21).toNat (wdI (σ1.1 23) k)) (Classical.propDecidable _) k _ = k
            exact if_pos c1
          rw [e1] at h2
          rw [← h2, if_neg (by omega)] at hQ
          have sn := stP_n c1 (wdI_b _ _) (by omega)
          have c2 := s1.cnt (pl := σ1.1 21) (by omega)
          have e21 : (cnF (σ1.1 21) σ1).1 21 = σ1.1 21 := cn_o (by decide) (by decide)
          have e23 : (cnF (σ1.1 21) σ1).1 23 = σ1.1 23 := cn_o (by decide) (by decide)
          have c3 := c2.ad (d := (((wd (wdI (σ1.1 23) k)).length : Nat) : Int)) (by omega) (by omega)
          have yc := fun {Q : AQ} => yv_counted (Q := Q) (o := o) hx s1 (by omega) (pl := σ1.1 21) (by omega)
          have ye := fun {Q : AQ} => yv_entry (Q := Q) (o := o) (k := 1) (v := (k : Int)) hx c3 (by omega)
          have yw2 := fun {Q : AQ} => y_wordOf (W := W) (Q := Q) (σ := cnF (σ1.1 21) σ1) (o := o) (j := k) hx.1 (by rw [e23]; exact s1.1.2.1) (by rw [e23, ← hNw]; exact hkN)
          rw [e23] at yw2
          have yl := fun {Q : AQ} => s_len (Q := Q) (W := GW W (cnF (σ1.1 21) σ1) o) (i := wdI (σ1.1 23) k) (TW_f hx.2.1) (by show 67 ≤ W.1; omega) (wdI_b _ _)
          simp (disch := omega) only [s_1, s_2, s_3, s_4, s_76, s_5, s_6, s_7, s_8, s_9, s_10, s_11, s_12, s_13, s_14, s_15, s_16, s_17, s_18, s_19, s_20, s_21, s_22, s_23, s_24, s_25, s_26, s_27, s_28, s_29, s_30, s_31, s_32, s_33, s_34, s_35, s_36, s_37, s_38, s_39, s_40l, s_40i, s_40r, s_41, s_43, t_44, t_45, t_46, t_47, s_48, s_49, s_50, s_51, s_52, s_53, s_54, s_55, s_56, s_57, s_58, s_59, s_60, s_61, s_62_0, s_62_1, s_62_2, s_66, s_67, s_68, s_69, s_70, s_71, s_72, s_73, sws_n, sws_c, lget, lset, fget, fset, nolg, nolong, avc, stw, cnd, isobj_eo, GCi, GCn, retk, List.length_cons, List.length_nil, ↓reduceIte, and_true, true_and, not_true_eq_false, not_false_eq_true, forall_const, Nat.reduceAdd, Nat.reduceLT, Nat.reduceLeDiff, Nat.lt_add_one, Nat.le_refl, Nat.zero_le, Nat.sub_zero, Int.reduceEq, Int.reduceNe, Int.reduceLT, Int.reduceLE, Int.reduceAdd, Int.reduceSub, Int.reduceMul, Int.reduceNeg, Int.reduceTDiv, Int.reduceTMod, ne_eq, reduceCtorEq, Nat.reduceEqDiff, Int.cast_ofNat_Int, true_or, or_true, false_or, or_false, lcq_0, lcq_2, lcq_3, lcq_4, lcq_5, wu_s, wu_1, wu_w, wu_lt, wu_ne, ar_s, ar_n, rr_s, rr_n, ob_n, nz_c, lt_T, lt_F, le_T, le_F, ie_T, ie_F, nt_T, nt_F, nl_T, nl_F, in_T, and_false, false_and, and_self, not_true_eq_false, Int.toNat_natCast, Int.reduceToNat, if_true, if_false, mi_211, i211_0, i211_1, i211_4, i211_5, i211_8, i211_9, i211_10, i211_13, i211_16, i211_17, i211_20, i211_23, i211_24, i211_25, i211_26, i211_29, i211_30, i211_31, i211_32, i211_35, i211_36, i211_37, i211_39, i211_40, i211_43, i211_46, i211_47, i211_48, i211_49, i211_52, i211_55, i211_58, i211_61, i211_64, i211_65, i211_66, i211_69, i211_72, i211_73, i211_74, i211_75, i211_78, i211_79, i211_80, i211_81, i211_84, i211_85, i211_86, i211_89, i211_90, i211_91, i211_94, i211_97, i211_98, i211_101, i211_102, i211_103, i211_104, i211_107, k71, k199, k202, k203, k212, k213, k214, k215, k216, g12_21, g12_30, p12_21, hN, hk', ywk, ysk, yc]
          generalize cnF (σ1.1 21) σ1 = σ2 at *
          simp (disch := omega) only [s_1, s_2, s_3, s_4, s_76, s_5, s_6, s_7, s_8, s_9, s_10, s_11, s_12, s_13, s_14, s_15, s_16, s_17, s_18, s_19, s_20, s_21, s_22, s_23, s_24, s_25, s_26, s_27, s_28, s_29, s_30, s_31, s_32, s_33, s_34, s_35, s_36, s_37, s_38, s_39, s_40l, s_40i, s_40r, s_41, s_43, t_44, t_45, t_46, t_47, s_48, s_49, s_50, s_51, s_52, s_53, s_54, s_55, s_56, s_57, s_58, s_59, s_60, s_61, s_62_0, s_62_1, s_62_2, s_66, s_67, s_68, s_69, s_70, s_71, s_72, s_73, sws_n, sws_c, lget, lset, fget, fset, nolg, nolong, avc, stw, cnd, isobj_eo, GCi, GCn, retk, List.length_cons, List.length_nil, ↓reduceIte, and_true, true_and, not_true_eq_false, not_false_eq_true, forall_const, Nat.reduceAdd, Nat.reduceLT, Nat.reduceLeDiff, Nat.lt_add_one, Nat.le_refl, Nat.zero_le, Nat.sub_zero, Int.reduceEq, Int.reduceNe, Int.reduceLT, Int.reduceLE, Int.reduceAdd, Int.reduceSub, Int.reduceMul, Int.reduceNeg, Int.reduceTDiv, Int.reduceTMod, ne_eq, reduceCtorEq, Nat.reduceEqDiff, Int.cast_ofNat_Int, true_or, or_true, false_or, or_false, lcq_0, lcq_2, lcq_3, lcq_4, lcq_5, wu_s, wu_1, wu_w, wu_lt, wu_ne, ar_s, ar_n, rr_s, rr_n, ob_n, nz_c, lt_T, lt_F, le_T, le_F, ie_T, ie_F, nt_T, nt_F, nl_T, nl_F, in_T, and_false, false_and, and_self, not_true_eq_false, Int.toNat_natCast, Int.reduceToNat, if_true, if_false, mi_211, i211_0, i211_1, i211_4, i211_5, i211_8, i211_9, i211_10, i211_13, i211_16, i211_17, i211_20, i211_23, i211_24, i211_25, i211_26, i211_29, i211_30, i211_31, i211_32, i211_35, i211_36, i211_37, i211_39, i211_40, i211_43, i211_46, i211_47, i211_48, i211_49, i211_52, i211_55, i211_58, i211_61, i211_64, i211_65, i211_66, i211_69, i211_72, i211_73, i211_74, i211_75, i211_78, i211_79, i211_80, i211_81, i211_84, i211_85, i211_86, i211_89, i211_90, i211_91, i211_94, i211_97, i211_98, i211_101, i211_102, i211_103, i211_104, i211_107, k71, k199, k202, k203, k212, k213, k214, k215, k216, g12_21, g12_30, p12_21, yw2, yl, e21]
          refine ⟨?_, ?_, ?_⟩
          · rw [fz_s (W := GW W σ2 o) (TW_f hx.2.1) (wdI_b _ _)]; rfl
          · have := wdI_b (σ1.1 23) k; omega
          · rw [← e21]
            refine (ye).mpr ?_
            show G 211 107 [some (vr 148), some (vi (σ2.1 21)), some (vi (k : Int))] [] (GW W (enF 1 (k : Int) (adF (((wd (wdI (σ1.1 23) k)).length : Nat) : Int) σ2)) o) 0 0 Q
            rw [i211_107]
            simp (disch := omega) only [s_1, s_2, s_3, s_4, s_76, s_5, s_6, s_7, s_8, s_9, s_10, s_11, s_12, s_13, s_14, s_15, s_16, s_17, s_18, s_19, s_20, s_21, s_22, s_23, s_24, s_25, s_26, s_27, s_28, s_29, s_30, s_31, s_32, s_33, s_34, s_35, s_36, s_37, s_38, s_39, s_40l, s_40i, s_40r, s_41, s_43, t_44, t_45, t_46, t_47, s_48, s_49, s_50, s_51, s_52, s_53, s_54, s_55, s_56, s_57, s_58, s_59, s_60, s_61, s_62_0, s_62_1, s_62_2, s_66, s_67, s_68, s_69, s_70, s_71, s_72, s_73, sws_n, sws_c, lget, lset, fget, fset, nolg, nolong, avc, stw, cnd, isobj_eo, GCi, GCn, retk, List.length_cons, List.length_nil, ↓reduceIte, and_true, true_and, not_true_eq_false, not_false_eq_true, forall_const, Nat.reduceAdd, Nat.reduceLT, Nat.reduceLeDiff, Nat.lt_add_one, Nat.le_refl, Nat.zero_le, Nat.sub_zero, Int.reduceEq, Int.reduceNe, Int.reduceLT, Int.reduceLE, Int.reduceAdd, Int.reduceSub, Int.reduceMul, Int.reduceNeg, Int.reduceTDiv, Int.reduceTMod, ne_eq, reduceCtorEq, Nat.reduceEqDiff, Int.cast_ofNat_Int, true_or, or_true, false_or, or_false, lcq_0, lcq_2, lcq_3, lcq_4, lcq_5, wu_s, wu_1, wu_w, wu_lt, wu_ne, ar_s, ar_n, rr_s, rr_n, ob_n, nz_c, lt_T, lt_F, le_T, le_F, ie_T, ie_F, nt_T, nt_F, nl_T, nl_F, in_T, and_false, false_and, and_self, not_true_eq_false, Int.toNat_natCast, Int.reduceToNat, if_true, if_false, mi_211, i211_0, i211_1, i211_4, i211_5, i211_8, i211_9, i211_10, i211_13, i211_16, i211_17, i211_20, i211_23, i211_24, i211_25, i211_26, i211_29, i211_30, i211_31, i211_32, i211_35, i211_36, i211_37, i211_38, i211_39, i211_40, i211_43, i211_46, i211_47, i211_48, i211_49, i211_52, i211_55, i211_58, i211_61, i211_64, i211_65, i211_66, i211_69, i211_72, i211_73, i211_74, i211_75, i211_78, i211_79, i211_80, i211_81, i211_84, i211_85, i211_86, i211_89, i211_90, i211_91, i211_94, i211_97, i211_98, i211_101, i211_102, i211_103, i211_104, i211_107, k71, k199, k202, k203, k212, k213, k214, k215, k216, g12_21, g12_30, p12_21]
            exact hQ
        · rw [bi_n c1] at ysk
          have e1 : fdW T n (σ1.1 21).toNat (wdI (σ1.1 23)) (f + 1) k = fdW T n (σ1.1 21).toNat (wdI (σ1.1 23)) f (k + 1) := by
            show @ite Nat (stP T n (σ1.1 21).toNat (wdI (σ1.1 23) k)) (Classical.propDecidable _) k _ = _
            exact if_neg c1
          rw [e1] at h2
          simp (disch := omega) only [s_1, s_2, s_3, s_4, s_76, s_5, s_6, s_7, s_8, s_9, s_10, s_11, s_12, s_13, s_14, s_15, s_16, s_17, s_18, s_19, s_20, s_21, s_22, s_23, s_24, s_25, s_26, s_27, s_28, s_29, s_30, s_31, s_32, s_33, s_34, s_35, s_36, s_37, s_38, s_39, s_40l, s_40i, s_40r, s_41, s_43, t_44, t_45, t_46, t_47, s_48, s_49, s_50, s_51, s_52, s_53, s_54, s_55, s_56, s_57, s_58, s_59, s_60, s_61, s_62_0, s_62_1, s_62_2, s_66, s_67, s_68, s_69, s_70, s_71, s_72, s_73, sws_n, sws_c, lget, lset, fget, fset, nolg, nolong, avc, stw, cnd, isobj_eo, GCi, GCn, retk, List.length_cons, List.length_nil, ↓reduceIte, and_true, true_and, not_true_eq_false, not_false_eq_true, forall_const, Nat.reduceAdd, Nat.reduceLT, Nat.reduceLeDiff, Nat.lt_add_one, Nat.le_refl, Nat.zero_le, Nat.sub_zero, Int.reduceEq, Int.reduceNe, Int.reduceLT, Int.reduceLE, Int.reduceAdd, Int.reduceSub, Int.reduceMul, Int.reduceNeg, Int.reduceTDiv, Int.reduceTMod, ne_eq, reduceCtorEq, Nat.reduceEqDiff, Int.cast_ofNat_Int, true_or, or_true, false_or, or_false, lcq_0, lcq_2, lcq_3, lcq_4, lcq_5, wu_s, wu_1, wu_w, wu_lt, wu_ne, ar_s, ar_n, rr_s, rr_n, ob_n, nz_c, lt_T, lt_F, le_T, le_F, ie_T, ie_F, nt_T, nt_F, nl_T, nl_F, in_T, and_false, false_and, and_self, not_true_eq_false, Int.toNat_natCast, Int.reduceToNat, if_true, if_false, mi_211, i211_0, i211_1, i211_4, i211_5, i211_8, i211_9, i211_10, i211_13, i211_16, i211_17, i211_20, i211_23, i211_24, i211_25, i211_26, i211_29, i211_30, i211_31, i211_32, i211_35, i211_36, i211_37, i211_39, i211_40, i211_43, i211_46, i211_47, i211_48, i211_49, i211_52, i211_55, i211_58, i211_61, i211_64, i211_65, i211_66, i211_69, i211_72, i211_73, i211_74, i211_75, i211_78, i211_79, i211_80, i211_81, i211_84, i211_85, i211_86, i211_89, i211_90, i211_91, i211_94, i211_97, i211_98, i211_101, i211_102, i211_103, i211_104, i211_107, k71, k199, k202, k203, k212, k213, k214, k215, k216, g12_21, g12_30, p12_21, hN, hk', ywk, ysk]
          exact ih (k + 1) (by omega) h2
    exact loop N 0 (by omega) rfl
end WLK
