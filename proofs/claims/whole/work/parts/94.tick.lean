-- TICK
/-- what ticks leave as it was -/
def Kp (σ τ : SG) : Prop := (∀ j, j = 2 ∨ j = 3 ∨ j = 4 ∨ j = 5 ∨ 15 ≤ j → τ j = σ j) ∧ (∀ i, i ≠ 4 → i ≠ 5 → τ 0 i = σ 0 i)
theorem Kp.rf {σ : SG} : Kp σ σ := ⟨fun _ _ => rfl, fun _ _ _ => rfl⟩
theorem Kp.tr {σ τ ρ : SG} (h : Kp σ τ) (g : Kp τ ρ) : Kp σ ρ := ⟨fun j q => (g.1 j q).trans (h.1 j q), fun i p q => (g.2 i p q).trans (h.2 i p q)⟩
theorem Kp.up {σ : SG} {k : Nat} {f : Nat → Int} (hk : k = 1 ∨ (6 ≤ k ∧ k ≤ 14)) : Kp σ (fu σ k f) := ⟨fun j q => fu_ne _ _ (by omega), fun i _ _ => by rw [fu_ne _ _ (by omega)]⟩
theorem Kp.sc {σ : SG} {k : Nat} {x : Int} (hk : k = 4 ∨ k = 5) : Kp σ (fu σ 0 (fu (σ 0) k x)) := ⟨fun j q => fu_ne _ _ (by omega), fun i p q => by rw [fu_eq, fu_ne _ _ (by omega)]⟩
theorem Kp.rip {σ : SG} {e t : Int} : Kp σ (ripS σ e t) := (((Kp.up (k := 6) (by omega)).tr (Kp.up (k := 7) (by omega))).tr (Kp.up (k := 8) (by omega)))
theorem Kp.gw {σ : SG} {tip : Nat} {b : Int} : Kp σ (goW σ tip b) := ((((Kp.rip.tr (Kp.up (k := 11) (by omega))).tr (Kp.up (k := 12) (by omega))).tr (Kp.up (k := 13) (by omega))).tr (Kp.up (k := 14) (by omega)))
theorem Kp.gn {lw : LW} {σ : SG} {tip : Nat} : Kp σ (gnS lw σ tip) := by
  unfold gnS
  split
  · split
    · exact Kp.rf
    · exact Kp.gw
  · exact Kp.rf
theorem Kp.gN {lw : LW} {σ : SG} : ∀ n, Kp σ (goN lw σ n)
  | 0 => Kp.rf
  | n + 1 => (Kp.gN n).tr Kp.gn
theorem Kp.nw {σ : SG} {e : Int} : Kp σ (neW σ e) := (((((((Kp.sc (k := 5) (by omega)).tr Kp.rip).tr (Kp.up (k := 9) (by omega))).tr (Kp.up (k := 10) (by omega))).tr (Kp.up (k := 11) (by omega))).tr (Kp.up (k := 12) (by omega))).tr (Kp.up (k := 13) (by omega))).tr (Kp.up (k := 14) (by omega))
theorem Kp.ne {lw : LW} : ∀ (k : Nat) {σ : SG}, Kp σ (neS lw k σ)
  | 0, _ => Kp.rf
  | k + 1, σ => by
    unfold neS
    split
    · exact Kp.nw.tr (Kp.ne k)
    · exact Kp.rf
theorem Kp.tick {lw : LW} {h : Int} {σ : SG} : Kp σ (tickS lw h σ) := ((((Kp.up (k := 1) (by omega)).tr (Kp.gN _)).tr (Kp.ne _)).tr (Kp.up (k := 7) (by omega))).tr (Kp.sc (k := 4) (by omega))
theorem Kp.tkN {lw : LW} {h : Int} {σ : SG} : ∀ n, Kp σ (tkN lw h n σ)
  | 0 => Kp.rf
  | n + 1 => (Kp.tkN n).tr Kp.tick
theorem FI.tkN {lw : LW} {h : Int} {σ : SG} (hI : FI 0 σ) (h0 : 0 ≤ h) (h1 : h ≤ 100) (n : Nat) (hn : σ 0 4 + n ≤ 100000) : FI 0 (tkN lw h n σ) ∧ tkN lw h n σ 0 4 = σ 0 4 + n := (Sq.q_tkN (lw := lw) (Sq.rf (σ := σ)) hI h0 h1 n hn).2
theorem FN.kp {c d : Int} {σ τ : SG} (h : FN c σ) (hk : Kp σ τ) (hI : FI 0 τ) (h4 : τ 0 4 ≤ 60 * d) (hT : TE τ) : FN d τ := by
  obtain ⟨b1, b2, b3, b4, b5, b6, b7, b8, b9, -⟩ := h
  have e15 := hk.1 15 (by omega)
  have e16 := hk.1 16 (by omega)
  have e17 := hk.1 17 (by omega)
  have e1 := hk.2 1 (by omega) (by omega)
  have e2 := hk.2 2 (by omega) (by omega)
  have e3 := hk.2 3 (by omega) (by omega)
  have e6 := hk.2 6 (by omega) (by omega)
  refine ⟨hI, h4, by rw [e1]; exact b3, by rw [e2, e3]; exact b4, by rw [e6]; exact b5, by rw [e6, e15]; exact b6, by rw [e6, e15]; exact b7, by rw [e16]; exact b8, by rw [e17]; exact b9, hT⟩
theorem TE.rip {σ τ : SG} {e : Int} {v : Nat} (h : TE σ) (h0 : 0 ≤ e) (h1 : e < 180) (hu : σ 6 e.toNat = -1) (h6 : τ 6 = fu (σ 6) e.toNat (v : Int)) (h5 : ∀ t : Nat, (t : Int) < τ 0 5 → t ≠ v → (t : Int) < σ 0 5) (h12 : ∀ t : Nat, t ≠ v → τ 12 (2 * t) = σ 12 (2 * t) ∧ τ 12 (2 * t + 1) = σ 12 (2 * t + 1)) : TE τ := by
  intro t ht hc
  rw [h6, cn_u 180 (by omega), hu] at hc
  have b := cn_b (t := σ 6) (x := (t : Int)) 180
  rw [if_neg (show ¬ (-1 : Int) = (t : Int) by omega)] at hc
  by_cases c : t = v
  · subst c
    rw [if_pos rfl] at hc
    omega
  · rw [if_neg (by omega)] at hc
    have := h12 t c
    rw [this.1, this.2]
    exact h t (h5 t ht c) (by omega)
theorem TE.gn {lw : LW} {i : Int} {σ : SG} {tip : Nat} (h : TE σ) (hI : FI i σ) (ht : (tip : Int) < 2 * σ 0 5) : TE (gnS lw σ tip) := by
  unfold gnS
  split
  · next c =>
    split
    · exact h
    · next c2 =>
      have hn := (hI.2.2.2.2.2.2.2.2.2.2.2 tip ht).2.2.1 c
      have hb := chs_b (pu := sPu lw σ) (ho := sHo lw σ) (t := σ 6) (nt := lw.2 2) (n := σ 13 tip) (w := σ 14 tip) hn 3
      rw [show (chs (sPu lw σ) (sHo lw σ) (σ 6) (lw.2 2) (σ 13 tip) (σ 14 tip) 3).1 = goB lw σ tip from rfl] at hb
      rcases hb with hb | hb
      · exact absurd hb.1 c2
      have he := eef_b (d := goB lw σ tip) hn
      refine h.rip (τ := goW σ tip (goB lw σ tip)) (v := tip / 2) he.1 he.2 hb.2.2.1 rfl (fun t q _ => q) (fun t q => ?_)
      have e12 : goW σ tip (goB lw σ tip) 12 = fu (σ 12) tip (eAt (fu (σ 6) (eef (σ 13 tip) (goB lw σ tip)).toNat ((tip / 2 : Nat) : Int)) (enf (σ 13 tip) (goB lw σ tip)) (eef (σ 13 tip) (goB lw σ tip))) := rfl
      rw [e12]
      exact ⟨fu_ne _ _ (by omega), fu_ne _ _ (by omega)⟩
  · exact h
theorem TE.gN {lw : LW} {σ : SG} (h : TE σ) (hI : FI 0 σ) : ∀ n : Nat, (n : Int) ≤ 2 * σ 0 5 → TE (goN lw σ n)
  | 0, _ => h
  | n + 1, hn => by
    have g := hI.goA (lw := lw) n (by omega)
    exact (TE.gN h hI n (by omega)).gn g.1 (by rw [g.2]; omega)
theorem TE.ne {lw : LW} {i : Int} (hi : 0 ≤ i) : ∀ (k : Nat) {σ : SG}, TE σ → FI i σ → TE (neS lw k σ)
  | 0, _, h, _ => h
  | k + 1, σ, h, hI => by
    unfold neS
    split
    · next c =>
      have hb := neB_b c.2
      have h5 := hI.2.2.1
      refine TE.ne hi k ?_ (hI.new hi c.1 hb.1 hb.2.1)
      refine h.rip (τ := neW σ (neB lw σ)) (v := (σ 0 5).toNat) hb.1 hb.2.1 hb.2.2 ?_ (fun t q p => ?_) (fun t q => ?_)
      · rw [show neW σ (neB lw σ) 6 = fu (σ 6) (neB lw σ).toNat (σ 0 5) from rfl, Int.toNat_of_nonneg h5.1]
      · have q2 : (t : Int) < σ 0 5 + 1 := q
        omega
      · have e12 : neW σ (neB lw σ) 12 = fu (fu (σ 12) (2 * (σ 0 5).toNat) (eAt (fu (σ 6) (neB lw σ).toNat (σ 0 5)) (efn (neB lw σ)) (neB lw σ))) (2 * (σ 0 5).toNat + 1) (eAt (fu (σ 6) (neB lw σ).toNat (σ 0 5)) (etn (neB lw σ)) (neB lw σ)) := rfl
        rw [e12]
        exact ⟨by rw [fu_ne _ _ (by omega), fu_ne _ _ (by omega)], by rw [fu_ne _ _ (by omega), fu_ne _ _ (by omega)]⟩
    · exact h
theorem TE.tick {lw : LW} {h : Int} {σ : SG} (hT : TE σ) (hI : FI 0 σ) (h0 : 0 ≤ h) (h1 : h ≤ 100) : TE (tickS lw h σ) := by
  have g1 := hI.dry (lw := lw) h0 h1
  have hm := hI.2.2.1
  have hn : ((2 * (σ 0 5).toNat : Nat) : Int) ≤ 2 * dryS lw h σ 0 5 := by show ((2 * (σ 0 5).toNat : Nat) : Int) ≤ 2 * σ 0 5; omega
  have g2 := g1.goA (lw := lw) (2 * (σ 0 5).toNat) hn
  have t1 : TE (dryS lw h σ) := hT
  have t3 := TE.ne (lw := lw) (i := ((2 * (σ 0 5).toNat : Nat) : Int)) (by omega) (lw.2 6).toNat (t1.gN (lw := lw) g1 _ hn) g2.1
  exact t3
theorem TE.tkN {lw : LW} {h : Int} {σ : SG} (hT : TE σ) (hI : FI 0 σ) (h0 : 0 ≤ h) (h1 : h ≤ 100) : ∀ n : Nat, σ 0 4 + n ≤ 100000 → TE (tkN lw h n σ)
  | 0, _ => hT
  | n + 1, hn => (TE.tkN hT hI h0 h1 n (by omega)).tick (hI.tkN (lw := lw) h0 h1 n (by omega)).1 h0 h1
theorem CKk.ch76 {W W' : AW} {ll : Nat} {lw : LW} (hH : CH W) (hF : Fc 76 W W') (hc : CW W' 76 ll lw) : CH W' := by
  obtain ⟨-, -, a3, -, a5, a6, a7, a8⟩ := hH
  have k := hF.2
  exact ⟨hc.1, hc.2.1, a3.cg (fun j q => k _ (by omega) (by omega)), ⟨_, _, hc.2.2.1⟩, by rw [k 114 (by decide) (by decide), rr_c (k 114 (by decide) (by decide))]; exact a5, by rw [k 115 (by decide) (by decide), rr_c (k 115 (by decide) (by decide))]; exact a6, by rw [k 116 (by decide) (by decide), rr_c (k 116 (by decide) (by decide))]; exact a7, by rw [k 117 (by decide) (by decide), rr_c (k 117 (by decide) (by decide))]; exact a8⟩
theorem CKk.ch93 {W W' : AW} {ll : Nat} {lw : LW} (hH : CH W) (hF : Fc 93 W W') (hc : CW W' 93 ll lw) : CH W' := by
  obtain ⟨-, a2, -, -, a5, a6, a7, a8⟩ := hH
  have k := hF.2
  exact ⟨hc.1, a2.cg (fun j q => k _ (by omega) (by omega)), hc.2.1, ⟨_, _, hc.2.2.1⟩, by rw [k 114 (by decide) (by decide), rr_c (k 114 (by decide) (by decide))]; exact a5, by rw [k 115 (by decide) (by decide), rr_c (k 115 (by decide) (by decide))]; exact a6, by rw [k 116 (by decide) (by decide), rr_c (k 116 (by decide) (by decide))]; exact a7, by rw [k 117 (by decide) (by decide), rr_c (k 117 (by decide) (by decide))]; exact a8⟩
theorem CC.fc93 {W W' : AW} {s : ST} (hC : CC W s) (hF : Fc 93 W W') : CC W' s := hC.cg (Nat.le_of_eq hF.1.symm) (fun k q => hF.2 k (by unfold ck at q; omega) (by unfold ck at q; omega)) (fun k p q => hF.2 k (by omega) (by omega))
/-- the weather has just taken a floor: it may pass -/
theorem ckk_take {W : AW} {m ll : Nat} {lw : LW} (hc : CW (wu W 130 (o10 m ll (fu (ob W 130) 6 0))) m ll lw) (hl : Ln W m) (hm : m = 76 ∨ m = 93) : CKk (wu W 130 (o10 m ll (fu (ob W 130) 6 0))) m ll lw (cn (ar W (m + 6)) (-1) 180) := by
  have b := cn_b (t := ar W (m + 6)) (x := -1) 180
  refine ⟨hc, ?_, ?_, ?_, ?_⟩
  · rw [ob_n (by omega), ar_n (by omega), ar_n (by omega)]
    exact hl
  · rw [b10_6, fu_eq, ar_n (by omega)]
    omega
  · rw [b10_6, fu_eq]
    exact Int.le_refl _
  · exact b.2
section TICK
variable {W : AW} {Q : AQ} {s : ST} {c : Int} {r n : Int}
abbrev tiG (s : ST) (r n : Int) : Prop := hasF s ∧ (0 ≤ r ∧ r ≤ sN s 0 - 1) ∧ (1 ≤ n ∧ n ≤ 60)
theorem x_tick0 (hH : CH W) (hC : CC W s) (hS : SOK c s) (hg : ¬ tiG s r n) (hQ : Q (some (vi (-1))) W) : Gm 103 [vr 67, vi r, vi n] W Q := by
  have hw : 192 ≤ W.1 := hH.1.1
  rw [e103]
  by_cases c2 : 0 ≤ r ∧ r ≤ sN s 0 - 1
  · obtain ⟨ll, l1, l2⟩ := hC.law c2
    by_cases c1 : sF s 0 0 = 0
    · simp (disch := omega) only [s_1, s_2, s_3, s_4, s_76, s_5, s_6, s_7, s_8, s_9, s_10, s_11, s_12, s_13, s_14, s_15, s_16, s_17, s_18, s_19, s_20, s_21, s_22, s_23, s_24, s_25, s_26, s_27, s_28, s_29, s_30, s_31, s_32, s_33, s_34, s_35, s_36, s_37, s_38, s_39, s_40l, s_40i, s_40r, s_41, s_43, t_44, t_45, t_46, t_47, s_48, s_49, s_50, s_51, s_52, s_53, s_54, s_55, s_56, s_57, s_58, s_59, s_60, s_61, s_62_0, s_62_1, s_62_2, s_66, s_67, s_68, s_69, s_70, s_71, s_72, s_73, sws_n, sws_c, lget, lset, fget, fset, nolg, nolong, avc, stw, cnd, isobj_eo, GCi, GCn, retk, List.length_cons, List.length_nil, ↓reduceIte, and_true, true_and, not_true_eq_false, not_false_eq_true, forall_const, Nat.reduceAdd, Nat.reduceLT, Nat.reduceLeDiff, Nat.lt_add_one, Nat.le_refl, Nat.zero_le, Nat.sub_zero, Int.reduceEq, Int.reduceNe, Int.reduceLT, Int.reduceLE, Int.reduceAdd, Int.reduceSub, Int.reduceMul, Int.reduceNeg, Int.reduceTDiv, Int.reduceTMod, ne_eq, reduceCtorEq, Nat.reduceEqDiff, Int.cast_ofNat_Int, true_or, or_true, false_or, or_false, lcq_0, lcq_2, lcq_3, lcq_4, lcq_5, wu_s, wu_1, wu_w, wu_lt, wu_ne, ar_s, ar_n, rr_s, rr_n, ob_n, nz_c, lt_T, lt_F, le_T, le_F, ie_T, ie_F, nt_T, nt_F, nl_T, nl_F, in_T, and_false, false_and, and_self, not_true_eq_false, Int.toNat_natCast, Int.reduceToNat, if_true, if_false, mi_103, i103_0, i103_1, i103_2, i103_5, i103_6, i103_7, i103_10, i103_13, i103_14, i103_17, i103_18, i103_19, i103_21, i103_24, i103_27, i103_28, i103_31, i103_34, i103_35, i103_36, i103_38, i103_41, i103_42, i103_43, i103_44, i103_47, i103_48, i103_51, i103_52, i103_55, i103_56, i103_59, i103_60, i103_62, i103_65, i103_66, i103_67, i103_70, i103_73, k14, k21, k46, k48, k104, g11_1, g11_11, g2_5, ca_67 hH.1, x_lawAt1 hH hC hS c2 l1, x_noFloor hH hC, bi_z, Classical.not_not, c1]
      exact hQ
    · have c3 : ¬ (1 ≤ n ∧ n ≤ 60) := fun q => hg ⟨c1, c2, q⟩
      simp (disch := omega) only [s_1, s_2, s_3, s_4, s_76, s_5, s_6, s_7, s_8, s_9, s_10, s_11, s_12, s_13, s_14, s_15, s_16, s_17, s_18, s_19, s_20, s_21, s_22, s_23, s_24, s_25, s_26, s_27, s_28, s_29, s_30, s_31, s_32, s_33, s_34, s_35, s_36, s_37, s_38, s_39, s_40l, s_40i, s_40r, s_41, s_43, t_44, t_45, t_46, t_47, s_48, s_49, s_50, s_51, s_52, s_53, s_54, s_55, s_56, s_57, s_58, s_59, s_60, s_61, s_62_0, s_62_1, s_62_2, s_66, s_67, s_68, s_69, s_70, s_71, s_72, s_73, sws_n, sws_c, lget, lset, fget, fset, nolg, nolong, avc, stw, cnd, isobj_eo, GCi, GCn, retk, List.length_cons, List.length_nil, ↓reduceIte, and_true, true_and, not_true_eq_false, not_false_eq_true, forall_const, Nat.reduceAdd, Nat.reduceLT, Nat.reduceLeDiff, Nat.lt_add_one, Nat.le_refl, Nat.zero_le, Nat.sub_zero, Int.reduceEq, Int.reduceNe, Int.reduceLT, Int.reduceLE, Int.reduceAdd, Int.reduceSub, Int.reduceMul, Int.reduceNeg, Int.reduceTDiv, Int.reduceTMod, ne_eq, reduceCtorEq, Nat.reduceEqDiff, Int.cast_ofNat_Int, true_or, or_true, false_or, or_false, lcq_0, lcq_2, lcq_3, lcq_4, lcq_5, wu_s, wu_1, wu_w, wu_lt, wu_ne, ar_s, ar_n, rr_s, rr_n, ob_n, nz_c, lt_T, lt_F, le_T, le_F, ie_T, ie_F, nt_T, nt_F, nl_T, nl_F, in_T, and_false, false_and, and_self, not_true_eq_false, Int.toNat_natCast, Int.reduceToNat, if_true, if_false, mi_103, i103_0, i103_1, i103_2, i103_5, i103_6, i103_7, i103_10, i103_13, i103_14, i103_17, i103_18, i103_19, i103_21, i103_24, i103_27, i103_28, i103_31, i103_34, i103_35, i103_36, i103_38, i103_41, i103_42, i103_43, i103_44, i103_47, i103_48, i103_51, i103_52, i103_55, i103_56, i103_59, i103_60, i103_62, i103_65, i103_66, i103_67, i103_70, i103_73, k14, k21, k46, k48, k104, g11_1, g11_11, g2_5, ca_67 hH.1, x_lawAt1 hH hC hS c2 l1, x_noFloor hH hC, bi_z, Classical.not_not, c1, m_within, c3]
      exact hQ
  · by_cases c1 : sF s 0 0 = 0
    · simp (disch := omega) only [s_1, s_2, s_3, s_4, s_76, s_5, s_6, s_7, s_8, s_9, s_10, s_11, s_12, s_13, s_14, s_15, s_16, s_17, s_18, s_19, s_20, s_21, s_22, s_23, s_24, s_25, s_26, s_27, s_28, s_29, s_30, s_31, s_32, s_33, s_34, s_35, s_36, s_37, s_38, s_39, s_40l, s_40i, s_40r, s_41, s_43, t_44, t_45, t_46, t_47, s_48, s_49, s_50, s_51, s_52, s_53, s_54, s_55, s_56, s_57, s_58, s_59, s_60, s_61, s_62_0, s_62_1, s_62_2, s_66, s_67, s_68, s_69, s_70, s_71, s_72, s_73, sws_n, sws_c, lget, lset, fget, fset, nolg, nolong, avc, stw, cnd, isobj_eo, GCi, GCn, retk, List.length_cons, List.length_nil, ↓reduceIte, and_true, true_and, not_true_eq_false, not_false_eq_true, forall_const, Nat.reduceAdd, Nat.reduceLT, Nat.reduceLeDiff, Nat.lt_add_one, Nat.le_refl, Nat.zero_le, Nat.sub_zero, Int.reduceEq, Int.reduceNe, Int.reduceLT, Int.reduceLE, Int.reduceAdd, Int.reduceSub, Int.reduceMul, Int.reduceNeg, Int.reduceTDiv, Int.reduceTMod, ne_eq, reduceCtorEq, Nat.reduceEqDiff, Int.cast_ofNat_Int, true_or, or_true, false_or, or_false, lcq_0, lcq_2, lcq_3, lcq_4, lcq_5, wu_s, wu_1, wu_w, wu_lt, wu_ne, ar_s, ar_n, rr_s, rr_n, ob_n, nz_c, lt_T, lt_F, le_T, le_F, ie_T, ie_F, nt_T, nt_F, nl_T, nl_F, in_T, and_false, false_and, and_self, not_true_eq_false, Int.toNat_natCast, Int.reduceToNat, if_true, if_false, mi_103, i103_0, i103_1, i103_2, i103_5, i103_6, i103_7, i103_10, i103_13, i103_14, i103_17, i103_18, i103_19, i103_21, i103_24, i103_27, i103_28, i103_31, i103_34, i103_35, i103_36, i103_38, i103_41, i103_42, i103_43, i103_44, i103_47, i103_48, i103_51, i103_52, i103_55, i103_56, i103_59, i103_60, i103_62, i103_65, i103_66, i103_67, i103_70, i103_73, k14, k21, k46, k48, k104, g11_1, g11_11, g2_5, ca_67 hH.1, x_lawAt0 hH hC hS c2, x_noFloor hH hC, bi_z, Classical.not_not, c1]
      exact hQ
    · simp (disch := omega) only [s_1, s_2, s_3, s_4, s_76, s_5, s_6, s_7, s_8, s_9, s_10, s_11, s_12, s_13, s_14, s_15, s_16, s_17, s_18, s_19, s_20, s_21, s_22, s_23, s_24, s_25, s_26, s_27, s_28, s_29, s_30, s_31, s_32, s_33, s_34, s_35, s_36, s_37, s_38, s_39, s_40l, s_40i, s_40r, s_41, s_43, t_44, t_45, t_46, t_47, s_48, s_49, s_50, s_51, s_52, s_53, s_54, s_55, s_56, s_57, s_58, s_59, s_60, s_61, s_62_0, s_62_1, s_62_2, s_66, s_67, s_68, s_69, s_70, s_71, s_72, s_73, sws_n, sws_c, lget, lset, fget, fset, nolg, nolong, avc, stw, cnd, isobj_eo, GCi, GCn, retk, List.length_cons, List.length_nil, ↓reduceIte, and_true, true_and, not_true_eq_false, not_false_eq_true, forall_const, Nat.reduceAdd, Nat.reduceLT, Nat.reduceLeDiff, Nat.lt_add_one, Nat.le_refl, Nat.zero_le, Nat.sub_zero, Int.reduceEq, Int.reduceNe, Int.reduceLT, Int.reduceLE, Int.reduceAdd, Int.reduceSub, Int.reduceMul, Int.reduceNeg, Int.reduceTDiv, Int.reduceTMod, ne_eq, reduceCtorEq, Nat.reduceEqDiff, Int.cast_ofNat_Int, true_or, or_true, false_or, or_false, lcq_0, lcq_2, lcq_3, lcq_4, lcq_5, wu_s, wu_1, wu_w, wu_lt, wu_ne, ar_s, ar_n, rr_s, rr_n, ob_n, nz_c, lt_T, lt_F, le_T, le_F, ie_T, ie_F, nt_T, nt_F, nl_T, nl_F, in_T, and_false, false_and, and_self, not_true_eq_false, Int.toNat_natCast, Int.reduceToNat, if_true, if_false, mi_103, i103_0, i103_1, i103_2, i103_5, i103_6, i103_7, i103_10, i103_13, i103_14, i103_17, i103_18, i103_19, i103_21, i103_24, i103_27, i103_28, i103_31, i103_34, i103_35, i103_36, i103_38, i103_41, i103_42, i103_43, i103_44, i103_47, i103_48, i103_51, i103_52, i103_55, i103_56, i103_59, i103_60, i103_62, i103_65, i103_66, i103_67, i103_70, i103_73, k14, k21, k46, k48, k104, g11_1, g11_11, g2_5, ca_67 hH.1, x_lawAt0 hH hC hS c2, x_noFloor hH hC, bi_z, Classical.not_not, c1]
      exact hQ
theorem x_tick1 (hH : CH W) (hC : CC W s) (hS : SOK c s) (hc : c ≤ 511) (hg : tiG s r n) (hQ : ∀ W', CH W' → CC W' (tkN (sL s r.toNat) 100 n.toNat (sF s), s.2) → Q (some (vi (sF s 0 4 + n))) W') : Gm 103 [vr 67, vi r, vi n] W Q := by
  have hw : 192 ≤ W.1 := hH.1.1
  obtain ⟨c1, c2, c3⟩ := hg
  have c1' : ¬ sF s 0 0 = 0 := c1
  obtain ⟨ll, l1, l2⟩ := hC.law c2
  have hk := hS.law c2
  have hN := hS.fn c1
  have h4 := hN.2.1
  have h41 := hN.1.2.1
  have e4 := hC.v.2.2.2.2.1
  obtain ⟨mm, l0, hG⟩ := hH.2.2.2.1
  have hcw := cw_take (m := 76) hH (Or.inl rfl) l2
  have hck := ckk_take hcw hC.2.1 (Or.inl rfl)
  have hh := CH.take (m := 76) (ll := ll) hH
  have hC1 := CC.take (m := 76) (ll := ll) hC
  have e41 := hC1.v.2.2.2.2.1
  have hI : FI 0 (cF (wu W 130 (o10 76 ll (fu (ob W 130) 6 0))) 76) := FI.sq hN.1 (Sq.sy (σ := cF (wu W 130 (o10 76 ll (fu (ob W 130) 6 0))) 76) hC1.1.1)
  rw [e103]
  simp (disch := omega) only [s_1, s_2, s_3, s_4, s_76, s_5, s_6, s_7, s_8, s_9, s_10, s_11, s_12, s_13, s_14, s_15, s_16, s_17, s_18, s_19, s_20, s_21, s_22, s_23, s_24, s_25, s_26, s_27, s_28, s_29, s_30, s_31, s_32, s_33, s_34, s_35, s_36, s_37, s_38, s_39, s_40l, s_40i, s_40r, s_41, s_43, t_44, t_45, t_46, t_47, s_48, s_49, s_50, s_51, s_52, s_53, s_54, s_55, s_56, s_57, s_58, s_59, s_60, s_61, s_62_0, s_62_1, s_62_2, s_66, s_67, s_68, s_69, s_70, s_71, s_72, s_73, sws_n, sws_c, lget, lset, fget, fset, nolg, nolong, avc, stw, cnd, isobj_eo, GCi, GCn, retk, List.length_cons, List.length_nil, ↓reduceIte, and_true, true_and, not_true_eq_false, not_false_eq_true, forall_const, Nat.reduceAdd, Nat.reduceLT, Nat.reduceLeDiff, Nat.lt_add_one, Nat.le_refl, Nat.zero_le, Nat.sub_zero, Int.reduceEq, Int.reduceNe, Int.reduceLT, Int.reduceLE, Int.reduceAdd, Int.reduceSub, Int.reduceMul, Int.reduceNeg, Int.reduceTDiv, Int.reduceTMod, ne_eq, reduceCtorEq, Nat.reduceEqDiff, Int.cast_ofNat_Int, true_or, or_true, false_or, or_false, lcq_0, lcq_2, lcq_3, lcq_4, lcq_5, wu_s, wu_1, wu_w, wu_lt, wu_ne, ar_s, ar_n, rr_s, rr_n, ob_n, nz_c, lt_T, lt_F, le_T, le_F, ie_T, ie_F, nt_T, nt_F, nl_T, nl_F, in_T, and_false, false_and, and_self, not_true_eq_false, Int.toNat_natCast, Int.reduceToNat, if_true, if_false, mi_103, i103_0, i103_1, i103_2, i103_5, i103_6, i103_7, i103_10, i103_13, i103_14, i103_17, i103_18, i103_19, i103_21, i103_24, i103_27, i103_28, i103_31, i103_34, i103_35, i103_36, i103_38, i103_41, i103_42, i103_43, i103_44, i103_47, i103_48, i103_51, i103_52, i103_55, i103_56, i103_59, i103_60, i103_62, i103_65, i103_66, i103_67, i103_70, i103_73, k14, k21, k46, k48, k104, g11_1, g11_11, g2_5, ca_67 hH.1, mv76_0 hH.2.1, e4, x_lawAt1 hH hC hS c2 l1, x_noFloor hH hC, bi_z, Classical.not_not, c1', m_within, c3, x_take hH, hG]
  generalize hV : wu W 130 (o10 76 ll (fu (ob W 130) 6 0)) = V at hcw hck hh hC1 e41 hI ⊢
  rw [show n = ((n.toNat : Nat) : Int) by omega] at hQ ⊢
  refine c_pass (m := 76) hck hI hk (by decide) (by omega) (by rw [e41]; omega) (fun W' p1 p2 p3 p4 => ?_)
  have hH' := CKk.ch76 hh p2 p1.1
  have hw' : 192 ≤ W'.1 := hH'.1.1
  have hT := hN.1.tkN (lw := sL s r.toNat) (h := 100) (by decide) (by decide) n.toNat (by omega)
  have hq : Sq (cF W' 76) (tkN (sL s r.toNat) 100 n.toNat (sF s)) := by
    rw [p4]
    exact (Sq.q_tkN (σ := cF V 76) hC1.1.1 hI (by decide) (by decide) n.toNat (by show ob V 76 5 + _ ≤ _; rw [e41]; omega)).1
  have kp := Kp.tkN (lw := sL s r.toNat) (h := 100) (σ := sF s) n.toNat
  have hC' : CC W' (tkN (sL s r.toNat) 100 n.toNat (sF s), s.2) := hC1.fl (Nat.le_of_eq p2.1.symm) (fun k q => p2.2 k (by omega) (by omega)) (fun k p q => p2.2 k (by omega) (by omega)) hq (kp.2 6 (by decide) (by decide)) (kp.1 15 (by omega)) (kp.1 16 (by omega)) (kp.1 17 (by omega)) p1.2.1
  have e5 := hC'.v.2.2.2.2.1
  have e6 : ob W' 76 5 = sF s 0 4 + ((n.toNat : Nat) : Int) := e5.trans hT.2
  simp (disch := omega) only [s_1, s_2, s_3, s_4, s_76, s_5, s_6, s_7, s_8, s_9, s_10, s_11, s_12, s_13, s_14, s_15, s_16, s_17, s_18, s_19, s_20, s_21, s_22, s_23, s_24, s_25, s_26, s_27, s_28, s_29, s_30, s_31, s_32, s_33, s_34, s_35, s_36, s_37, s_38, s_39, s_40l, s_40i, s_40r, s_41, s_43, t_44, t_45, t_46, t_47, s_48, s_49, s_50, s_51, s_52, s_53, s_54, s_55, s_56, s_57, s_58, s_59, s_60, s_61, s_62_0, s_62_1, s_62_2, s_66, s_67, s_68, s_69, s_70, s_71, s_72, s_73, sws_n, sws_c, lget, lset, fget, fset, nolg, nolong, avc, stw, cnd, isobj_eo, GCi, GCn, retk, List.length_cons, List.length_nil, ↓reduceIte, and_true, true_and, not_true_eq_false, not_false_eq_true, forall_const, Nat.reduceAdd, Nat.reduceLT, Nat.reduceLeDiff, Nat.lt_add_one, Nat.le_refl, Nat.zero_le, Nat.sub_zero, Int.reduceEq, Int.reduceNe, Int.reduceLT, Int.reduceLE, Int.reduceAdd, Int.reduceSub, Int.reduceMul, Int.reduceNeg, Int.reduceTDiv, Int.reduceTMod, ne_eq, reduceCtorEq, Nat.reduceEqDiff, Int.cast_ofNat_Int, true_or, or_true, false_or, or_false, lcq_0, lcq_2, lcq_3, lcq_4, lcq_5, wu_s, wu_1, wu_w, wu_lt, wu_ne, ar_s, ar_n, rr_s, rr_n, ob_n, nz_c, lt_T, lt_F, le_T, le_F, ie_T, ie_F, nt_T, nt_F, nl_T, nl_F, in_T, and_false, false_and, and_self, not_true_eq_false, Int.toNat_natCast, Int.reduceToNat, if_true, if_false, mi_103, i103_0, i103_1, i103_2, i103_5, i103_6, i103_7, i103_10, i103_13, i103_14, i103_17, i103_18, i103_19, i103_21, i103_24, i103_27, i103_28, i103_31, i103_34, i103_35, i103_36, i103_38, i103_41, i103_42, i103_43, i103_44, i103_47, i103_48, i103_51, i103_52, i103_55, i103_56, i103_59, i103_60, i103_62, i103_65, i103_66, i103_67, i103_70, i103_73, k14, k21, k46, k48, k104, g11_1, g11_11, g2_5, ca_67 hH'.1, mv76_0 hH'.2.1, e6]
  rw [Int.toNat_natCast] at hQ
  exact hQ W' hH' hC'
theorem y_tick0 (hR : KR W s) (hS : SOK c s) (hg : ¬ tiG s r n) (hQ : Q (some (vi (-1))) W) : Gm 236 [vr 148, vi r, vi n] W Q := by
  have hw : 192 ≤ W.1 := hR.1.1
  rw [e236]
  by_cases c1 : hasF s ∧ 0 ≤ r ∧ r ≤ sN s 0 - 1
  · have c3 : ¬ (1 ≤ n ∧ n ≤ 60) := fun q => hg ⟨c1.1, c1.2, q⟩
    simp (disch := omega) only [s_1, s_2, s_3, s_4, s_76, s_5, s_6, s_7, s_8, s_9, s_10, s_11, s_12, s_13, s_14, s_15, s_16, s_17, s_18, s_19, s_20, s_21, s_22, s_23, s_24, s_25, s_26, s_27, s_28, s_29, s_30, s_31, s_32, s_33, s_34, s_35, s_36, s_37, s_38, s_39, s_40l, s_40i, s_40r, s_41, s_43, t_44, t_45, t_46, t_47, s_48, s_49, s_50, s_51, s_52, s_53, s_54, s_55, s_56, s_57, s_58, s_59, s_60, s_61, s_62_0, s_62_1, s_62_2, s_66, s_67, s_68, s_69, s_70, s_71, s_72, s_73, sws_n, sws_c, lget, lset, fget, fset, nolg, nolong, avc, stw, cnd, isobj_eo, GCi, GCn, retk, List.length_cons, List.length_nil, ↓reduceIte, and_true, true_and, not_true_eq_false, not_false_eq_true, forall_const, Nat.reduceAdd, Nat.reduceLT, Nat.reduceLeDiff, Nat.lt_add_one, Nat.le_refl, Nat.zero_le, Nat.sub_zero, Int.reduceEq, Int.reduceNe, Int.reduceLT, Int.reduceLE, Int.reduceAdd, Int.reduceSub, Int.reduceMul, Int.reduceNeg, Int.reduceTDiv, Int.reduceTMod, ne_eq, reduceCtorEq, Nat.reduceEqDiff, Int.cast_ofNat_Int, true_or, or_true, false_or, or_false, lcq_0, lcq_2, lcq_3, lcq_4, lcq_5, wu_s, wu_1, wu_w, wu_lt, wu_ne, ar_s, ar_n, rr_s, rr_n, ob_n, nz_c, lt_T, lt_F, le_T, le_F, ie_T, ie_F, nt_T, nt_F, nl_T, nl_F, in_T, and_false, false_and, and_self, not_true_eq_false, Int.toNat_natCast, Int.reduceToNat, if_true, if_false, mi_236, i236_0, i236_1, i236_2, i236_5, i236_8, i236_9, i236_10, i236_11, i236_14, i236_17, i236_20, i236_21, i236_24, i236_25, i236_26, i236_27, i236_28, i236_31, i236_34, i236_35, i236_36, i236_37, i236_39, i236_40, i236_43, i236_44, i236_45, i236_47, i236_50, i236_53, i236_56, i236_57, i236_60, i236_61, i236_62, k179, k225, k237, g12_2, ra_148 hR.1, y_isLaw hR hS, m_in, bi_z, Classical.not_not, eq_true c1, c3]
    exact hQ
  · simp (disch := omega) only [s_1, s_2, s_3, s_4, s_76, s_5, s_6, s_7, s_8, s_9, s_10, s_11, s_12, s_13, s_14, s_15, s_16, s_17, s_18, s_19, s_20, s_21, s_22, s_23, s_24, s_25, s_26, s_27, s_28, s_29, s_30, s_31, s_32, s_33, s_34, s_35, s_36, s_37, s_38, s_39, s_40l, s_40i, s_40r, s_41, s_43, t_44, t_45, t_46, t_47, s_48, s_49, s_50, s_51, s_52, s_53, s_54, s_55, s_56, s_57, s_58, s_59, s_60, s_61, s_62_0, s_62_1, s_62_2, s_66, s_67, s_68, s_69, s_70, s_71, s_72, s_73, sws_n, sws_c, lget, lset, fget, fset, nolg, nolong, avc, stw, cnd, isobj_eo, GCi, GCn, retk, List.length_cons, List.length_nil, ↓reduceIte, and_true, true_and, not_true_eq_false, not_false_eq_true, forall_const, Nat.reduceAdd, Nat.reduceLT, Nat.reduceLeDiff, Nat.lt_add_one, Nat.le_refl, Nat.zero_le, Nat.sub_zero, Int.reduceEq, Int.reduceNe, Int.reduceLT, Int.reduceLE, Int.reduceAdd, Int.reduceSub, Int.reduceMul, Int.reduceNeg, Int.reduceTDiv, Int.reduceTMod, ne_eq, reduceCtorEq, Nat.reduceEqDiff, Int.cast_ofNat_Int, true_or, or_true, false_or, or_false, lcq_0, lcq_2, lcq_3, lcq_4, lcq_5, wu_s, wu_1, wu_w, wu_lt, wu_ne, ar_s, ar_n, rr_s, rr_n, ob_n, nz_c, lt_T, lt_F, le_T, le_F, ie_T, ie_F, nt_T, nt_F, nl_T, nl_F, in_T, and_false, false_and, and_self, not_true_eq_false, Int.toNat_natCast, Int.reduceToNat, if_true, if_false, mi_236, i236_0, i236_1, i236_2, i236_5, i236_8, i236_9, i236_10, i236_11, i236_14, i236_17, i236_20, i236_21, i236_24, i236_25, i236_26, i236_27, i236_28, i236_31, i236_34, i236_35, i236_36, i236_37, i236_39, i236_40, i236_43, i236_44, i236_45, i236_47, i236_50, i236_53, i236_56, i236_57, i236_60, i236_61, i236_62, k179, k225, k237, g12_2, ra_148 hR.1, y_isLaw hR hS, m_in, bi_z, Classical.not_not, eq_false c1]
    exact hQ
/-- a tick of the reference, of the state -/
theorem y_ticks {h : Int} {lw : LW} (hR : KR W s) (hI : FI 0 (sF s)) (hL : LawR W r lw) (hk : LwOk lw) (hh : 0 ≤ h ∧ h ≤ 100) (hQ : ∀ W', KR W' (tickS lw h (sF s), s.2) → LawR W' r lw → Q none W') : Gm 237 [vr 148, vi r, vi h] W Q :=
  r_ticks hR.1 (by rw [hR.2.2.1]; exact hI) hL hk hh (fun W' a b d => hQ W' (hR.fl a b (by rw [d, hR.2.2.1])) (hL.fq b))
theorem y_tick1 (hR : KR W s) (hS : SOK c s) (hc : c ≤ 511) (hg : tiG s r n) (hQ : ∀ W', KR W' (tkN (sL s r.toNat) 100 n.toNat (sF s), s.2) → Q (some (vi (sF s 0 4 + n))) W') : Gm 236 [vr 148, vi r, vi n] W Q := by
  have hw : 192 ≤ W.1 := hR.1.1
  obtain ⟨c1, c2, c3⟩ := hg
  have c4 : hasF s ∧ 0 ≤ r ∧ r ≤ sN s 0 - 1 := ⟨c1, c2⟩
  have hk := hS.law c2
  have hN := hS.fn c1
  have h4 := hN.2.1
  have h41 := hN.1.2.1
  have e0 : ar W 149 = sF s 0 := hR.f 0 (by decide)
  have hT := fun k hk => hN.1.tkN (lw := sL s r.toNat) (h := 100) (by decide) (by decide) k hk
  have key := loop_u (P := fun k => ∀ V, KR V (tkN (sL s r.toNat) 100 k (sF s), s.2) → LawR V r (sL s r.toNat) → G 236 38 [some (vr 148), some (vi r), some (vi n), some (vi (k : Int))] [] V 0 0 Q) n.toNat (fun k hkn ih => ?_) ?_ 0 (by omega) W hR (hR.law c2)
  · rw [e236]
    simp (disch := omega) only [s_1, s_2, s_3, s_4, s_76, s_5, s_6, s_7, s_8, s_9, s_10, s_11, s_12, s_13, s_14, s_15, s_16, s_17, s_18, s_19, s_20, s_21, s_22, s_23, s_24, s_25, s_26, s_27, s_28, s_29, s_30, s_31, s_32, s_33, s_34, s_35, s_36, s_37, s_38, s_39, s_40l, s_40i, s_40r, s_41, s_43, t_44, t_45, t_46, t_47, s_48, s_49, s_50, s_51, s_52, s_53, s_54, s_55, s_56, s_57, s_58, s_59, s_60, s_61, s_62_0, s_62_1, s_62_2, s_66, s_67, s_68, s_69, s_70, s_71, s_72, s_73, sws_n, sws_c, lget, lset, fget, fset, nolg, nolong, avc, stw, cnd, isobj_eo, GCi, GCn, retk, List.length_cons, List.length_nil, ↓reduceIte, and_true, true_and, not_true_eq_false, not_false_eq_true, forall_const, Nat.reduceAdd, Nat.reduceLT, Nat.reduceLeDiff, Nat.lt_add_one, Nat.le_refl, Nat.zero_le, Nat.sub_zero, Int.reduceEq, Int.reduceNe, Int.reduceLT, Int.reduceLE, Int.reduceAdd, Int.reduceSub, Int.reduceMul, Int.reduceNeg, Int.reduceTDiv, Int.reduceTMod, ne_eq, reduceCtorEq, Nat.reduceEqDiff, Int.cast_ofNat_Int, true_or, or_true, false_or, or_false, lcq_0, lcq_2, lcq_3, lcq_4, lcq_5, wu_s, wu_1, wu_w, wu_lt, wu_ne, ar_s, ar_n, rr_s, rr_n, ob_n, nz_c, lt_T, lt_F, le_T, le_F, ie_T, ie_F, nt_T, nt_F, nl_T, nl_F, in_T, and_false, false_and, and_self, not_true_eq_false, Int.toNat_natCast, Int.reduceToNat, if_true, if_false, mi_236, i236_0, i236_1, i236_2, i236_5, i236_8, i236_9, i236_10, i236_11, i236_14, i236_17, i236_20, i236_21, i236_24, i236_25, i236_26, i236_27, i236_28, i236_31, i236_34, i236_35, i236_36, i236_37, i236_39, i236_40, i236_43, i236_44, i236_45, i236_47, i236_50, i236_53, i236_56, i236_57, i236_60, i236_61, i236_62, k179, k225, k237, g12_2, ra_148 hR.1, ra_149 hR.1, e0, y_isLaw hR hS, m_in, bi_z, Classical.not_not, eq_true c4, c3]
    exact key
  · intro V k1 l1
    have hwV : 192 ≤ V.1 := k1.1.1
    rw [i236_38]
    simp (disch := omega) only [s_1, s_2, s_3, s_4, s_76, s_5, s_6, s_7, s_8, s_9, s_10, s_11, s_12, s_13, s_14, s_15, s_16, s_17, s_18, s_19, s_20, s_21, s_22, s_23, s_24, s_25, s_26, s_27, s_28, s_29, s_30, s_31, s_32, s_33, s_34, s_35, s_36, s_37, s_38, s_39, s_40l, s_40i, s_40r, s_41, s_43, t_44, t_45, t_46, t_47, s_48, s_49, s_50, s_51, s_52, s_53, s_54, s_55, s_56, s_57, s_58, s_59, s_60, s_61, s_62_0, s_62_1, s_62_2, s_66, s_67, s_68, s_69, s_70, s_71, s_72, s_73, sws_n, sws_c, lget, lset, fget, fset, nolg, nolong, avc, stw, cnd, isobj_eo, GCi, GCn, retk, List.length_cons, List.length_nil, ↓reduceIte, and_true, true_and, not_true_eq_false, not_false_eq_true, forall_const, Nat.reduceAdd, Nat.reduceLT, Nat.reduceLeDiff, Nat.lt_add_one, Nat.le_refl, Nat.zero_le, Nat.sub_zero, Int.reduceEq, Int.reduceNe, Int.reduceLT, Int.reduceLE, Int.reduceAdd, Int.reduceSub, Int.reduceMul, Int.reduceNeg, Int.reduceTDiv, Int.reduceTMod, ne_eq, reduceCtorEq, Nat.reduceEqDiff, Int.cast_ofNat_Int, true_or, or_true, false_or, or_false, lcq_0, lcq_2, lcq_3, lcq_4, lcq_5, wu_s, wu_1, wu_w, wu_lt, wu_ne, ar_s, ar_n, rr_s, rr_n, ob_n, nz_c, lt_T, lt_F, le_T, le_F, ie_T, ie_F, nt_T, nt_F, nl_T, nl_F, in_T, and_false, false_and, and_self, not_true_eq_false, Int.toNat_natCast, Int.reduceToNat, if_true, if_false, mi_236, i236_0, i236_1, i236_2, i236_5, i236_8, i236_9, i236_10, i236_11, i236_14, i236_17, i236_20, i236_21, i236_24, i236_25, i236_26, i236_27, i236_28, i236_31, i236_34, i236_35, i236_36, i236_37, i236_39, i236_40, i236_43, i236_44, i236_45, i236_47, i236_50, i236_53, i236_56, i236_57, i236_60, i236_61, i236_62, k179, k225, k237, g12_2, ra_148 k1.1]
    refine y_ticks k1 (hT k (by omega)).1 l1 hk (by decide) (fun W' k2 l2 => ?_)
    simp (disch := omega) only [s_1, s_2, s_3, s_4, s_76, s_5, s_6, s_7, s_8, s_9, s_10, s_11, s_12, s_13, s_14, s_15, s_16, s_17, s_18, s_19, s_20, s_21, s_22, s_23, s_24, s_25, s_26, s_27, s_28, s_29, s_30, s_31, s_32, s_33, s_34, s_35, s_36, s_37, s_38, s_39, s_40l, s_40i, s_40r, s_41, s_43, t_44, t_45, t_46, t_47, s_48, s_49, s_50, s_51, s_52, s_53, s_54, s_55, s_56, s_57, s_58, s_59, s_60, s_61, s_62_0, s_62_1, s_62_2, s_66, s_67, s_68, s_69, s_70, s_71, s_72, s_73, sws_n, sws_c, lget, lset, fget, fset, nolg, nolong, avc, stw, cnd, isobj_eo, GCi, GCn, retk, List.length_cons, List.length_nil, ↓reduceIte, and_true, true_and, not_true_eq_false, not_false_eq_true, forall_const, Nat.reduceAdd, Nat.reduceLT, Nat.reduceLeDiff, Nat.lt_add_one, Nat.le_refl, Nat.zero_le, Nat.sub_zero, Int.reduceEq, Int.reduceNe, Int.reduceLT, Int.reduceLE, Int.reduceAdd, Int.reduceSub, Int.reduceMul, Int.reduceNeg, Int.reduceTDiv, Int.reduceTMod, ne_eq, reduceCtorEq, Nat.reduceEqDiff, Int.cast_ofNat_Int, true_or, or_true, false_or, or_false, lcq_0, lcq_2, lcq_3, lcq_4, lcq_5, wu_s, wu_1, wu_w, wu_lt, wu_ne, ar_s, ar_n, rr_s, rr_n, ob_n, nz_c, lt_T, lt_F, le_T, le_F, ie_T, ie_F, nt_T, nt_F, nl_T, nl_F, in_T, and_false, false_and, and_self, not_true_eq_false, Int.toNat_natCast, Int.reduceToNat, if_true, if_false, mi_236, i236_0, i236_1, i236_2, i236_5, i236_8, i236_9, i236_10, i236_11, i236_14, i236_17, i236_20, i236_21, i236_24, i236_25, i236_26, i236_27, i236_28, i236_31, i236_34, i236_35, i236_36, i236_37, i236_39, i236_40, i236_43, i236_44, i236_45, i236_47, i236_50, i236_53, i236_56, i236_57, i236_60, i236_61, i236_62, k179, k225, k237, g12_2]
    rw [← nc1]
    exact ih W' k2 l2
  · intro V k1 l1
    have hwV : 192 ≤ V.1 := k1.1.1
    have e1 : ar V 149 4 = sF s 0 4 + n := by
      have := (hT n.toNat (by omega)).2
      rw [show ar V 149 = tkN (sL s r.toNat) 100 n.toNat (sF s) 0 from k1.f 0 (by decide), this]
      omega
    rw [i236_38]
    simp (disch := omega) only [s_1, s_2, s_3, s_4, s_76, s_5, s_6, s_7, s_8, s_9, s_10, s_11, s_12, s_13, s_14, s_15, s_16, s_17, s_18, s_19, s_20, s_21, s_22, s_23, s_24, s_25, s_26, s_27, s_28, s_29, s_30, s_31, s_32, s_33, s_34, s_35, s_36, s_37, s_38, s_39, s_40l, s_40i, s_40r, s_41, s_43, t_44, t_45, t_46, t_47, s_48, s_49, s_50, s_51, s_52, s_53, s_54, s_55, s_56, s_57, s_58, s_59, s_60, s_61, s_62_0, s_62_1, s_62_2, s_66, s_67, s_68, s_69, s_70, s_71, s_72, s_73, sws_n, sws_c, lget, lset, fget, fset, nolg, nolong, avc, stw, cnd, isobj_eo, GCi, GCn, retk, List.length_cons, List.length_nil, ↓reduceIte, and_true, true_and, not_true_eq_false, not_false_eq_true, forall_const, Nat.reduceAdd, Nat.reduceLT, Nat.reduceLeDiff, Nat.lt_add_one, Nat.le_refl, Nat.zero_le, Nat.sub_zero, Int.reduceEq, Int.reduceNe, Int.reduceLT, Int.reduceLE, Int.reduceAdd, Int.reduceSub, Int.reduceMul, Int.reduceNeg, Int.reduceTDiv, Int.reduceTMod, ne_eq, reduceCtorEq, Nat.reduceEqDiff, Int.cast_ofNat_Int, true_or, or_true, false_or, or_false, lcq_0, lcq_2, lcq_3, lcq_4, lcq_5, wu_s, wu_1, wu_w, wu_lt, wu_ne, ar_s, ar_n, rr_s, rr_n, ob_n, nz_c, lt_T, lt_F, le_T, le_F, ie_T, ie_F, nt_T, nt_F, nl_T, nl_F, in_T, and_false, false_and, and_self, not_true_eq_false, Int.toNat_natCast, Int.reduceToNat, if_true, if_false, mi_236, i236_0, i236_1, i236_2, i236_5, i236_8, i236_9, i236_10, i236_11, i236_14, i236_17, i236_20, i236_21, i236_24, i236_25, i236_26, i236_27, i236_28, i236_31, i236_34, i236_35, i236_36, i236_37, i236_39, i236_40, i236_43, i236_44, i236_45, i236_47, i236_50, i236_53, i236_56, i236_57, i236_60, i236_61, i236_62, k179, k225, k237, g12_2, ra_148 k1.1, ra_149 k1.1, e1]
    exact hQ V k1
end TICK
theorem ok9 {L : Nat} {X : Nat → Int} {c : Nat} {W : AW} {r n : Int} (hI : Inv L X c W) (hc : c ≤ 511) : CallOK (Inv L X (c + 1)) W 103 236 [vi r, vi n] := by
  obtain ⟨h0, hz, hcl, s, hS, hH, hC, hR⟩ := hI
  have hcc : (c : Int) ≤ ((c + 1 : Nat) : Int) := by omega
  refine call_mk (has_c (has_c has_0)) (by decide +kernel) h0 hz hcl hH hR ?_
  by_cases g : tiG s r n
  · have hN := hS.fn g.1
    have h4 := hN.2.1
    have g3 := g.2.2
    have hT := hN.1.tkN (lw := sL s r.toNat) (h := 100) (by decide) (by decide) n.toNat (by omega)
    refine x_tick1 hH hC hS (by omega) g (fun W' a b => ⟨_, _, rfl, a, b, hS.fl hcc g.1 (hN.kp (Kp.tkN _) hT.1 (by rw [hT.2]; omega) (TE.tkN hN.2.2.2.2.2.2.2.2.2 hN.1 (by decide) (by decide) n.toNat (by omega))), fun W1 k1 z1 => y_tick1 k1 hS (by omega) g (fun W2 k2 => ⟨rfl, k2⟩)⟩)
  · exact x_tick0 hH hC hS g ⟨_, s, rfl, hH, hC, hS.mono hcc, fun W1 k1 z1 => y_tick0 k1 hS g ⟨rfl, k1⟩⟩
