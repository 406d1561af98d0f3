-- IMAGE, BACK
section NB
variable {W : AW} {Q : AQ} {d o m : Nat}
theorem x_nbecome (hz : Zw W) (hd : NS W d) (ho : NS W o) (hq : d + 3 < o ∨ o + 3 < d) (h1 : 67 ≤ d ∧ d + 3 < W.1) (h2 : 67 ≤ o ∧ o + 3 < W.1) (hm : 0 ≤ ob W o 0 ∧ ob W o 0 ≤ 60)
    (hQ : ∀ W', W'.1 = W.1 → (∀ k, k < d ∨ d + 3 < k → W'.2 k = W.2 k) → NS W' d → ob W' d 0 = ob W o 0 → (∀ i : Nat, (i : Int) < 7 * ob W o 0 → ar W' (d + 1) i = ar W (o + 1) i) → ar W' (d + 2) = ar W (o + 2) → ar W' (d + 3) = ar W (o + 3) → Q none W') : Gm 175 [vr d, vr o] W Q := by
  have q67 : nfz = 67 := rfl
  obtain ⟨d0, d1, d2, d3⟩ := id hd
  obtain ⟨p0, p1, p2, p3⟩ := id ho
  have c2 : fcp (ar W (o + 2)) (ar W (d + 2)) 0 0 6 = ar W (o + 2) := fcp_w (hz.ar (by omega) (by omega) p2) (hz.ar (by omega) (by omega) d2)
  have c3 : fcp (ar W (o + 3)) (ar W (d + 3)) 0 0 6 = ar W (o + 3) := fcp_w (hz.ar (by omega) (by omega) p3) (hz.ar (by omega) (by omega) d3)
  rw [e175]
  simp (disch := omega) only [s_1, s_2, s_3, s_4, s_76, s_5, s_6, s_7, s_8, s_9, s_10, s_11, s_12, s_13, s_14, s_15, s_16, s_17, s_18, s_19, s_20, s_21, s_22, s_23, s_24, s_25, s_26, s_27, s_28, s_29, s_30, s_31, s_32, s_33, s_34, s_35, s_36, s_37, s_38, s_39, s_40l, s_40i, s_40r, s_41, s_43, t_44, t_45, t_46, t_47, s_48, s_49, s_50, s_51, s_52, s_53, s_54, s_55, s_56, s_57, s_58, s_59, s_60, s_61, s_62_0, s_62_1, s_62_2, s_66, s_67, s_68, s_69, s_70, s_71, s_72, s_73, sws_n, sws_c, lget, lset, fget, fset, nolg, nolong, avc, stw, cnd, isobj_eo, GCi, GCn, retk, List.length_cons, List.length_nil, ↓reduceIte, and_true, true_and, not_true_eq_false, not_false_eq_true, forall_const, Nat.reduceAdd, Nat.reduceLT, Nat.reduceLeDiff, Nat.lt_add_one, Nat.le_refl, Nat.zero_le, Nat.sub_zero, Int.reduceEq, Int.reduceNe, Int.reduceLT, Int.reduceLE, Int.reduceAdd, Int.reduceSub, Int.reduceMul, Int.reduceNeg, Int.reduceTDiv, Int.reduceTMod, ne_eq, reduceCtorEq, Nat.reduceEqDiff, Int.cast_ofNat_Int, true_or, or_true, false_or, or_false, lcq_0, lcq_2, lcq_3, lcq_4, lcq_5, wu_s, wu_1, wu_w, wu_lt, wu_ne, ar_s, ar_n, rr_s, rr_n, ob_n, nz_c, lt_T, lt_F, le_T, le_F, ie_T, ie_F, nt_T, nt_F, nl_T, nl_F, in_T, and_false, false_and, and_self, not_true_eq_false, Int.toNat_natCast, Int.reduceToNat, if_true, if_false, mi_175, i175_0, i175_1, i175_2, i175_5, i175_8, i175_9, i175_12, i175_13, i175_14, i175_17, i175_18, i175_19, i175_22, i175_24, i175_25, i175_28, i175_29, i175_32, i175_33, i175_34, i175_37, i175_38, i175_40, i175_43, i175_44, i175_47, i175_48, i175_49, i175_52, i175_53, i175_55, i175_58, g4_0, g4_1, g4_2, g4_3, p4_0, d0, d1, d2, d3, p0, p1, p2, p3, fu_eq, Int.zero_add, c2, c3]
  refine hQ _ rfl (fun k hk => ?_) ?_ ?_ (fun i hi => ?_) ?_ ?_
  · simp (disch := omega) only [wu_ne]
  · have e0 : (wu (wu (wu (wu W d (o4 d (fu (ob W d) 0 (ob W o 0)))) (d + 1) (ea 0 420 (fcp (ar W (o + 1)) (ar W (d + 1)) 0 0 (ob W o 0 * 7).toNat))) (d + 2) (ea 0 6 (ar W (o + 2)))) (d + 3) (ea 0 6 (ar W (o + 3)))).2 d = o4 d (fu (ob W d) 0 (ob W o 0)) := by simp (disch := omega) only [wu_ne, wu_s]
    refine ⟨q4 e0, ?_, ?_, ?_⟩ <;> simp (disch := omega) only [wu_ne, wu_s, ar_n, ar_s]
  · simp (disch := omega) only [ob_n, b4_0, fu_eq]
  · simp (disch := omega) only [ar_n, ar_s]
    exact fcp_lt (by omega)
  · simp (disch := omega) only [ar_n, ar_s]
  · simp (disch := omega) only [ar_s]
theorem x_newMud {W : AW} {Q : AQ} (hW : 192 ≤ W.1) (hQ : ∀ V, V.1 = W.1 + 17 → (∀ k, k < W.1 → V.2 k = W.2 k) → MS V W.1 → Ln V W.1 → Q none V) : Gm 3 [vr W.1] (wn W (eo 2 (fdf 2))) Q := by
  have q67 : nfz = 67 := rfl
  have e : wn W (eo 2 (fdf 2)) = wx (W.1 + 1) (fu W.2 W.1 (eo 2 (fdf 2))) [] := (wx_e (W := wn W (eo 2 (fdf 2)))).symm
  rw [e]
  refine ct_Mud (by omega) (by omega) (fu_eq _ _ _) ?_
  have ex : ∀ i, i < 16 → (wx (W.1 + 1) (fu (fu W.2 W.1 (eo 2 (fdf 2))) W.1 (o_Mud (W.1 + 1))) (l_Mud (W.1 + 1))).2 (W.1 + 1 + i) = xget (l_Mud (W.1 + 1)) i (eo 0 []) := fun i hi => by
    rw [wx_n]
    rcases (show i = 0 ∨ i = 1 ∨ i = 2 ∨ i = 3 ∨ i = 4 ∨ i = 5 ∨ i = 6 ∨ i = 7 ∨ i = 8 ∨ i = 9 ∨ i = 10 ∨ i = 11 ∨ i = 12 ∨ i = 13 ∨ i = 14 ∨ i = 15 by omega) with rfl | rfl | rfl | rfl | rfl | rfl | rfl | rfl | rfl | rfl | rfl | rfl | rfl | rfl | rfl | rfl <;> rfl
  have e0 : (wx (W.1 + 1) (fu (fu W.2 W.1 (eo 2 (fdf 2))) W.1 (o_Mud (W.1 + 1))) (l_Mud (W.1 + 1))).2 W.1 = o_Mud (W.1 + 1) := by rw [wx_o (by omega), fu_eq]
  have go : ∀ V : AW, (∀ i, i < 16 → V.2 (W.1 + 1 + i) = xget (l_Mud (W.1 + 1)) i (eo 0 [])) → V.2 W.1 = o_Mud (W.1 + 1) → MS V W.1 ∧ Ln V W.1 := by
    intro V ex e0
    have hM : MudAt V W.1 0 0 0 0 0 0 z0 z0 z0 z0 z0 z0 z0 z0 := by
      refine ⟨?_, ex 0 (by decide), ex 1 (by decide), ex 2 (by decide), ex 3 (by decide), ex 4 (by decide), ex 5 (by decide), ex 6 (by decide), ex 7 (by decide)⟩
      rw [e0]
    have hT : TearsAt V (W.1 + 9) 0 z0 z0 z0 z0 z0 z0 z0 := by
      refine ⟨?_, ex 9 (by decide), ex 10 (by decide), ex 11 (by decide), ex 12 (by decide), ex 13 (by decide), ex 14 (by decide), ex 15 (by decide)⟩
      have := ex 8 (by decide)
      simp only [Nat.add_assoc, Nat.reduceAdd, xget] at this ⊢
      exact this
    have hh := MS.of hM hT
    refine ⟨hh.1, fun t ht => ?_⟩
    rw [hh.2.2.1] at ht
    omega
  have hg := go _ ex e0
  refine hQ _ rfl (fun k hk => ?_) hg.1 hg.2
  rw [wx_o (by omega), fu_ne _ _ (by omega), fu_ne _ _ (by omega)]
theorem x_newNotes {W : AW} {Q : AQ} (hW : 192 ≤ W.1) (hQ : ∀ V, V.1 = W.1 + 4 → (∀ k, k < W.1 → V.2 k = W.2 k) → NS V W.1 → Q none V) : Gm 5 [vr W.1] (wn W (eo 4 (fdf 4))) Q := by
  have q67 : nfz = 67 := rfl
  have e : wn W (eo 4 (fdf 4)) = wx (W.1 + 1) (fu W.2 W.1 (eo 4 (fdf 4))) [] := (wx_e (W := wn W (eo 4 (fdf 4)))).symm
  rw [e]
  refine ct_Notes (by omega) (by omega) (fu_eq _ _ _) ?_
  have ex : ∀ i, i < 3 → (wx (W.1 + 1) (fu (fu W.2 W.1 (eo 4 (fdf 4))) W.1 (eo 4 [vi 0, vr (W.1 + 1), vr (W.1 + 1 + 1), vr (W.1 + 1 + 2)])) [ea 0 420 z0, ea 0 6 (flf z0 6 (-1)), ea 0 6 z0]).2 (W.1 + 1 + i) = xget [ea 0 420 z0, ea 0 6 (flf z0 6 (-1)), ea 0 6 z0] i (eo 0 []) := fun i hi => by
    rw [wx_n]
    rcases (show i = 0 ∨ i = 1 ∨ i = 2 by omega) with rfl | rfl | rfl <;> rfl
  have e0 : (wx (W.1 + 1) (fu (fu W.2 W.1 (eo 4 (fdf 4))) W.1 (eo 4 [vi 0, vr (W.1 + 1), vr (W.1 + 1 + 1), vr (W.1 + 1 + 2)])) [ea 0 420 z0, ea 0 6 (flf z0 6 (-1)), ea 0 6 z0]).2 W.1 = eo 4 [vi 0, vr (W.1 + 1), vr (W.1 + 1 + 1), vr (W.1 + 1 + 2)] := by rw [wx_o (by omega), fu_eq]
  refine hQ _ rfl (fun k hk => ?_) ?_
  · rw [wx_o (by omega), fu_ne _ _ (by omega), fu_ne _ _ (by omega)]
  · generalize wx (W.1 + 1) (fu (fu W.2 W.1 (eo 4 (fdf 4))) W.1 (eo 4 [vi 0, vr (W.1 + 1), vr (W.1 + 1 + 1), vr (W.1 + 1 + 2)])) [ea 0 420 z0, ea 0 6 (flf z0 6 (-1)), ea 0 6 z0] = V at ex e0
    have h0 : V.2 W.1 = o4 W.1 (fun _ => 0) := e0
    have x1 : V.2 (W.1 + 1) = ea 0 420 z0 := ex 0 (by decide)
    have x2 : V.2 (W.1 + 2) = ea 0 6 (flf z0 6 (-1)) := ex 1 (by decide)
    have x3 : V.2 (W.1 + 3) = ea 0 6 z0 := ex 2 (by decide)
    exact ⟨q4 h0, by rw [ar_ea x1]; exact x1, by rw [ar_ea x2]; exact x2, by rw [ar_ea x3]; exact x3⟩
end NB
theorem Sq2.rf {σ : SG} : Sq2 σ σ := ⟨Sq.rf, rfl, fun _ _ => rfl, rfl, rfl⟩
theorem Sq2.tr {σ τ ρ : SG} (h : Sq2 σ τ) (g : Sq2 τ ρ) : Sq2 σ ρ := ⟨h.1.tr g.1, h.2.1.trans g.2.1, fun i hi => (h.2.2.1 i hi).trans (g.2.2.1 i (by rw [← h.2.1]; exact hi)), h.2.2.2.1.trans g.2.2.2.1, h.2.2.2.2.trans g.2.2.2.2⟩
theorem ImC.ow {W : AW} {ow ow2 : Nat → Nat} {im nt : Option Nat} {k : Nat} {o : Option SG} (h : ImC W ow im nt k o) (hw : ∀ x, x < W.1 → ow2 x = ow x) : ImC W ow2 im nt k o := by
  cases o with
  | none => exact h
  | some σ =>
    obtain ⟨m, n, a1, a2, a3, a4, a5, a6, a7, a8, a9⟩ := h
    exact ⟨m, n, a1, a2, a3, a4, a5, a6, a7, fun j q => by rw [hw _ (by omega)]; exact a8 j q, fun j q => by rw [hw _ (by omega)]; exact a9 j q⟩
abbrev sIm (s : ST) (k : Nat) (σ : SG) : ST := (s.1, s.2.1, s.2.2.1, s.2.2.2.1, s.2.2.2.2.1, fu (sI s) k (some σ))
theorem OwC.img {U V : AW} {s : ST} {ow : Nat → Nat} {k : Nat} {σ : SG} (h : OwC U s ow) (h0 : sN s 0 ≤ 8) (h1 : sN s 1 ≤ 8) (hk : k < 4) (hv : V.1 = U.1) (hag : ∀ x, ow x ≠ 16 + k → ow x ≠ 20 + k → V.2 x = U.2 x) (hr : ∀ x, 114 ≤ x → x ≤ 117 → V.2 x = U.2 x) (hi : ImC V ow (rr U 114 k) (rr U 115 k) k (some σ)) : OwC V (sIm s k σ) ow := by
  obtain ⟨a1, a2, a3⟩ := h
  refine ⟨fun j q => ?_, fun j q => ?_, fun j q => ?_⟩
  · obtain ⟨ll, b1, b2, b3⟩ := a1 j q
    have q2 : (j : Int) < sN s 0 := q
    have hx : ∀ ca cb cc ce cf, U.2 ll = o6 ca cb cc ce cf → ∀ x, x = ll ∨ x = ca ∨ x = cb ∨ x = cc ∨ x = ce ∨ x = cf → V.2 x = U.2 x := fun ca cb cc ce cf e x hx => hag x (by rw [b3 ca cb cc ce cf e x hx]; omega) (by rw [b3 ca cb cc ce cf e x hx]; omega)
    have e : V.2 ll = U.2 ll := by
      obtain ⟨xa, xb, xc, xe, xf, st, c1, c2, c3, c4, c5, -⟩ := id b2
      exact hx _ _ _ _ _ c5 ll (Or.inl rfl)
    refine ⟨ll, by rw [rr_c (hr 116 (by decide) (by decide))]; exact b1, b2.own (Nat.le_of_eq hv.symm) hx, ?_⟩
    unfold ROw at b3 ⊢
    rw [e]
    exact b3
  · obtain ⟨ll, b1, b2, b3⟩ := a2 j q
    have q2 : (j : Int) < sN s 1 := q
    have hx : ∀ ca cb cc ce cf, U.2 ll = o6 ca cb cc ce cf → ∀ x, x = ll ∨ x = ca ∨ x = cb ∨ x = cc ∨ x = ce ∨ x = cf → V.2 x = U.2 x := fun ca cb cc ce cf e x hx => hag x (by rw [b3 ca cb cc ce cf e x hx]; omega) (by rw [b3 ca cb cc ce cf e x hx]; omega)
    have e : V.2 ll = U.2 ll := by
      obtain ⟨xa, xb, xc, xe, xf, kd, md, en, c1, c2, -⟩ := id b2
      exact hx _ _ _ _ _ c2 ll (Or.inl rfl)
    refine ⟨ll, by rw [rr_c (hr 117 (by decide) (by decide))]; exact b1, b2.own (Nat.le_of_eq hv.symm) hx, ?_⟩
    unfold ROw at b3 ⊢
    rw [e]
    exact b3
  · rw [rr_c (hr 114 (by decide) (by decide)), rr_c (hr 115 (by decide) (by decide))]
    by_cases c : j = k
    · subst c
      show ImC V ow _ _ j (fu (sI s) j (some σ) j)
      rw [fu_eq]
      exact hi
    · show ImC V ow _ _ j (fu (sI s) k (some σ) j)
      rw [fu_ne _ _ c]
      exact (a3 j q).cg (Nat.le_of_eq hv.symm) (fun x p q r => hag x (by omega) (by omega))
section IMG
variable {W : AW} {Q : AQ} {s : ST} {c : Int} {k bs : Nat} {σ : SG}
theorem ns110 (h : CS W) : NS W 110 := ⟨ca_110 h, ca_111 h, ca_112 h, ca_113 h⟩
theorem x_imgDo1 (hz : Zw W) (hH : CH W) (hC : CC W s) (f0 : 0 ≤ sF s 0 5 ∧ sF s 0 5 ≤ 200 ∧ 0 ≤ sF s 0 6 ∧ sF s 0 6 ≤ 60) (hn0 : sN s 0 ≤ 8) (hn1 : sN s 1 ≤ 8) (hk : k < 4) (hi : sI s k = some σ) (hQ : ∀ V, CH V → CC V (sIm s k (sF s)) → Q (some (vi (sF s 0 4))) V) : G 174 62 [some (vr 67), some (vi (k : Int))] [] W 0 bs Q := by
  have hw : 192 ≤ W.1 := hH.1.1
  obtain ⟨b1, b2, b3, b4, ow, b5⟩ := id hC
  have him := b5.2.2 k hk
  rw [hi] at him
  obtain ⟨m, n, i1, i2, i3, i4, i5, i6, i7, i8, i9⟩ := him
  have hdj : m + 16 < n ∨ n + 3 < m := by
    by_cases q : m + 16 < n ∨ n + 3 < m
    · exact q
    · by_cases q2 : m ≤ n
      · have x1 := i8 (n - m) (by omega)
        have x2 := i9 0 (by omega)
        rw [show m + (n - m) = n + 0 by omega] at x1
        omega
      · have x1 := i8 0 (by omega)
        have x2 := i9 (m - n) (by omega)
        rw [show n + (m - n) = m + 0 by omega] at x2
        omega
  have e5 : ob W (76 + 9) 0 = sF s 0 5 := hC.v.2.2.2.2.2.1
  rw [i174_62]
  simp (disch := omega) only [s_1, s_2, s_3, s_4, s_76, s_5, s_6, s_7, s_8, s_9, s_10, s_11, s_12, s_13, s_14, s_15, s_16, s_17, s_18, s_19, s_20, s_21, s_22, s_23, s_24, s_25, s_26, s_27, s_28, s_29, s_30, s_31, s_32, s_33, s_34, s_35, s_36, s_37, s_38, s_39, s_40l, s_40i, s_40r, s_41, s_43, t_44, t_45, t_46, t_47, s_48, s_49, s_50, s_51, s_52, s_53, s_54, s_55, s_56, s_57, s_58, s_59, s_60, s_61, s_62_0, s_62_1, s_62_2, s_66, s_67, s_68, s_69, s_70, s_71, s_72, s_73, sws_n, sws_c, lget, lset, fget, fset, nolg, nolong, avc, stw, cnd, isobj_eo, GCi, GCn, retk, List.length_cons, List.length_nil, ↓reduceIte, and_true, true_and, not_true_eq_false, not_false_eq_true, forall_const, Nat.reduceAdd, Nat.reduceLT, Nat.reduceLeDiff, Nat.lt_add_one, Nat.le_refl, Nat.zero_le, Nat.sub_zero, Int.reduceEq, Int.reduceNe, Int.reduceLT, Int.reduceLE, Int.reduceAdd, Int.reduceSub, Int.reduceMul, Int.reduceNeg, Int.reduceTDiv, Int.reduceTMod, ne_eq, reduceCtorEq, Nat.reduceEqDiff, Int.cast_ofNat_Int, true_or, or_true, false_or, or_false, lcq_0, lcq_2, lcq_3, lcq_4, lcq_5, wu_s, wu_1, wu_w, wu_lt, wu_ne, ar_s, ar_n, rr_s, rr_n, ob_n, nz_c, lt_T, lt_F, le_T, le_F, ie_T, ie_F, nt_T, nt_F, nl_T, nl_F, in_T, and_false, false_and, and_self, not_true_eq_false, Int.toNat_natCast, Int.reduceToNat, if_true, if_false, mi_174, i174_0, i174_1, i174_4, i174_7, i174_8, i174_9, i174_10, i174_13, i174_16, i174_17, i174_18, i174_19, i174_22, i174_23, i174_24, i174_27, i174_28, i174_31, i174_32, i174_33, i174_36, i174_37, i174_40, i174_41, i174_44, i174_45, i174_48, i174_49, i174_50, i174_53, i174_54, i174_57, i174_58, i174_61, i174_63, i174_66, i174_67, i174_68, i174_69, i174_72, i174_75, i174_76, i174_79, i174_80, i174_81, i174_82, i174_85, i174_88, i174_89, i174_92, i174_95, k3, k5, k14, k21, k154, k175, g11_1, g11_3, g11_4, g11_5, g2_5, ca_67 hH.1, hH.2.2.2.2.1, mv76_0 hH.2.1, i1, ma_0 i4]
  have raw : Gm 154 [vr m, vr 76] W (fun r V => r = none ∧ V.1 = W.1 ∧ (∀ x, x < m ∨ m + 16 < x → V.2 x = W.2 x) ∧ MS V m ∧ Sq (cF V m) (cF W 76) ∧ Ln V m) := x_become (d := m) (o := 76) hz i4 hH.2.1 (by omega) (by omega) (by omega) (by rw [e5]; omega) hC.2.1 (fun V v1 v2 v3 v4 v5 => ⟨rfl, v1, v2, v3, v4, v5⟩)
  refine Gm_post (Gm_zero raw hz) (fun r V q => ?_)
  obtain ⟨⟨rfl, v1, v2, v3, v4, v5⟩, vz⟩ := q
  have hHV : CH V := hH.cg (by omega) (fun x p q => v2 x (by omega))
  have wV : 192 ≤ V.1 := by omega
  have i5V : NS V n := i5.cg (fun j q => v2 _ (by omega))
  have r5 : rr V 115 k = some n := by rw [rr_c (v2 115 (by omega))]; exact i2
  have o110 : ob V 110 0 = sF s 0 6 := by rw [ob_c (v2 110 (by omega))]; exact hC.nt.1
  simp (disch := omega) only [s_1, s_2, s_3, s_4, s_76, s_5, s_6, s_7, s_8, s_9, s_10, s_11, s_12, s_13, s_14, s_15, s_16, s_17, s_18, s_19, s_20, s_21, s_22, s_23, s_24, s_25, s_26, s_27, s_28, s_29, s_30, s_31, s_32, s_33, s_34, s_35, s_36, s_37, s_38, s_39, s_40l, s_40i, s_40r, s_41, s_43, t_44, t_45, t_46, t_47, s_48, s_49, s_50, s_51, s_52, s_53, s_54, s_55, s_56, s_57, s_58, s_59, s_60, s_61, s_62_0, s_62_1, s_62_2, s_66, s_67, s_68, s_69, s_70, s_71, s_72, s_73, sws_n, sws_c, lget, lset, fget, fset, nolg, nolong, avc, stw, cnd, isobj_eo, GCi, GCn, retk, List.length_cons, List.length_nil, ↓reduceIte, and_true, true_and, not_true_eq_false, not_false_eq_true, forall_const, Nat.reduceAdd, Nat.reduceLT, Nat.reduceLeDiff, Nat.lt_add_one, Nat.le_refl, Nat.zero_le, Nat.sub_zero, Int.reduceEq, Int.reduceNe, Int.reduceLT, Int.reduceLE, Int.reduceAdd, Int.reduceSub, Int.reduceMul, Int.reduceNeg, Int.reduceTDiv, Int.reduceTMod, ne_eq, reduceCtorEq, Nat.reduceEqDiff, Int.cast_ofNat_Int, true_or, or_true, false_or, or_false, lcq_0, lcq_2, lcq_3, lcq_4, lcq_5, wu_s, wu_1, wu_w, wu_lt, wu_ne, ar_s, ar_n, rr_s, rr_n, ob_n, nz_c, lt_T, lt_F, le_T, le_F, ie_T, ie_F, nt_T, nt_F, nl_T, nl_F, in_T, and_false, false_and, and_self, not_true_eq_false, Int.toNat_natCast, Int.reduceToNat, if_true, if_false, mi_174, i174_0, i174_1, i174_4, i174_7, i174_8, i174_9, i174_10, i174_13, i174_16, i174_17, i174_18, i174_19, i174_22, i174_23, i174_24, i174_27, i174_28, i174_31, i174_32, i174_33, i174_36, i174_37, i174_40, i174_41, i174_44, i174_45, i174_48, i174_49, i174_50, i174_53, i174_54, i174_57, i174_58, i174_61, i174_63, i174_66, i174_67, i174_68, i174_69, i174_72, i174_75, i174_76, i174_79, i174_80, i174_81, i174_82, i174_85, i174_88, i174_89, i174_92, i174_95, k3, k5, k14, k21, k154, k175, g11_1, g11_3, g11_4, g11_5, g2_5, ca_67 hHV.1, hHV.2.2.2.2.2.1, ca_110 hHV.1, r5, i5V.1]
  refine x_nbecome (d := n) (o := 110) vz i5V (ns110 hHV.1) (by omega) (by omega) (by omega) (by rw [o110]; omega) (fun U u1 u2 u3 u4 u5 u6 u7 => ?_)
  have hHU : CH U := hHV.cg (by omega) (fun x p q => u2 x (by omega))
  have wU : 192 ≤ U.1 := by omega
  have all : ∀ x, x < m ∨ m + 16 < x → x < n ∨ n + 3 < x → U.2 x = W.2 x := fun x a b => (u2 x b).trans (v2 x a)
  have eU : ob U 76 5 = sF s 0 4 := by rw [ob_c (all 76 (by omega) (by omega))]; exact hC.v.2.2.2.2.1
  have mU : ∀ j, j ≤ 16 → U.2 (m + j) = V.2 (m + j) := fun j q => u2 _ (by omega)
  have hs2 : Sq2 (cN U m n) (sF s) := by
    refine ⟨?_, ?_, fun i hi => ?_, ?_, ?_⟩
    · show Sq (cF U m) (sF s)
      rw [cF_c (fun j q _ => mU j q)]
      exact v4.tr hC.1.1
    · show ob U n 0 = sF s 0 6
      rw [u4, o110]
    · have hi2 : (i : Int) < 7 * ob U n 0 := hi
      rw [u4] at hi2
      rw [cN_15, u5 i hi2]
      show ar V 111 i = sF s 15 i
      rw [ar_c (v2 111 (by omega))]
      exact hC.nt.2.1 i (by rw [← o110]; exact hi2)
    · rw [cN_16, u6]
      show ar V 112 = sF s 16
      rw [ar_c (v2 112 (by omega))]
      exact hC.nt.2.2.1
    · rw [cN_17, u7]
      show ar V 113 = sF s 17
      rw [ar_c (v2 113 (by omega))]
      exact hC.nt.2.2.2
  have hOw : OwC U (sIm s k (sF s)) ow := by
    refine b5.img hn0 hn1 hk (by omega) (fun x p q => all x ?_ ?_) (fun x p q => all x (by omega) (by omega)) ?_
    · by_cases c1 : x < m ∨ m + 16 < x
      · exact c1
      · exact absurd (by have := i8 (x - m) (by omega); rw [show m + (x - m) = x by omega] at this; exact this) p
    · by_cases c1 : x < n ∨ n + 3 < x
      · exact c1
      · exact absurd (by have := i9 (x - n) (by omega); rw [show n + (x - n) = x by omega] at this; exact this) q
    · exact ⟨m, n, i1, i2, by omega, v3.cg mU, u3, hs2, v5.cg mU, i8, i9⟩
  have hCU : CC U (sIm s k (sF s)) := by
    refine ⟨?_, b2.cg (fun j q => all _ (by omega) (by omega)), by rw [ob_c (all 67 (by omega) (by omega))]; exact b3, by rw [ar_c (all 118 (by omega) (by omega))]; exact b4, ow, hOw⟩
    rw [cN_c (fun j q => all _ (by omega) (by omega)) (fun j q => all _ (by omega) (by omega))]
    exact b1
  simp (disch := omega) only [s_1, s_2, s_3, s_4, s_76, s_5, s_6, s_7, s_8, s_9, s_10, s_11, s_12, s_13, s_14, s_15, s_16, s_17, s_18, s_19, s_20, s_21, s_22, s_23, s_24, s_25, s_26, s_27, s_28, s_29, s_30, s_31, s_32, s_33, s_34, s_35, s_36, s_37, s_38, s_39, s_40l, s_40i, s_40r, s_41, s_43, t_44, t_45, t_46, t_47, s_48, s_49, s_50, s_51, s_52, s_53, s_54, s_55, s_56, s_57, s_58, s_59, s_60, s_61, s_62_0, s_62_1, s_62_2, s_66, s_67, s_68, s_69, s_70, s_71, s_72, s_73, sws_n, sws_c, lget, lset, fget, fset, nolg, nolong, avc, stw, cnd, isobj_eo, GCi, GCn, retk, List.length_cons, List.length_nil, ↓reduceIte, and_true, true_and, not_true_eq_false, not_false_eq_true, forall_const, Nat.reduceAdd, Nat.reduceLT, Nat.reduceLeDiff, Nat.lt_add_one, Nat.le_refl, Nat.zero_le, Nat.sub_zero, Int.reduceEq, Int.reduceNe, Int.reduceLT, Int.reduceLE, Int.reduceAdd, Int.reduceSub, Int.reduceMul, Int.reduceNeg, Int.reduceTDiv, Int.reduceTMod, ne_eq, reduceCtorEq, Nat.reduceEqDiff, Int.cast_ofNat_Int, true_or, or_true, false_or, or_false, lcq_0, lcq_2, lcq_3, lcq_4, lcq_5, wu_s, wu_1, wu_w, wu_lt, wu_ne, ar_s, ar_n, rr_s, rr_n, ob_n, nz_c, lt_T, lt_F, le_T, le_F, ie_T, ie_F, nt_T, nt_F, nl_T, nl_F, in_T, and_false, false_and, and_self, not_true_eq_false, Int.toNat_natCast, Int.reduceToNat, if_true, if_false, mi_174, i174_0, i174_1, i174_4, i174_7, i174_8, i174_9, i174_10, i174_13, i174_16, i174_17, i174_18, i174_19, i174_22, i174_23, i174_24, i174_27, i174_28, i174_31, i174_32, i174_33, i174_36, i174_37, i174_40, i174_41, i174_44, i174_45, i174_48, i174_49, i174_50, i174_53, i174_54, i174_57, i174_58, i174_61, i174_63, i174_66, i174_67, i174_68, i174_69, i174_72, i174_75, i174_76, i174_79, i174_80, i174_81, i174_82, i174_85, i174_88, i174_89, i174_92, i174_95, k3, k5, k14, k21, k154, k175, g11_1, g11_3, g11_4, g11_5, g2_5, ca_67 hHU.1, mv76_0 hHU.2.1, eU]
  exact hQ U hHU hCU
end IMG
