-- THE SURVEY OF THE CLASS
noncomputable def fgu (t L : Nat → Int) (ln tk : Int) (k : Nat) : Int := if k = 0 then nrr L 100 else if k ≤ 4 then nkn t k 121 else if k = 5 then tn t 180 else if k = 6 then ln else if k = 7 then mxr L (sds t L) 100 else if k = 8 then mnr L (siz L) 100 else if k = 9 then mxr L (siz L) 100 else if k = 10 then tk else smr L (sds t L) 100
theorem LabOK.lb {t L : Nat → Int} (h : LabOK t L) : lab L := fun x hx => by
  have := h.1 x hx
  omega
theorem SuI.fnq {t L : Nat → Int} (h : SuI t 100 L) : LabOK t L := ⟨fun x hx => by
  have h1 := h.1 x hx
  have h2 := h.2.2 x hx
  rcases h1 with q | q
  · exact absurd q h2
  · exact ⟨q.1, q.2.1, q.2.2.2⟩, fun x y hA => (h.2.1 x y hA (h.2.2 x hA.bq.1)).symm⟩
theorem SuI.q0 {t L : Nat → Int} (h : ∀ x, x < 100 → L x = -1) : SuI t 0 L := ⟨fun x hx => Or.inl (h x hx), fun x y hA hx => absurd (h x hA.bq.1) hx, fun x hx => by omega⟩
theorem nkn_0 {t : Nat → Int} {k : Nat} (hk : k = 0 ∨ 5 ≤ k) (n : Nat) : nkn t k n = 0 := by
  unfold nkn
  rw [sm_c (g := fun _ => 0) n (fun x _ => bi_n (fun q => by
    have kb : kdn t (x : Int) = -1 ∨ kdn t (x : Int) = 1 ∨ kdn t (x : Int) = 2 ∨ kdn t (x : Int) = 3 ∨ kdn t (x : Int) = 4 := knd_b
    omega))]
  exact sm_z n
theorem mxr_b {L g : Nat → Int} {M : Int} (h : ∀ i, 0 ≤ g i ∧ g i ≤ M) (hM : 0 ≤ M) : ∀ n, 0 ≤ mxr L g n ∧ mxr L g n ≤ M
  | 0 => ⟨Int.le_refl _, hM⟩
  | n + 1 => by
    have ih := mxr_b h hM n (L := L)
    have := h n
    show 0 ≤ (if L n = (n : Int) then max (mxr L g n) (g n) else mxr L g n) ∧ (if L n = (n : Int) then max (mxr L g n) (g n) else mxr L g n) ≤ M
    split <;> omega
theorem mnr_b {L g : Nat → Int} (h : ∀ i, 0 ≤ g i ∧ g i ≤ 100) : ∀ n, 0 ≤ mnr L g n ∧ mnr L g n ≤ 100
  | 0 => by show (0 : Int) ≤ 100 ∧ (100 : Int) ≤ 100; decide
  | n + 1 => by
    have ih := mnr_b h n (L := L)
    have := h n
    show 0 ≤ (if L n = (n : Int) then min (mnr L g n) (g n) else mnr L g n) ∧ (if L n = (n : Int) then min (mnr L g n) (g n) else mnr L g n) ≤ 100
    split <;> omega
/-- what the survey leaves -/
def SvP (W V : AW) (m M : Nat) (L : Nat → Int) : Prop := Nw W V ∧ LabOK (ar W (m + 6)) L ∧ ar V 140 = L ∧ (∀ r : Nat, r < 100 → L r = (r : Int) → ar V 141 r = siz L r ∧ ar V 142 r = bi (rimP L r)) ∧ NeI (ar W (m + 6)) L 180 (ar V 144) ∧ (∀ k, k < 12 → ar V 143 k = fgu (ar W (m + 6)) L (wed (ar W (m + 11)) M) (ob W m 5) k) ∧ ob V 139 4 = ink L 100 ∧ ob V 139 5 = inc L 100
theorem fgu_of {t L : Nat → Int} {ln tk : Int} {g F F2 : Nat → Int} (h1 : TaF t L 100 g F) (h2 : NoF t 121 F F2) : ∀ k, k < 12 → fu (fu (fu F2 5 (tn t 180)) 6 ln) 10 tk k = fgu t L ln tk k := by
  obtain ⟨-, ⟨b1, b2, b3, b4, b5⟩, c1, c2, c3, c4, c5, c6, c7⟩ := h1
  intro k hk
  have h := h2 k hk
  have z := fun hk => nkn_0 (t := t) (k := k) hk 121
  unfold fgu
  simp only [fu_3]
  rcases (show k = 0 ∨ k = 1 ∨ k = 2 ∨ k = 3 ∨ k = 4 ∨ k = 5 ∨ k = 6 ∨ k = 7 ∨ k = 8 ∨ k = 9 ∨ k = 10 ∨ k = 11 by omega) with rfl | rfl | rfl | rfl | rfl | rfl | rfl | rfl | rfl | rfl | rfl | rfl
  · rw [b1, z (by decide)] at h
    simpa using h
  · rw [c1] at h
    simpa using h
  · rw [c2] at h
    simpa using h
  · rw [c3] at h
    simpa using h
  · rw [c4] at h
    simpa using h
  · simp
  · simp
  · rw [b2, z (by decide)] at h
    simpa using h
  · rw [b3, z (by decide)] at h
    simpa using h
  · rw [b4, z (by decide)] at h
    simpa using h
  · simp
  · rw [b5, z (by decide)] at h
    simpa using h
section SV
variable {W : AW} {Q : AQ} {m : Nat}
theorem x_survB {M : Nat} (hC : CS W) (hM : MS W m) (hm : m = 76 ∨ m = 93) (h0 : ob W (m + 9) 0 = (M : Int)) (hM2 : M ≤ 200) (hQ : ∀ V L, SvP W V m M L → Q none V) {V : AW} {c : Int} (n0 : Nw W V) (hS : SuI (ar W (m + 6)) 100 (ar V 140)) (hsz : ∀ r : Nat, r < 100 → ar V 140 r = (r : Int) → ar V 141 r = siz (ar V 140) r ∧ ar V 142 r = bi (rimP (ar V 140) r)) (hf : ∀ k, k < 12 → ar V 143 k = 0) (hg : ∀ k, k < 200 → ar V 144 k = 0) : G 25 54 [some (vr 139), some (vr m), some (vi c)] [] V 0 0 Q := by
  have q67 : nfz = 67 := rfl
  have hw : 192 ≤ W.1 := hC.1
  have hL := hS.fnq
  have hb := hL.lb
  have w0 : 192 ≤ V.1 := n0.1.1
  rw [i25_54]
  simp (disch := omega) only [s_1, s_2, s_3, s_4, s_76, s_5, s_6, s_7, s_8, s_9, s_10, s_11, s_12, s_13, s_14, s_15, s_16, s_17, s_18, s_19, s_20, s_21, s_22, s_23, s_24, s_25, s_26, s_27, s_28, s_29, s_30, s_31, s_32, s_33, s_34, s_35, s_36, s_37, s_38, s_39, s_40l, s_40i, s_40r, s_41, s_43, t_44, t_45, t_46, t_47, s_48, s_49, s_50, s_51, s_52, s_53, s_54, s_55, s_56, s_57, s_58, s_59, s_60, s_61, s_62_0, s_62_1, s_62_2, s_66, s_67, s_68, s_69, s_70, s_71, s_72, s_73, sws_n, sws_c, lget, lset, fget, fset, nolg, nolong, avc, stw, cnd, isobj_eo, GCi, GCn, retk, List.length_cons, List.length_nil, ↓reduceIte, and_true, true_and, not_true_eq_false, not_false_eq_true, forall_const, Nat.reduceAdd, Nat.reduceLT, Nat.reduceLeDiff, Nat.lt_add_one, Nat.le_refl, Nat.zero_le, Nat.sub_zero, Int.reduceEq, Int.reduceNe, Int.reduceLT, Int.reduceLE, Int.reduceAdd, Int.reduceSub, Int.reduceMul, Int.reduceNeg, Int.reduceTDiv, Int.reduceTMod, ne_eq, reduceCtorEq, Nat.reduceEqDiff, Int.cast_ofNat_Int, true_or, or_true, false_or, or_false, lcq_0, lcq_2, lcq_3, lcq_4, lcq_5, wu_s, wu_1, wu_w, wu_lt, wu_ne, ar_s, ar_n, rr_s, rr_n, ob_n, nz_c, lt_T, lt_F, le_T, le_F, ie_T, ie_F, nt_T, nt_F, nl_T, nl_F, in_T, and_false, false_and, and_self, not_true_eq_false, Int.toNat_natCast, Int.reduceToNat, if_true, if_false, mi_25, i25_0, i25_1, i25_4, i25_5, i25_8, i25_9, i25_12, i25_13, i25_16, i25_17, i25_20, i25_21, i25_24, i25_25, i25_26, i25_27, i25_29, i25_32, i25_33, i25_36, i25_37, i25_38, i25_39, i25_42, i25_43, i25_44, i25_45, i25_48, i25_51, i25_54, i25_55, i25_56, i25_59, i25_60, i25_63, i25_64, i25_65, i25_68, i25_69, i25_72, i25_73, i25_74, i25_77, i25_78, i25_79, i25_82, i25_84, i25_85, i25_88, i25_91, i25_92, i25_93, i25_96, i25_98, i25_99, i25_102, i25_103, k2, k26, k27, k32, k33, k37, k41, k42, g2_14, g2_5, g3_0, g3_3, g3_7, ca_139 n0.1]
  refine x_near n0.1 (n0.ms hM hm) hm hb hg (fun g hg => ?_)
  rw [n0.m6 hm] at hg
  have n1 : Nw W (wu V 144 (ea 3 200 g)) := n0.up (cu_144 n0.1) (by decide)
  have a0 : ar (wu V 144 (ea 3 200 g)) 140 = ar V 140 := ar_n (by decide)
  have a1 : ar (wu V 144 (ea 3 200 g)) 141 = ar V 141 := ar_n (by decide)
  have a2 : ar (wu V 144 (ea 3 200 g)) 142 = ar V 142 := ar_n (by decide)
  have a3 : ar (wu V 144 (ea 3 200 g)) 143 = ar V 143 := ar_n (by decide)
  have a4 : ar (wu V 144 (ea 3 200 g)) 144 = g := ar_s
  generalize wu V 144 (ea 3 200 g) = V1 at *
  have w1 : 192 ≤ V1.1 := n1.1.1
  simp (disch := omega) only [s_1, s_2, s_3, s_4, s_76, s_5, s_6, s_7, s_8, s_9, s_10, s_11, s_12, s_13, s_14, s_15, s_16, s_17, s_18, s_19, s_20, s_21, s_22, s_23, s_24, s_25, s_26, s_27, s_28, s_29, s_30, s_31, s_32, s_33, s_34, s_35, s_36, s_37, s_38, s_39, s_40l, s_40i, s_40r, s_41, s_43, t_44, t_45, t_46, t_47, s_48, s_49, s_50, s_51, s_52, s_53, s_54, s_55, s_56, s_57, s_58, s_59, s_60, s_61, s_62_0, s_62_1, s_62_2, s_66, s_67, s_68, s_69, s_70, s_71, s_72, s_73, sws_n, sws_c, lget, lset, fget, fset, nolg, nolong, avc, stw, cnd, isobj_eo, GCi, GCn, retk, List.length_cons, List.length_nil, ↓reduceIte, and_true, true_and, not_true_eq_false, not_false_eq_true, forall_const, Nat.reduceAdd, Nat.reduceLT, Nat.reduceLeDiff, Nat.lt_add_one, Nat.le_refl, Nat.zero_le, Nat.sub_zero, Int.reduceEq, Int.reduceNe, Int.reduceLT, Int.reduceLE, Int.reduceAdd, Int.reduceSub, Int.reduceMul, Int.reduceNeg, Int.reduceTDiv, Int.reduceTMod, ne_eq, reduceCtorEq, Nat.reduceEqDiff, Int.cast_ofNat_Int, true_or, or_true, false_or, or_false, lcq_0, lcq_2, lcq_3, lcq_4, lcq_5, wu_s, wu_1, wu_w, wu_lt, wu_ne, ar_s, ar_n, rr_s, rr_n, ob_n, nz_c, lt_T, lt_F, le_T, le_F, ie_T, ie_F, nt_T, nt_F, nl_T, nl_F, in_T, and_false, false_and, and_self, not_true_eq_false, Int.toNat_natCast, Int.reduceToNat, if_true, if_false, mi_25, i25_0, i25_1, i25_4, i25_5, i25_8, i25_9, i25_12, i25_13, i25_16, i25_17, i25_20, i25_21, i25_24, i25_25, i25_26, i25_27, i25_29, i25_32, i25_33, i25_36, i25_37, i25_38, i25_39, i25_42, i25_43, i25_44, i25_45, i25_48, i25_51, i25_54, i25_55, i25_56, i25_59, i25_60, i25_63, i25_64, i25_65, i25_68, i25_69, i25_72, i25_73, i25_74, i25_77, i25_78, i25_79, i25_82, i25_84, i25_85, i25_88, i25_91, i25_92, i25_93, i25_96, i25_98, i25_99, i25_102, i25_103, k2, k26, k27, k32, k33, k37, k41, k42, g2_14, g2_5, g3_0, g3_3, g3_7, ca_139 n1.1]
  refine x_tallyR (t := ar W (m + 6)) n1.1 (by rw [a0]; exact hb) (by rw [a0, a1, a2]; exact hsz) a4 (by rw [a0]; exact hg) (by rw [a3]; exact hf) (fun g2 F hT => ?_)
  rw [a0] at hT
  have n2 : Nw W (wu (wu V1 139 (o3 g2)) 143 (ea 0 12 F)) := (n1.up (cu_139 n1.1) (by decide)).up (cu_143 (cu_139 n1.1)) (by decide)
  have b0 : ar (wu (wu V1 139 (o3 g2)) 143 (ea 0 12 F)) 140 = ar V 140 := by rw [ar_n (by decide), ar_n (by decide)]; exact a0
  have b1 : ar (wu (wu V1 139 (o3 g2)) 143 (ea 0 12 F)) 141 = ar V 141 := by rw [ar_n (by decide), ar_n (by decide)]; exact a1
  have b2 : ar (wu (wu V1 139 (o3 g2)) 143 (ea 0 12 F)) 142 = ar V 142 := by rw [ar_n (by decide), ar_n (by decide)]; exact a2
  have b3 : ar (wu (wu V1 139 (o3 g2)) 143 (ea 0 12 F)) 143 = F := ar_s
  have b4 : ar (wu (wu V1 139 (o3 g2)) 143 (ea 0 12 F)) 144 = g := by rw [ar_n (by decide), ar_n (by decide)]; exact a4
  have b5 : ob (wu (wu V1 139 (o3 g2)) 143 (ea 0 12 F)) 139 4 = g2 4 := by rw [ob_n (by decide)]; exact b3_4
  have b6 : ob (wu (wu V1 139 (o3 g2)) 143 (ea 0 12 F)) 139 5 = g2 5 := by rw [ob_n (by decide)]; exact b3_5
  generalize wu (wu V1 139 (o3 g2)) 143 (ea 0 12 F) = V2 at *
  have w2 : 192 ≤ V2.1 := n2.1.1
  have hF : ∀ k, k < 12 → 0 ≤ F k ∧ F k ≤ 1000000 := by
    obtain ⟨-, ⟨e1, e2, e3, e4, e5⟩, d1, d2, d3, d4, d5, d6, d7⟩ := hT
    have r1 := nrr_b (L := ar V 140) (n := 100)
    have r2 := mxr_b (L := ar V 140) (g := sds (ar W (m + 6)) (ar V 140)) (M := 101) (fun _ => sds_b) (by decide) 100
    have r3 := mnr_b (L := ar V 140) (g := siz (ar V 140)) (fun _ => siz_b) 100
    have r4 := mxr_b (L := ar V 140) (g := siz (ar V 140)) (M := 100) (fun _ => siz_b) (by decide) 100
    have r5 := smr_b (t := ar W (m + 6)) (L := ar V 140) (n := 100)
    intro k hk
    rcases (show k = 0 ∨ k = 1 ∨ k = 2 ∨ k = 3 ∨ k = 4 ∨ k = 5 ∨ k = 6 ∨ k = 7 ∨ k = 8 ∨ k = 9 ∨ k = 10 ∨ k = 11 by omega) with rfl | rfl | rfl | rfl | rfl | rfl | rfl | rfl | rfl | rfl | rfl | rfl <;> omega
  simp (disch := omega) only [s_1, s_2, s_3, s_4, s_76, s_5, s_6, s_7, s_8, s_9, s_10, s_11, s_12, s_13, s_14, s_15, s_16, s_17, s_18, s_19, s_20, s_21, s_22, s_23, s_24, s_25, s_26, s_27, s_28, s_29, s_30, s_31, s_32, s_33, s_34, s_35, s_36, s_37, s_38, s_39, s_40l, s_40i, s_40r, s_41, s_43, t_44, t_45, t_46, t_47, s_48, s_49, s_50, s_51, s_52, s_53, s_54, s_55, s_56, s_57, s_58, s_59, s_60, s_61, s_62_0, s_62_1, s_62_2, s_66, s_67, s_68, s_69, s_70, s_71, s_72, s_73, sws_n, sws_c, lget, lset, fget, fset, nolg, nolong, avc, stw, cnd, isobj_eo, GCi, GCn, retk, List.length_cons, List.length_nil, ↓reduceIte, and_true, true_and, not_true_eq_false, not_false_eq_true, forall_const, Nat.reduceAdd, Nat.reduceLT, Nat.reduceLeDiff, Nat.lt_add_one, Nat.le_refl, Nat.zero_le, Nat.sub_zero, Int.reduceEq, Int.reduceNe, Int.reduceLT, Int.reduceLE, Int.reduceAdd, Int.reduceSub, Int.reduceMul, Int.reduceNeg, Int.reduceTDiv, Int.reduceTMod, ne_eq, reduceCtorEq, Nat.reduceEqDiff, Int.cast_ofNat_Int, true_or, or_true, false_or, or_false, lcq_0, lcq_2, lcq_3, lcq_4, lcq_5, wu_s, wu_1, wu_w, wu_lt, wu_ne, ar_s, ar_n, rr_s, rr_n, ob_n, nz_c, lt_T, lt_F, le_T, le_F, ie_T, ie_F, nt_T, nt_F, nl_T, nl_F, in_T, and_false, false_and, and_self, not_true_eq_false, Int.toNat_natCast, Int.reduceToNat, if_true, if_false, mi_25, i25_0, i25_1, i25_4, i25_5, i25_8, i25_9, i25_12, i25_13, i25_16, i25_17, i25_20, i25_21, i25_24, i25_25, i25_26, i25_27, i25_29, i25_32, i25_33, i25_36, i25_37, i25_38, i25_39, i25_42, i25_43, i25_44, i25_45, i25_48, i25_51, i25_54, i25_55, i25_56, i25_59, i25_60, i25_63, i25_64, i25_65, i25_68, i25_69, i25_72, i25_73, i25_74, i25_77, i25_78, i25_79, i25_82, i25_84, i25_85, i25_88, i25_91, i25_92, i25_93, i25_96, i25_98, i25_99, i25_102, i25_103, k2, k26, k27, k32, k33, k37, k41, k42, g2_14, g2_5, g3_0, g3_3, g3_7, ca_139 n2.1]
  refine x_tallyN n2.1 (n2.ms hM hm) hm (by rw [b3]; exact hF) (fun F2 hN => ?_)
  rw [n2.m6 hm, b3] at hN
  have n3 : Nw W (wu V2 143 (ea 0 12 F2)) := n2.up (cu_143 n2.1) (by decide)
  have c0 : ar (wu V2 143 (ea 0 12 F2)) 140 = ar V 140 := by rw [ar_n (by decide)]; exact b0
  have c1 : ar (wu V2 143 (ea 0 12 F2)) 141 = ar V 141 := by rw [ar_n (by decide)]; exact b1
  have c2 : ar (wu V2 143 (ea 0 12 F2)) 142 = ar V 142 := by rw [ar_n (by decide)]; exact b2
  have c3 : ar (wu V2 143 (ea 0 12 F2)) 143 = F2 := ar_s
  have c4 : ar (wu V2 143 (ea 0 12 F2)) 144 = g := by rw [ar_n (by decide)]; exact b4
  have c5 : ob (wu V2 143 (ea 0 12 F2)) 139 4 = g2 4 := by rw [ob_n (by decide)]; exact b5
  have c6 : ob (wu V2 143 (ea 0 12 F2)) 139 5 = g2 5 := by rw [ob_n (by decide)]; exact b6
  generalize wu V2 143 (ea 0 12 F2) = V3 at *
  have w3 : 192 ≤ V3.1 := n3.1.1
  have m3 := n3.ms hM hm
  have e6 : ar V3 (m + 6) = ar W (m + 6) := n3.m6 hm
  have e11 : ar V3 (m + 11) = ar W (m + 11) := ar_c (n3.2.2 _ (by omega))
  have e9 : ob V3 (m + 9) 0 = (M : Int) := by rw [ob_c (n3.2.2 _ (by omega))]; exact h0
  have e5 : ob V3 m 5 = ob W m 5 := by rw [ob_c (n3.2.2 _ (by omega))]
  have tO := fun {Q : AQ} => x_torn (W := V3) (Q := Q) m3 (by omega)
  rw [e6] at tO
  have wE := fun {F : Nat → Int} {Q : AQ} => x_withE (W := wu V3 143 (ea 0 12 F)) (Q := Q) (M := M) (m := m) (m3.ot (by omega)) (by show m + 16 < V3.1; omega) (by rw [ob_n (by omega)]; exact e9) hM2
  have e12 : ∀ F, ar (wu V3 143 (ea 0 12 F)) (m + 11) = ar W (m + 11) := fun F => by rw [ar_n (by omega)]; exact e11
  simp only [e12] at wE
  have q := hQ (wu V3 143 (ea 0 12 (fu (fu (fu F2 5 (tn (ar W (m + 6)) 180)) 6 (wed (ar W (m + 11)) M)) 10 (ob W m 5)))) (ar V 140) ⟨n3.up (cu_143 n3.1) (by decide), hL, by rw [ar_n (by decide)]; exact c0, by rw [ar_n (by decide), ar_n (by decide), c1, c2]; exact hsz, by rw [ar_n (by decide), c4]; exact hg, by rw [ar_s]; exact fgu_of hT hN, by rw [ob_n (by decide), c5]; exact hT.1.1, by rw [ob_n (by decide), c6]; exact hT.1.2⟩
  simp (disch := omega) only [s_1, s_2, s_3, s_4, s_76, s_5, s_6, s_7, s_8, s_9, s_10, s_11, s_12, s_13, s_14, s_15, s_16, s_17, s_18, s_19, s_20, s_21, s_22, s_23, s_24, s_25, s_26, s_27, s_28, s_29, s_30, s_31, s_32, s_33, s_34, s_35, s_36, s_37, s_38, s_39, s_40l, s_40i, s_40r, s_41, s_43, t_44, t_45, t_46, t_47, s_48, s_49, s_50, s_51, s_52, s_53, s_54, s_55, s_56, s_57, s_58, s_59, s_60, s_61, s_62_0, s_62_1, s_62_2, s_66, s_67, s_68, s_69, s_70, s_71, s_72, s_73, sws_n, sws_c, lget, lset, fget, fset, nolg, nolong, avc, stw, cnd, isobj_eo, GCi, GCn, retk, List.length_cons, List.length_nil, ↓reduceIte, and_true, true_and, not_true_eq_false, not_false_eq_true, forall_const, Nat.reduceAdd, Nat.reduceLT, Nat.reduceLeDiff, Nat.lt_add_one, Nat.le_refl, Nat.zero_le, Nat.sub_zero, Int.reduceEq, Int.reduceNe, Int.reduceLT, Int.reduceLE, Int.reduceAdd, Int.reduceSub, Int.reduceMul, Int.reduceNeg, Int.reduceTDiv, Int.reduceTMod, ne_eq, reduceCtorEq, Nat.reduceEqDiff, Int.cast_ofNat_Int, true_or, or_true, false_or, or_false, lcq_0, lcq_2, lcq_3, lcq_4, lcq_5, wu_s, wu_1, wu_w, wu_lt, wu_ne, ar_s, ar_n, rr_s, rr_n, ob_n, nz_c, lt_T, lt_F, le_T, le_F, ie_T, ie_F, nt_T, nt_F, nl_T, nl_F, in_T, and_false, false_and, and_self, not_true_eq_false, Int.toNat_natCast, Int.reduceToNat, if_true, if_false, mi_25, i25_0, i25_1, i25_4, i25_5, i25_8, i25_9, i25_12, i25_13, i25_16, i25_17, i25_20, i25_21, i25_24, i25_25, i25_26, i25_27, i25_29, i25_32, i25_33, i25_36, i25_37, i25_38, i25_39, i25_42, i25_43, i25_44, i25_45, i25_48, i25_51, i25_54, i25_55, i25_56, i25_59, i25_60, i25_63, i25_64, i25_65, i25_68, i25_69, i25_72, i25_73, i25_74, i25_77, i25_78, i25_79, i25_82, i25_84, i25_85, i25_88, i25_91, i25_92, i25_93, i25_96, i25_98, i25_99, i25_102, i25_103, k2, k26, k27, k32, k33, k37, k41, k42, g2_14, g2_5, g3_0, g3_3, g3_7, ca_139 n3.1, ca_143 n3.1, ma_0 m3, ma_9 m3, c3, tO, wE, e5]
  exact q
theorem x_survey {M : Nat} (hC : CS W) (hM : MS W m) (hm : m = 76 ∨ m = 93) (h0 : ob W (m + 9) 0 = (M : Int)) (hM2 : M ≤ 200) (hQ : ∀ V L, SvP W V m M L → Q none V) : Gm 25 [vr 139, vr m] W Q := by
  have q67 : nfz = 67 := rfl
  have hw : 192 ≤ W.1 := hC.1
  have key := loop_u (P := fun c => ∀ V, Nw W V → SuI (ar W (m + 6)) c (ar V 140) → (∀ r : Nat, r < c → ar V 140 r = (r : Int) → ar V 141 r = siz (ar V 140) r ∧ ar V 142 r = bi (rimP (ar V 140) r)) → (∀ k, k < 12 → ar V 143 k = 0) → (∀ k, k < 200 → ar V 144 k = 0) → G 25 26 [some (vr 139), some (vr m), some (vi (c : Int))] [] V 0 0 Q) 100 (fun c hc ih => ?_) ?_ 0 (by omega)
  · rw [e25]
    simp (disch := omega) only [s_1, s_2, s_3, s_4, s_76, s_5, s_6, s_7, s_8, s_9, s_10, s_11, s_12, s_13, s_14, s_15, s_16, s_17, s_18, s_19, s_20, s_21, s_22, s_23, s_24, s_25, s_26, s_27, s_28, s_29, s_30, s_31, s_32, s_33, s_34, s_35, s_36, s_37, s_38, s_39, s_40l, s_40i, s_40r, s_41, s_43, t_44, t_45, t_46, t_47, s_48, s_49, s_50, s_51, s_52, s_53, s_54, s_55, s_56, s_57, s_58, s_59, s_60, s_61, s_62_0, s_62_1, s_62_2, s_66, s_67, s_68, s_69, s_70, s_71, s_72, s_73, sws_n, sws_c, lget, lset, fget, fset, nolg, nolong, avc, stw, cnd, isobj_eo, GCi, GCn, retk, List.length_cons, List.length_nil, ↓reduceIte, and_true, true_and, not_true_eq_false, not_false_eq_true, forall_const, Nat.reduceAdd, Nat.reduceLT, Nat.reduceLeDiff, Nat.lt_add_one, Nat.le_refl, Nat.zero_le, Nat.sub_zero, Int.reduceEq, Int.reduceNe, Int.reduceLT, Int.reduceLE, Int.reduceAdd, Int.reduceSub, Int.reduceMul, Int.reduceNeg, Int.reduceTDiv, Int.reduceTMod, ne_eq, reduceCtorEq, Nat.reduceEqDiff, Int.cast_ofNat_Int, true_or, or_true, false_or, or_false, lcq_0, lcq_2, lcq_3, lcq_4, lcq_5, wu_s, wu_1, wu_w, wu_lt, wu_ne, ar_s, ar_n, rr_s, rr_n, ob_n, nz_c, lt_T, lt_F, le_T, le_F, ie_T, ie_F, nt_T, nt_F, nl_T, nl_F, in_T, and_false, false_and, and_self, not_true_eq_false, Int.toNat_natCast, Int.reduceToNat, if_true, if_false, mi_25, i25_0, i25_1, i25_4, i25_5, i25_8, i25_9, i25_12, i25_13, i25_16, i25_17, i25_20, i25_21, i25_24, i25_25, i25_27, i25_29, i25_32, i25_33, i25_36, i25_37, i25_38, i25_39, i25_42, i25_43, i25_44, i25_45, i25_48, i25_51, i25_54, i25_55, i25_56, i25_59, i25_60, i25_63, i25_64, i25_65, i25_68, i25_69, i25_72, i25_73, i25_74, i25_77, i25_78, i25_79, i25_82, i25_84, i25_85, i25_88, i25_91, i25_92, i25_93, i25_96, i25_98, i25_99, i25_102, i25_103, k2, k26, k27, k32, k33, k37, k41, k42, g2_14, g2_5, g3_0, g3_3, g3_7, ca_139 hC]
    refine ct_fill (ca_143 hC) (by omega) (by omega) (by decide) ?_
    simp (disch := omega) only [s_1, s_2, s_3, s_4, s_76, s_5, s_6, s_7, s_8, s_9, s_10, s_11, s_12, s_13, s_14, s_15, s_16, s_17, s_18, s_19, s_20, s_21, s_22, s_23, s_24, s_25, s_26, s_27, s_28, s_29, s_30, s_31, s_32, s_33, s_34, s_35, s_36, s_37, s_38, s_39, s_40l, s_40i, s_40r, s_41, s_43, t_44, t_45, t_46, t_47, s_48, s_49, s_50, s_51, s_52, s_53, s_54, s_55, s_56, s_57, s_58, s_59, s_60, s_61, s_62_0, s_62_1, s_62_2, s_66, s_67, s_68, s_69, s_70, s_71, s_72, s_73, sws_n, sws_c, lget, lset, fget, fset, nolg, nolong, avc, stw, cnd, isobj_eo, GCi, GCn, retk, List.length_cons, List.length_nil, ↓reduceIte, and_true, true_and, not_true_eq_false, not_false_eq_true, forall_const, Nat.reduceAdd, Nat.reduceLT, Nat.reduceLeDiff, Nat.lt_add_one, Nat.le_refl, Nat.zero_le, Nat.sub_zero, Int.reduceEq, Int.reduceNe, Int.reduceLT, Int.reduceLE, Int.reduceAdd, Int.reduceSub, Int.reduceMul, Int.reduceNeg, Int.reduceTDiv, Int.reduceTMod, ne_eq, reduceCtorEq, Nat.reduceEqDiff, Int.cast_ofNat_Int, true_or, or_true, false_or, or_false, lcq_0, lcq_2, lcq_3, lcq_4, lcq_5, wu_s, wu_1, wu_w, wu_lt, wu_ne, ar_s, ar_n, rr_s, rr_n, ob_n, nz_c, lt_T, lt_F, le_T, le_F, ie_T, ie_F, nt_T, nt_F, nl_T, nl_F, in_T, and_false, false_and, and_self, not_true_eq_false, Int.toNat_natCast, Int.reduceToNat, if_true, if_false, mi_25, i25_0, i25_1, i25_4, i25_5, i25_8, i25_9, i25_12, i25_13, i25_16, i25_17, i25_20, i25_21, i25_24, i25_25, i25_27, i25_29, i25_32, i25_33, i25_36, i25_37, i25_38, i25_39, i25_42, i25_43, i25_44, i25_45, i25_48, i25_51, i25_54, i25_55, i25_56, i25_59, i25_60, i25_63, i25_64, i25_65, i25_68, i25_69, i25_72, i25_73, i25_74, i25_77, i25_78, i25_79, i25_82, i25_84, i25_85, i25_88, i25_91, i25_92, i25_93, i25_96, i25_98, i25_99, i25_102, i25_103, k2, k26, k27, k32, k33, k37, k41, k42, g2_14, g2_5, g3_0, g3_3, g3_7, ca_139 hC]
    refine ct_fill (W := wu W 143 (ea 0 12 (flf (ar W 143) 12 0))) (ca_140 (cu_143 hC)) (by omega) (by rw [wu_1]; omega) (by decide) ?_
    have n1 : Nw W (wu (wu W 143 (ea 0 12 (flf (ar W 143) 12 0))) 140 (ea 0 100 (flf (ar (wu W 143 (ea 0 12 (flf (ar W 143) 12 0))) 140) 100 (-1)))) := ((Nw.rf hC).up (cu_143 hC) (by decide)).up (cu_140 (cu_143 hC)) (by decide)
    have a0 : ∀ x, x < 100 → ar (wu (wu W 143 (ea 0 12 (flf (ar W 143) 12 0))) 140 (ea 0 100 (flf (ar (wu W 143 (ea 0 12 (flf (ar W 143) 12 0))) 140) 100 (-1)))) 140 x = -1 := fun x hx => by rw [ar_s]; exact if_pos hx
    have a3 : ∀ x, x < 12 → ar (wu (wu W 143 (ea 0 12 (flf (ar W 143) 12 0))) 140 (ea 0 100 (flf (ar (wu W 143 (ea 0 12 (flf (ar W 143) 12 0))) 140) 100 (-1)))) 143 x = 0 := fun x hx => by rw [ar_n (by decide), ar_s]; exact if_pos hx
    generalize wu (wu W 143 (ea 0 12 (flf (ar W 143) 12 0))) 140 (ea 0 100 (flf (ar (wu W 143 (ea 0 12 (flf (ar W 143) 12 0))) 140) 100 (-1))) = V1 at *
    have w1 : 192 ≤ V1.1 := n1.1.1
    simp (disch := omega) only [s_1, s_2, s_3, s_4, s_76, s_5, s_6, s_7, s_8, s_9, s_10, s_11, s_12, s_13, s_14, s_15, s_16, s_17, s_18, s_19, s_20, s_21, s_22, s_23, s_24, s_25, s_26, s_27, s_28, s_29, s_30, s_31, s_32, s_33, s_34, s_35, s_36, s_37, s_38, s_39, s_40l, s_40i, s_40r, s_41, s_43, t_44, t_45, t_46, t_47, s_48, s_49, s_50, s_51, s_52, s_53, s_54, s_55, s_56, s_57, s_58, s_59, s_60, s_61, s_62_0, s_62_1, s_62_2, s_66, s_67, s_68, s_69, s_70, s_71, s_72, s_73, sws_n, sws_c, lget, lset, fget, fset, nolg, nolong, avc, stw, cnd, isobj_eo, GCi, GCn, retk, List.length_cons, List.length_nil, ↓reduceIte, and_true, true_and, not_true_eq_false, not_false_eq_true, forall_const, Nat.reduceAdd, Nat.reduceLT, Nat.reduceLeDiff, Nat.lt_add_one, Nat.le_refl, Nat.zero_le, Nat.sub_zero, Int.reduceEq, Int.reduceNe, Int.reduceLT, Int.reduceLE, Int.reduceAdd, Int.reduceSub, Int.reduceMul, Int.reduceNeg, Int.reduceTDiv, Int.reduceTMod, ne_eq, reduceCtorEq, Nat.reduceEqDiff, Int.cast_ofNat_Int, true_or, or_true, false_or, or_false, lcq_0, lcq_2, lcq_3, lcq_4, lcq_5, wu_s, wu_1, wu_w, wu_lt, wu_ne, ar_s, ar_n, rr_s, rr_n, ob_n, nz_c, lt_T, lt_F, le_T, le_F, ie_T, ie_F, nt_T, nt_F, nl_T, nl_F, in_T, and_false, false_and, and_self, not_true_eq_false, Int.toNat_natCast, Int.reduceToNat, if_true, if_false, mi_25, i25_0, i25_1, i25_4, i25_5, i25_8, i25_9, i25_12, i25_13, i25_16, i25_17, i25_20, i25_21, i25_24, i25_25, i25_27, i25_29, i25_32, i25_33, i25_36, i25_37, i25_38, i25_39, i25_42, i25_43, i25_44, i25_45, i25_48, i25_51, i25_54, i25_55, i25_56, i25_59, i25_60, i25_63, i25_64, i25_65, i25_68, i25_69, i25_72, i25_73, i25_74, i25_77, i25_78, i25_79, i25_82, i25_84, i25_85, i25_88, i25_91, i25_92, i25_93, i25_96, i25_98, i25_99, i25_102, i25_103, k2, k26, k27, k32, k33, k37, k41, k42, g2_14, g2_5, g3_0, g3_3, g3_7, ca_139 n1.1]
    refine x_fillL (ca_144 n1.1) (by omega) (by omega) (by decide) ?_
    have n2 : Nw W (wu V1 144 (ea 3 200 (flf (ar V1 144) 200 0))) := n1.up (cu_144 n1.1) (by decide)
    have b0 : ar (wu V1 144 (ea 3 200 (flf (ar V1 144) 200 0))) 140 = ar V1 140 := ar_n (by decide)
    have b3 : ar (wu V1 144 (ea 3 200 (flf (ar V1 144) 200 0))) 143 = ar V1 143 := ar_n (by decide)
    have b4 : ar (wu V1 144 (ea 3 200 (flf (ar V1 144) 200 0))) 144 = flf (ar V1 144) 200 0 := ar_s
    generalize wu V1 144 (ea 3 200 (flf (ar V1 144) 200 0)) = V2 at *
    have w2 : 192 ≤ V2.1 := n2.1.1
    simp (disch := omega) only [s_1, s_2, s_3, s_4, s_76, s_5, s_6, s_7, s_8, s_9, s_10, s_11, s_12, s_13, s_14, s_15, s_16, s_17, s_18, s_19, s_20, s_21, s_22, s_23, s_24, s_25, s_26, s_27, s_28, s_29, s_30, s_31, s_32, s_33, s_34, s_35, s_36, s_37, s_38, s_39, s_40l, s_40i, s_40r, s_41, s_43, t_44, t_45, t_46, t_47, s_48, s_49, s_50, s_51, s_52, s_53, s_54, s_55, s_56, s_57, s_58, s_59, s_60, s_61, s_62_0, s_62_1, s_62_2, s_66, s_67, s_68, s_69, s_70, s_71, s_72, s_73, sws_n, sws_c, lget, lset, fget, fset, nolg, nolong, avc, stw, cnd, isobj_eo, GCi, GCn, retk, List.length_cons, List.length_nil, ↓reduceIte, and_true, true_and, not_true_eq_false, not_false_eq_true, forall_const, Nat.reduceAdd, Nat.reduceLT, Nat.reduceLeDiff, Nat.lt_add_one, Nat.le_refl, Nat.zero_le, Nat.sub_zero, Int.reduceEq, Int.reduceNe, Int.reduceLT, Int.reduceLE, Int.reduceAdd, Int.reduceSub, Int.reduceMul, Int.reduceNeg, Int.reduceTDiv, Int.reduceTMod, ne_eq, reduceCtorEq, Nat.reduceEqDiff, Int.cast_ofNat_Int, true_or, or_true, false_or, or_false, lcq_0, lcq_2, lcq_3, lcq_4, lcq_5, wu_s, wu_1, wu_w, wu_lt, wu_ne, ar_s, ar_n, rr_s, rr_n, ob_n, nz_c, lt_T, lt_F, le_T, le_F, ie_T, ie_F, nt_T, nt_F, nl_T, nl_F, in_T, and_false, false_and, and_self, not_true_eq_false, Int.toNat_natCast, Int.reduceToNat, if_true, if_false, mi_25, i25_0, i25_1, i25_4, i25_5, i25_8, i25_9, i25_12, i25_13, i25_16, i25_17, i25_20, i25_21, i25_24, i25_25, i25_27, i25_29, i25_32, i25_33, i25_36, i25_37, i25_38, i25_39, i25_42, i25_43, i25_44, i25_45, i25_48, i25_51, i25_54, i25_55, i25_56, i25_59, i25_60, i25_63, i25_64, i25_65, i25_68, i25_69, i25_72, i25_73, i25_74, i25_77, i25_78, i25_79, i25_82, i25_84, i25_85, i25_88, i25_91, i25_92, i25_93, i25_96, i25_98, i25_99, i25_102, i25_103, k2, k26, k27, k32, k33, k37, k41, k42, g2_14, g2_5, g3_0, g3_3, g3_7]
    exact key V2 n2 (SuI.q0 (by rw [b0]; exact a0)) (fun r hr => by omega) (by rw [b3]; exact a3) (by rw [b4]; exact fun k hk => if_pos hk)
  · intro V n0 hS hsz hf hg
    have w0 : 192 ≤ V.1 := n0.1.1
    rw [i25_26]
    by_cases c1 : ar V 140 c = -1
    · simp (disch := omega) only [s_1, s_2, s_3, s_4, s_76, s_5, s_6, s_7, s_8, s_9, s_10, s_11, s_12, s_13, s_14, s_15, s_16, s_17, s_18, s_19, s_20, s_21, s_22, s_23, s_24, s_25, s_26, s_27, s_28, s_29, s_30, s_31, s_32, s_33, s_34, s_35, s_36, s_37, s_38, s_39, s_40l, s_40i, s_40r, s_41, s_43, t_44, t_45, t_46, t_47, s_48, s_49, s_50, s_51, s_52, s_53, s_54, s_55, s_56, s_57, s_58, s_59, s_60, s_61, s_62_0, s_62_1, s_62_2, s_66, s_67, s_68, s_69, s_70, s_71, s_72, s_73, sws_n, sws_c, lget, lset, fget, fset, nolg, nolong, avc, stw, cnd, isobj_eo, GCi, GCn, retk, List.length_cons, List.length_nil, ↓reduceIte, and_true, true_and, not_true_eq_false, not_false_eq_true, forall_const, Nat.reduceAdd, Nat.reduceLT, Nat.reduceLeDiff, Nat.lt_add_one, Nat.le_refl, Nat.zero_le, Nat.sub_zero, Int.reduceEq, Int.reduceNe, Int.reduceLT, Int.reduceLE, Int.reduceAdd, Int.reduceSub, Int.reduceMul, Int.reduceNeg, Int.reduceTDiv, Int.reduceTMod, ne_eq, reduceCtorEq, Nat.reduceEqDiff, Int.cast_ofNat_Int, true_or, or_true, false_or, or_false, lcq_0, lcq_2, lcq_3, lcq_4, lcq_5, wu_s, wu_1, wu_w, wu_lt, wu_ne, ar_s, ar_n, rr_s, rr_n, ob_n, nz_c, lt_T, lt_F, le_T, le_F, ie_T, ie_F, nt_T, nt_F, nl_T, nl_F, in_T, and_false, false_and, and_self, not_true_eq_false, Int.toNat_natCast, Int.reduceToNat, if_true, if_false, mi_25, i25_0, i25_1, i25_4, i25_5, i25_8, i25_9, i25_12, i25_13, i25_16, i25_17, i25_20, i25_21, i25_24, i25_25, i25_27, i25_29, i25_32, i25_33, i25_36, i25_37, i25_38, i25_39, i25_42, i25_43, i25_44, i25_45, i25_48, i25_51, i25_54, i25_55, i25_56, i25_59, i25_60, i25_63, i25_64, i25_65, i25_68, i25_69, i25_72, i25_73, i25_74, i25_77, i25_78, i25_79, i25_82, i25_84, i25_85, i25_88, i25_91, i25_92, i25_93, i25_96, i25_98, i25_99, i25_102, i25_103, k2, k26, k27, k32, k33, k37, k41, k42, g2_14, g2_5, g3_0, g3_3, g3_7, ca_139 n0.1, ca_140 n0.1, c1]
      refine x_fillRoom n0.1 (n0.ms hM hm) hm hc (by rw [n0.m6 hm]; exact hS) c1 (fun L q n hF => ?_)
      rw [n0.m6 hm] at hF
      obtain ⟨f1, f2, f3, f4⟩ := hF.fnq hS hc
      have n1 : Nw W (wu (wu (wu (wu V 140 (ea 0 100 L)) 141 (ea 0 100 (fu (ar V 141) c (n : Int)))) 142 (ea 2 100 (fu (ar V 142) c (rkq q n)))) 145 (ea 0 100 q)) := (((n0.up (cu_140 n0.1) (by decide)).up (cu_141 (cu_140 n0.1)) (by decide)).up (cu_142 (cu_141 (cu_140 n0.1))) (by decide)).up (cu_145 (cu_142 (cu_141 (cu_140 n0.1)))) (by decide)
      have a0 : ar (wu (wu (wu (wu V 140 (ea 0 100 L)) 141 (ea 0 100 (fu (ar V 141) c (n : Int)))) 142 (ea 2 100 (fu (ar V 142) c (rkq q n)))) 145 (ea 0 100 q)) 140 = L := by rw [ar_n (by decide), ar_n (by decide), ar_n (by decide), ar_s]
      have a1 : ar (wu (wu (wu (wu V 140 (ea 0 100 L)) 141 (ea 0 100 (fu (ar V 141) c (n : Int)))) 142 (ea 2 100 (fu (ar V 142) c (rkq q n)))) 145 (ea 0 100 q)) 141 = fu (ar V 141) c (n : Int) := by rw [ar_n (by decide), ar_n (by decide), ar_s]
      have a2 : ar (wu (wu (wu (wu V 140 (ea 0 100 L)) 141 (ea 0 100 (fu (ar V 141) c (n : Int)))) 142 (ea 2 100 (fu (ar V 142) c (rkq q n)))) 145 (ea 0 100 q)) 142 = fu (ar V 142) c (rkq q n) := by rw [ar_n (by decide), ar_s]
      have a3 : ar (wu (wu (wu (wu V 140 (ea 0 100 L)) 141 (ea 0 100 (fu (ar V 141) c (n : Int)))) 142 (ea 2 100 (fu (ar V 142) c (rkq q n)))) 145 (ea 0 100 q)) 143 = ar V 143 := by rw [ar_n (by decide), ar_n (by decide), ar_n (by decide), ar_n (by decide)]
      have a4 : ar (wu (wu (wu (wu V 140 (ea 0 100 L)) 141 (ea 0 100 (fu (ar V 141) c (n : Int)))) 142 (ea 2 100 (fu (ar V 142) c (rkq q n)))) 145 (ea 0 100 q)) 144 = ar V 144 := by rw [ar_n (by decide), ar_n (by decide), ar_n (by decide), ar_n (by decide)]
      generalize wu (wu (wu (wu V 140 (ea 0 100 L)) 141 (ea 0 100 (fu (ar V 141) c (n : Int)))) 142 (ea 2 100 (fu (ar V 142) c (rkq q n)))) 145 (ea 0 100 q) = V1 at *
      have w1 : 192 ≤ V1.1 := n1.1.1
      have e := ih V1 n1 (by rw [a0]; exact f1) (fun r hr hl => by
        rw [a0] at hl ⊢
        rw [a1, a2]
        by_cases c2 : r = c
        · rw [c2, fu_eq, fu_eq]
          exact ⟨hF.2.2.2.1, bi_c f3⟩
        · have hr2 : r < c := by omega
          rw [fu_ne _ _ c2, fu_ne _ _ c2]
          have h1 := hsz r hr2 ((f4 r hr2).mp hl)
          have h2 := f2 r hr2
          exact ⟨h1.1.trans h2.1.symm, h1.2.trans (bi_c h2.2.symm)⟩) (by rw [a3]; exact hf) (by rw [a4]; exact hg)
      rw [nc1] at e
      simp (disch := omega) only [s_1, s_2, s_3, s_4, s_76, s_5, s_6, s_7, s_8, s_9, s_10, s_11, s_12, s_13, s_14, s_15, s_16, s_17, s_18, s_19, s_20, s_21, s_22, s_23, s_24, s_25, s_26, s_27, s_28, s_29, s_30, s_31, s_32, s_33, s_34, s_35, s_36, s_37, s_38, s_39, s_40l, s_40i, s_40r, s_41, s_43, t_44, t_45, t_46, t_47, s_48, s_49, s_50, s_51, s_52, s_53, s_54, s_55, s_56, s_57, s_58, s_59, s_60, s_61, s_62_0, s_62_1, s_62_2, s_66, s_67, s_68, s_69, s_70, s_71, s_72, s_73, sws_n, sws_c, lget, lset, fget, fset, nolg, nolong, avc, stw, cnd, isobj_eo, GCi, GCn, retk, List.length_cons, List.length_nil, ↓reduceIte, and_true, true_and, not_true_eq_false, not_false_eq_true, forall_const, Nat.reduceAdd, Nat.reduceLT, Nat.reduceLeDiff, Nat.lt_add_one, Nat.le_refl, Nat.zero_le, Nat.sub_zero, Int.reduceEq, Int.reduceNe, Int.reduceLT, Int.reduceLE, Int.reduceAdd, Int.reduceSub, Int.reduceMul, Int.reduceNeg, Int.reduceTDiv, Int.reduceTMod, ne_eq, reduceCtorEq, Nat.reduceEqDiff, Int.cast_ofNat_Int, true_or, or_true, false_or, or_false, lcq_0, lcq_2, lcq_3, lcq_4, lcq_5, wu_s, wu_1, wu_w, wu_lt, wu_ne, ar_s, ar_n, rr_s, rr_n, ob_n, nz_c, lt_T, lt_F, le_T, le_F, ie_T, ie_F, nt_T, nt_F, nl_T, nl_F, in_T, and_false, false_and, and_self, not_true_eq_false, Int.toNat_natCast, Int.reduceToNat, if_true, if_false, mi_25, i25_0, i25_1, i25_4, i25_5, i25_8, i25_9, i25_12, i25_13, i25_16, i25_17, i25_20, i25_21, i25_24, i25_25, i25_27, i25_29, i25_32, i25_33, i25_36, i25_37, i25_38, i25_39, i25_42, i25_43, i25_44, i25_45, i25_48, i25_51, i25_54, i25_55, i25_56, i25_59, i25_60, i25_63, i25_64, i25_65, i25_68, i25_69, i25_72, i25_73, i25_74, i25_77, i25_78, i25_79, i25_82, i25_84, i25_85, i25_88, i25_91, i25_92, i25_93, i25_96, i25_98, i25_99, i25_102, i25_103, k2, k26, k27, k32, k33, k37, k41, k42, g2_14, g2_5, g3_0, g3_3, g3_7]
      exact e
    · have hlt : ar V 140 c < (c : Int) := by
        rcases hS.1 c hc with q | q
        · exact absurd q c1
        · exact q.2.2.1
      have e := ih V n0 ⟨fun x hx => (hS.1 x hx).imp id (fun q => ⟨q.1, q.2.1, by omega, q.2.2.2⟩), hS.2.1, fun x hx => by
        by_cases c2 : x = c
        · rw [c2]; exact c1
        · exact hS.2.2 x (by omega)⟩ (fun r hr hl => by
        by_cases c2 : r = c
        · rw [c2] at hl; omega
        · exact hsz r (by omega) hl) hf hg
      rw [nc1] at e
      simp (disch := omega) only [s_1, s_2, s_3, s_4, s_76, s_5, s_6, s_7, s_8, s_9, s_10, s_11, s_12, s_13, s_14, s_15, s_16, s_17, s_18, s_19, s_20, s_21, s_22, s_23, s_24, s_25, s_26, s_27, s_28, s_29, s_30, s_31, s_32, s_33, s_34, s_35, s_36, s_37, s_38, s_39, s_40l, s_40i, s_40r, s_41, s_43, t_44, t_45, t_46, t_47, s_48, s_49, s_50, s_51, s_52, s_53, s_54, s_55, s_56, s_57, s_58, s_59, s_60, s_61, s_62_0, s_62_1, s_62_2, s_66, s_67, s_68, s_69, s_70, s_71, s_72, s_73, sws_n, sws_c, lget, lset, fget, fset, nolg, nolong, avc, stw, cnd, isobj_eo, GCi, GCn, retk, List.length_cons, List.length_nil, ↓reduceIte, and_true, true_and, not_true_eq_false, not_false_eq_true, forall_const, Nat.reduceAdd, Nat.reduceLT, Nat.reduceLeDiff, Nat.lt_add_one, Nat.le_refl, Nat.zero_le, Nat.sub_zero, Int.reduceEq, Int.reduceNe, Int.reduceLT, Int.reduceLE, Int.reduceAdd, Int.reduceSub, Int.reduceMul, Int.reduceNeg, Int.reduceTDiv, Int.reduceTMod, ne_eq, reduceCtorEq, Nat.reduceEqDiff, Int.cast_ofNat_Int, true_or, or_true, false_or, or_false, lcq_0, lcq_2, lcq_3, lcq_4, lcq_5, wu_s, wu_1, wu_w, wu_lt, wu_ne, ar_s, ar_n, rr_s, rr_n, ob_n, nz_c, lt_T, lt_F, le_T, le_F, ie_T, ie_F, nt_T, nt_F, nl_T, nl_F, in_T, and_false, false_and, and_self, not_true_eq_false, Int.toNat_natCast, Int.reduceToNat, if_true, if_false, mi_25, i25_0, i25_1, i25_4, i25_5, i25_8, i25_9, i25_12, i25_13, i25_16, i25_17, i25_20, i25_21, i25_24, i25_25, i25_27, i25_29, i25_32, i25_33, i25_36, i25_37, i25_38, i25_39, i25_42, i25_43, i25_44, i25_45, i25_48, i25_51, i25_54, i25_55, i25_56, i25_59, i25_60, i25_63, i25_64, i25_65, i25_68, i25_69, i25_72, i25_73, i25_74, i25_77, i25_78, i25_79, i25_82, i25_84, i25_85, i25_88, i25_91, i25_92, i25_93, i25_96, i25_98, i25_99, i25_102, i25_103, k2, k26, k27, k32, k33, k37, k41, k42, g2_14, g2_5, g3_0, g3_3, g3_7, ca_139 n0.1, ca_140 n0.1, eq_false c1]
      exact e
  · intro V n0 hS hsz hf hg
    have w0 : 192 ≤ V.1 := n0.1.1
    have e := x_survB hC hM hm h0 hM2 hQ (c := ((100 : Nat) : Int)) n0 hS hsz hf hg
    rw [i25_26]
    simp (disch := omega) only [s_1, s_2, s_3, s_4, s_76, s_5, s_6, s_7, s_8, s_9, s_10, s_11, s_12, s_13, s_14, s_15, s_16, s_17, s_18, s_19, s_20, s_21, s_22, s_23, s_24, s_25, s_26, s_27, s_28, s_29, s_30, s_31, s_32, s_33, s_34, s_35, s_36, s_37, s_38, s_39, s_40l, s_40i, s_40r, s_41, s_43, t_44, t_45, t_46, t_47, s_48, s_49, s_50, s_51, s_52, s_53, s_54, s_55, s_56, s_57, s_58, s_59, s_60, s_61, s_62_0, s_62_1, s_62_2, s_66, s_67, s_68, s_69, s_70, s_71, s_72, s_73, sws_n, sws_c, lget, lset, fget, fset, nolg, nolong, avc, stw, cnd, isobj_eo, GCi, GCn, retk, List.length_cons, List.length_nil, ↓reduceIte, and_true, true_and, not_true_eq_false, not_false_eq_true, forall_const, Nat.reduceAdd, Nat.reduceLT, Nat.reduceLeDiff, Nat.lt_add_one, Nat.le_refl, Nat.zero_le, Nat.sub_zero, Int.reduceEq, Int.reduceNe, Int.reduceLT, Int.reduceLE, Int.reduceAdd, Int.reduceSub, Int.reduceMul, Int.reduceNeg, Int.reduceTDiv, Int.reduceTMod, ne_eq, reduceCtorEq, Nat.reduceEqDiff, Int.cast_ofNat_Int, true_or, or_true, false_or, or_false, lcq_0, lcq_2, lcq_3, lcq_4, lcq_5, wu_s, wu_1, wu_w, wu_lt, wu_ne, ar_s, ar_n, rr_s, rr_n, ob_n, nz_c, lt_T, lt_F, le_T, le_F, ie_T, ie_F, nt_T, nt_F, nl_T, nl_F, in_T, and_false, false_and, and_self, not_true_eq_false, Int.toNat_natCast, Int.reduceToNat, if_true, if_false, mi_25, i25_0, i25_1, i25_4, i25_5, i25_8, i25_9, i25_12, i25_13, i25_16, i25_17, i25_20, i25_21, i25_24, i25_25, i25_27, i25_29, i25_32, i25_33, i25_36, i25_37, i25_38, i25_39, i25_42, i25_43, i25_44, i25_45, i25_48, i25_51, i25_55, i25_56, i25_59, i25_60, i25_63, i25_64, i25_65, i25_68, i25_69, i25_72, i25_73, i25_74, i25_77, i25_78, i25_79, i25_82, i25_84, i25_85, i25_88, i25_91, i25_92, i25_93, i25_96, i25_98, i25_99, i25_102, i25_103, k2, k26, k27, k32, k33, k37, k41, k42, g2_14, g2_5, g3_0, g3_3, g3_7]
    exact e
end SV
